/-! ===== printed by wip/gen: X12_roll X11_store X12_store X11_rolled X12_rolled X11_at X12_at X11_thing X12_thing X11_pointed ===== -/
def f_X12_roll_j45   (S : SS) : Option (Int32 × SS) :=
    bnd (f_X12_found (3 : Int32) S) (fun r7 S6 =>
    some (r7, S6))
def f_X12_roll_j95 (K54 : Int32 → Int32 → Int32 → Int32 → SS → Option (Int32 × SS)) (x1 : Int32) (x2 : Int32) (x3 : Int32) (x4 : Int32) (x5 : Int32) (S : SS) : Option (Int32 × SS) :=
    grd (inb x4 8) (wr S 105 x4.toNatClampNeg x5 (fun S10 =>
    nm (x4 + (1 : Int32)) (fun z11 =>
    K54 x1 x2 x3 z11 S10)))
def f_X12_roll_L54  : Nat → Int32 → Int32 → Int32 → Int32 → SS → Option (Int32 × SS)
  | 0, _, _, _, _, _ => none
  | n + 1, x1, x2, x3, x4, S =>
    if x3 ≤ x4 then
      some (x3, S)
    else
      bnd (f_X12_standing x1 (x2 + x4) S) (fun r9 S8 =>
      if r9 = (-4 : Int32) then
        f_X12_roll_j95 (fun v0 v1 v2 v3 S => f_X12_roll_L54 n v0 v1 v2 v3 S) x1 x2 x3 x4 r9 S8
      else
        grd (inb r9 72) (
        if (5 : Int32) ≤ (S8.1 85 r9.toNatClampNeg) then
          f_X12_roll_j95 (fun v0 v1 v2 v3 S => f_X12_roll_L54 n v0 v1 v2 v3 S) x1 x2 x3 x4 r9 S8
        else
          bnd (f_X12_found (4 : Int32) S8) (fun r13 S12 =>
          some (r13, S12))))
def f_X12_roll (a1 : Int32) (a2 : Int32) (a3 : Int32) (S : SS) : Option (Int32 × SS) :=
  bndv (f_X12_begin  S) (fun S1 =>
  bnd (f_X12_missTrack a1 S1) (fun r3 S2 =>
  bnd (f_X12_ends r3 S2) (fun r5 S4 =>
  if r5 = 0 then
    if a2 < 0 then
      f_X12_roll_j45  S4
    else
      if a3 < 0 then
        f_X12_roll_j45  S4
      else
        if (8 : Int32) < a3 then
          f_X12_roll_j45  S4
        else
          grd (inb a1 24) (
          if a3 ≤ ((S4.1 70 a1.toNatClampNeg) - a2) then
            f_X12_roll_L54 NF a1 a2 a3 (0 : Int32) S4
          else
            f_X12_roll_j45  S4)
  else
    some ((-2 : Int32), S4))))
theorem dX12_roll_0 : decode cX12_roll 0 = .ok (.aload_n 0, 1) := by decide +kernel
theorem dX12_roll_1 : decode cX12_roll 1 = .ok (.invokevirtual 226, 3) := by decide +kernel
theorem dX12_roll_4 : decode cX12_roll 4 = .ok (.aload_n 0, 1) := by decide +kernel
theorem dX12_roll_5 : decode cX12_roll 5 = .ok (.aload_n 0, 1) := by decide +kernel
theorem dX12_roll_6 : decode cX12_roll 6 = .ok (.iload_n 1, 1) := by decide +kernel
theorem dX12_roll_7 : decode cX12_roll 7 = .ok (.invokevirtual 223, 3) := by decide +kernel
theorem dX12_roll_10 : decode cX12_roll 10 = .ok (.invokevirtual 236, 3) := by decide +kernel
theorem dX12_roll_13 : decode cX12_roll 13 = .ok (.ifCond .eq 6, 3) := by decide +kernel
theorem dX12_roll_16 : decode cX12_roll 16 = .ok (.bipush (-2), 2) := by decide +kernel
theorem dX12_roll_18 : decode cX12_roll 18 = .ok (.ireturn, 1) := by decide +kernel
theorem dX12_roll_19 : decode cX12_roll 19 = .ok (.iload_n 2, 1) := by decide +kernel
theorem dX12_roll_20 : decode cX12_roll 20 = .ok (.ifCond .lt 25, 3) := by decide +kernel
theorem dX12_roll_23 : decode cX12_roll 23 = .ok (.iload_n 3, 1) := by decide +kernel
theorem dX12_roll_24 : decode cX12_roll 24 = .ok (.ifCond .lt 21, 3) := by decide +kernel
theorem dX12_roll_27 : decode cX12_roll 27 = .ok (.iload_n 3, 1) := by decide +kernel
theorem dX12_roll_28 : decode cX12_roll 28 = .ok (.bipush 8, 2) := by decide +kernel
theorem dX12_roll_30 : decode cX12_roll 30 = .ok (.if_icmp .gt 15, 3) := by decide +kernel
theorem dX12_roll_33 : decode cX12_roll 33 = .ok (.iload_n 3, 1) := by decide +kernel
theorem dX12_roll_34 : decode cX12_roll 34 = .ok (.aload_n 0, 1) := by decide +kernel
theorem dX12_roll_35 : decode cX12_roll 35 = .ok (.getfield 23, 3) := by decide +kernel
theorem dX12_roll_38 : decode cX12_roll 38 = .ok (.iload_n 1, 1) := by decide +kernel
theorem dX12_roll_39 : decode cX12_roll 39 = .ok (.iaload, 1) := by decide +kernel
theorem dX12_roll_40 : decode cX12_roll 40 = .ok (.iload_n 2, 1) := by decide +kernel
theorem dX12_roll_41 : decode cX12_roll 41 = .ok (.isub, 1) := by decide +kernel
theorem dX12_roll_42 : decode cX12_roll 42 = .ok (.if_icmp .le 9, 3) := by decide +kernel
theorem dX12_roll_45 : decode cX12_roll 45 = .ok (.aload_n 0, 1) := by decide +kernel
theorem dX12_roll_46 : decode cX12_roll 46 = .ok (.iconst 3, 1) := by decide +kernel
theorem dX12_roll_47 : decode cX12_roll 47 = .ok (.invokevirtual 210, 3) := by decide +kernel
theorem dX12_roll_50 : decode cX12_roll 50 = .ok (.ireturn, 1) := by decide +kernel
theorem dX12_roll_51 : decode cX12_roll 51 = .ok (.iconst 0, 1) := by decide +kernel
theorem dX12_roll_52 : decode cX12_roll 52 = .ok (.istore 4, 2) := by decide +kernel
theorem dX12_roll_54 : decode cX12_roll 54 = .ok (.iload 4, 2) := by decide +kernel
theorem dX12_roll_56 : decode cX12_roll 56 = .ok (.iload_n 3, 1) := by decide +kernel
theorem dX12_roll_57 : decode cX12_roll 57 = .ok (.if_icmp .ge 53, 3) := by decide +kernel
theorem dX12_roll_60 : decode cX12_roll 60 = .ok (.aload_n 0, 1) := by decide +kernel
theorem dX12_roll_61 : decode cX12_roll 61 = .ok (.iload_n 1, 1) := by decide +kernel
theorem dX12_roll_62 : decode cX12_roll 62 = .ok (.iload_n 2, 1) := by decide +kernel
theorem dX12_roll_63 : decode cX12_roll 63 = .ok (.iload 4, 2) := by decide +kernel
theorem dX12_roll_65 : decode cX12_roll 65 = .ok (.iadd, 1) := by decide +kernel
theorem dX12_roll_66 : decode cX12_roll 66 = .ok (.invokevirtual 279, 3) := by decide +kernel
theorem dX12_roll_69 : decode cX12_roll 69 = .ok (.istore 5, 2) := by decide +kernel
theorem dX12_roll_71 : decode cX12_roll 71 = .ok (.iload 5, 2) := by decide +kernel
theorem dX12_roll_73 : decode cX12_roll 73 = .ok (.bipush (-4), 2) := by decide +kernel
theorem dX12_roll_75 : decode cX12_roll 75 = .ok (.if_icmp .eq 20, 3) := by decide +kernel
theorem dX12_roll_78 : decode cX12_roll 78 = .ok (.aload_n 0, 1) := by decide +kernel
theorem dX12_roll_79 : decode cX12_roll 79 = .ok (.getfield 69, 3) := by decide +kernel
theorem dX12_roll_82 : decode cX12_roll 82 = .ok (.iload 5, 2) := by decide +kernel
theorem dX12_roll_84 : decode cX12_roll 84 = .ok (.iaload, 1) := by decide +kernel
theorem dX12_roll_85 : decode cX12_roll 85 = .ok (.iconst 5, 1) := by decide +kernel
theorem dX12_roll_86 : decode cX12_roll 86 = .ok (.if_icmp .ge 9, 3) := by decide +kernel
theorem dX12_roll_89 : decode cX12_roll 89 = .ok (.aload_n 0, 1) := by decide +kernel
theorem dX12_roll_90 : decode cX12_roll 90 = .ok (.iconst 4, 1) := by decide +kernel
theorem dX12_roll_91 : decode cX12_roll 91 = .ok (.invokevirtual 210, 3) := by decide +kernel
theorem dX12_roll_94 : decode cX12_roll 94 = .ok (.ireturn, 1) := by decide +kernel
theorem dX12_roll_95 : decode cX12_roll 95 = .ok (.aload_n 0, 1) := by decide +kernel
theorem dX12_roll_96 : decode cX12_roll 96 = .ok (.getfield 129, 3) := by decide +kernel
theorem dX12_roll_99 : decode cX12_roll 99 = .ok (.iload 4, 2) := by decide +kernel
theorem dX12_roll_101 : decode cX12_roll 101 = .ok (.iload 5, 2) := by decide +kernel
theorem dX12_roll_103 : decode cX12_roll 103 = .ok (.iastore, 1) := by decide +kernel
theorem dX12_roll_104 : decode cX12_roll 104 = .ok (.iinc 4 1, 3) := by decide +kernel
theorem dX12_roll_107 : decode cX12_roll 107 = .ok (.goto (-53), 3) := by decide +kernel
theorem dX12_roll_110 : decode cX12_roll 110 = .ok (.iload_n 3, 1) := by decide +kernel
theorem dX12_roll_111 : decode cX12_roll 111 = .ok (.ireturn, 1) := by decide +kernel
set_option maxRecDepth 100000 in
set_option maxHeartbeats 4000000 in
theorem w_X12_roll_j45 {p : Program} {l : Launch} {e : Env} {R : Room} {s : State} {m : MethodId} {args : Array Value} {below : List Frame} {meth : Method} {c : Code} {dC : Nat → ClassId} {dI : Nat → Nat → Nat} {cs : Nat → ClassId} {ad : Nat → Nat} {A : Nat → Prop} {D0 : Nat → Nat} {S' : SS} {r : Int32} (F : Fx p s m args meth c cX12_roll 6 RX12 (some .int) dC dI cs A) (hR1 : 1 ≤ R.frames) (hR2 : 21 ≤ R.locals)  (S : SS) (h : f_X12_roll_j45  S = some (r, S')) : AW p l e R s m args below meth c dC dI cs ad A D0 (some (.int r)) S' 6 45 [(0, .ref (ad 14))] [] S := by
  have hx := F.1.1
  have hb := F.1.2.1
  intro H locs ls w hl
  rw [f_X12_roll_j45] at h
  refine lv_aload_n (pc := 45) hx hb dX12_roll_45 rfl (lv_at hl 0 rfl) ?_
  refine lv_iconst (pc := 46) (v := 3) hx hb dX12_roll_46 (by decide) ?_
  obtain ⟨r7, S6, hc, h⟩ := bnd_t h
  refine s_cvi (pc := 47) [.int (3 : Int32)] (fun ad => [.ref (ad 14), .int (3 : Int32)]) F w (m_X12_found _ _ _ _ hc) rfl rfl hl.1 ds_14 vc_X12 rfl ok_X12_found rfl kc_X12_found kl_X12_210 ki_X12_found kv_X12_found kn_X12 ⟨Nat.le_trans (by decide) hR1, Nat.le_trans (by decide) hR2⟩ ⟨Nat.zero_le _, Nat.zero_le _⟩ (Nat.le_of_ble_eq_true rfl) dX12_roll_47 (fun H locs w => ?_)
  exact s_iret F w h dX12_roll_50
set_option maxRecDepth 100000 in
set_option maxHeartbeats 4000000 in
theorem w_X12_roll_j95 {p : Program} {l : Launch} {e : Env} {R : Room} {s : State} {m : MethodId} {args : Array Value} {below : List Frame} {meth : Method} {c : Code} {dC : Nat → ClassId} {dI : Nat → Nat → Nat} {cs : Nat → ClassId} {ad : Nat → Nat} {A : Nat → Prop} {D0 : Nat → Nat} {S' : SS} {r : Int32} (F : Fx p s m args meth c cX12_roll 6 RX12 (some .int) dC dI cs A) (hR1 : 0 ≤ R.frames) (hR2 : 0 ≤ R.locals) (K54 : Int32 → Int32 → Int32 → Int32 → SS → Option (Int32 × SS)) (hK54 : ∀ (v0 : Int32) (v1 : Int32) (v2 : Int32) (v3 : Int32) (S : SS), K54 v0 v1 v2 v3 S = some (r, S') → AW p l e R s m args below meth c dC dI cs ad A D0 (some (.int r)) S' 6 54 [(0, .ref (ad 14)), (1, .int v0), (2, .int v1), (3, .int v2), (4, .int v3)] [] S) (x1 : Int32) (x2 : Int32) (x3 : Int32) (x4 : Int32) (x5 : Int32) (S : SS) (h : f_X12_roll_j95 K54 x1 x2 x3 x4 x5 S = some (r, S')) : AW p l e R s m args below meth c dC dI cs ad A D0 (some (.int r)) S' 6 95 [(0, .ref (ad 14)), (1, .int x1), (2, .int x2), (3, .int x3), (4, .int x4), (5, .int x5)] [] S := by
  have hx := F.1.1
  have hb := F.1.2.1
  intro H locs ls w hl
  rw [f_X12_roll_j95] at h
  refine lv_aload_n (pc := 95) hx hb dX12_roll_95 rfl (lv_at hl 0 rfl) ?_
  refine s_getR (pc := 96) F w 105 ds_14 (j := 53) vc_X12 vi_X12 rfl (by decide) kf_X12_129 dX12_roll_96 ?_
  refine lv_iload (pc := 99) hx hb dX12_roll_99 (lv_at hl 4 rfl) ?_
  refine lv_iload (pc := 101) hx hb dX12_roll_101 (lv_at hl 5 rfl) ?_
  refine s_iast (pc := 103) F w ds_105 h dX12_roll_103 (fun S10 H locs h w => ?_)
  refine s_nm h (fun z11 ez11 h => ?_)
  refine lv_iinc (pc := 104) (v := z11) (lv' := [(4, .int z11), (0, .ref (ad 14)), (1, .int x1), (2, .int x2), (3, .int x3), (5, .int x5)]) hx hb dX12_roll_104 hl (k := 4) rfl (by rw [ez11]; rfl) (by decide) rfl (fun ls hl => ?_)
  refine lv_goto (pc := 107) (tgt := 54) hx hb dX12_roll_107 (by decide) ?_
  exact hK54 _ _ _ _ _ h _ _ _ w (lv_sub hl [1, 2, 3, 4, 0] rfl)
set_option maxRecDepth 100000 in
set_option maxHeartbeats 4000000 in
theorem w_X12_roll_L54 {p : Program} {l : Launch} {e : Env} {R : Room} {s : State} {m : MethodId} {args : Array Value} {below : List Frame} {meth : Method} {c : Code} {dC : Nat → ClassId} {dI : Nat → Nat → Nat} {cs : Nat → ClassId} {ad : Nat → Nat} {A : Nat → Prop} {D0 : Nat → Nat} {S' : SS} {r : Int32} (F : Fx p s m args meth c cX12_roll 6 RX12 (some .int) dC dI cs A) (hR1 : 1 ≤ R.frames) (hR2 : 23 ≤ R.locals) : ∀ (n : Nat) (x1 : Int32) (x2 : Int32) (x3 : Int32) (x4 : Int32) (S : SS), f_X12_roll_L54 n x1 x2 x3 x4 S = some (r, S') → AW p l e R s m args below meth c dC dI cs ad A D0 (some (.int r)) S' 6 54 [(0, .ref (ad 14)), (1, .int x1), (2, .int x2), (3, .int x3), (4, .int x4)] [] S := by
  have hx := F.1.1
  have hb := F.1.2.1
  intro n
  induction n with
  | zero => intro x1 x2 x3 x4 S h; cases h
  | succ n ih =>
    intro x1 x2 x3 x4 S h H locs ls w hl
    rw [f_X12_roll_L54] at h
    refine lv_iload (pc := 54) hx hb dX12_roll_54 (lv_at hl 4 rfl) ?_
    refine lv_iload_n (pc := 56) hx hb dX12_roll_56 rfl (lv_at hl 3 rfl) ?_
    refine lv_icmp_ge (pc := 57) (tgt := 110) hx hb dX12_roll_57 (by decide) (fun q => ?_) (fun q => ?_)
    · have h := ite_t q h
      refine lv_iload_n (pc := 110) hx hb dX12_roll_110 rfl (lv_at hl 3 rfl) ?_
      exact s_iret F w h dX12_roll_111
    · have h := ite_f q h
      refine lv_aload_n (pc := 60) hx hb dX12_roll_60 rfl (lv_at hl 0 rfl) ?_
      refine lv_iload_n (pc := 61) hx hb dX12_roll_61 rfl (lv_at hl 1 rfl) ?_
      refine lv_iload_n (pc := 62) hx hb dX12_roll_62 rfl (lv_at hl 2 rfl) ?_
      refine lv_iload (pc := 63) hx hb dX12_roll_63 (lv_at hl 4 rfl) ?_
      refine lv_iadd (pc := 65) hx hb dX12_roll_65 ?_
      obtain ⟨r9, S8, hc, h⟩ := bnd_t h
      refine s_cvi (pc := 66) [.int x1, .int (x2 + x4)] (fun ad => [.ref (ad 14), .int x1, .int (x2 + x4)]) F w (m_X12_standing _ _ _ _ _ hc) rfl rfl hl.1 ds_14 vc_X12 rfl ok_X12_standing rfl kc_X12_standing kl_X12_279 ki_X12_standing kv_X12_standing kn_X12 ⟨Nat.le_trans (by decide) hR1, Nat.le_trans (by decide) hR2⟩ ⟨Nat.zero_le _, Nat.zero_le _⟩ (Nat.le_of_ble_eq_true rfl) dX12_roll_66 (fun H locs w => ?_)
      refine lv_istore (pc := 69) (lv' := [(5, .int r9), (0, .ref (ad 14)), (1, .int x1), (2, .int x2), (3, .int x3), (4, .int x4)]) hx hb dX12_roll_69 hl (by decide) rfl (fun ls hl => ?_)
      refine lv_iload (pc := 71) hx hb dX12_roll_71 (lv_at hl 0 rfl) ?_
      refine lv_bipush (pc := 73) (v := -4) hx hb dX12_roll_73 (by decide) ?_
      refine lv_icmp_eq (pc := 75) (tgt := 95) hx hb dX12_roll_75 (by decide) (fun q => ?_) (fun q => ?_)
      · have h := ite_t q h
        exact w_X12_roll_j95 F (Nat.le_trans (by decide) hR1) (Nat.le_trans (by decide) hR2) _ (fun v0 v1 v2 v3 S h => ih v0 v1 v2 v3 S h) _ _ _ _ _ _ h _ _ _ w (lv_sub hl [1, 2, 3, 4, 5, 0] rfl)
      · have h := ite_f q h
        refine lv_aload_n (pc := 78) hx hb dX12_roll_78 rfl (lv_at hl 1 rfl) ?_
        refine s_getR (pc := 79) F w 85 ds_14 (j := 30) vc_X12 vi_X12 rfl (by decide) kf_X12_69 dX12_roll_79 ?_
        refine lv_iload (pc := 82) hx hb dX12_roll_82 (lv_at hl 0 rfl) ?_
        refine s_iald (pc := 84) F w ds_85 h dX12_roll_84 (fun h => ?_)
        refine lv_iconst (pc := 85) (v := 5) hx hb dX12_roll_85 (by decide) ?_
        refine lv_icmp_ge (pc := 86) (tgt := 95) hx hb dX12_roll_86 (by decide) (fun q => ?_) (fun q => ?_)
        · have h := ite_t q h
          exact w_X12_roll_j95 F (Nat.le_trans (by decide) hR1) (Nat.le_trans (by decide) hR2) _ (fun v0 v1 v2 v3 S h => ih v0 v1 v2 v3 S h) _ _ _ _ _ _ h _ _ _ w (lv_sub hl [1, 2, 3, 4, 5, 0] rfl)
        · have h := ite_f q h
          refine lv_aload_n (pc := 89) hx hb dX12_roll_89 rfl (lv_at hl 1 rfl) ?_
          refine lv_iconst (pc := 90) (v := 4) hx hb dX12_roll_90 (by decide) ?_
          obtain ⟨r13, S12, hc, h⟩ := bnd_t h
          refine s_cvi (pc := 91) [.int (4 : Int32)] (fun ad => [.ref (ad 14), .int (4 : Int32)]) F w (m_X12_found _ _ _ _ hc) rfl rfl hl.1 ds_14 vc_X12 rfl ok_X12_found rfl kc_X12_found kl_X12_210 ki_X12_found kv_X12_found kn_X12 ⟨Nat.le_trans (by decide) hR1, Nat.le_trans (by decide) hR2⟩ ⟨Nat.zero_le _, Nat.zero_le _⟩ (Nat.le_of_ble_eq_true rfl) dX12_roll_91 (fun H locs w => ?_)
          exact s_iret F w h dX12_roll_94
set_option maxRecDepth 100000 in
set_option maxHeartbeats 4000000 in
theorem m_X12_roll (a1 : Int32) (a2 : Int32) (a3 : Int32) (S S' : SS) (r : Int32) (h : f_X12_roll a1 a2 a3 S = some (r, S')) : MT yX12_roll cX12_roll 6 (some .int) 2 42 (fun ad => [.ref (ad 14), .int a1, .int a2, .int a3]) S (some (.int r)) S' := by
  refine MT.of RX12 (fun ad => [(0, .ref (ad 14)), (1, .int a1), (2, .int a2), (3, .int a3)]) (by decide) rfl (fun _ => Nat.le_of_ble_eq_true rfl) (fun _ => rfl) ?_
  intro p l e R s m args below meth c dC dI cs ad A hR1 hR2 F H locs ls w hl
  have hx := F.1.1
  have hb := F.1.2.1
  rw [f_X12_roll] at h
  refine lv_aload_n (pc := 0) hx hb dX12_roll_0 rfl (lv_at hl 0 rfl) ?_
  obtain ⟨S1, hc, h⟩ := bndv_t h
  refine s_cvv (pc := 1) [] (fun ad => [.ref (ad 14)]) F w (m_X12_begin  _ _ hc) rfl rfl hl.1 ds_14 vc_X12 rfl ok_X12_begin rfl kc_X12_begin kl_X12_226 ki_X12_begin kv_X12_begin kn_X12 ⟨Nat.le_trans (by decide) hR1, Nat.le_trans (by decide) hR2⟩ ⟨Nat.zero_le _, Nat.zero_le _⟩ (Nat.le_of_ble_eq_true rfl) dX12_roll_1 (fun H locs w => ?_)
  refine lv_aload_n (pc := 4) hx hb dX12_roll_4 rfl (lv_at hl 0 rfl) ?_
  refine lv_aload_n (pc := 5) hx hb dX12_roll_5 rfl (lv_at hl 0 rfl) ?_
  refine lv_iload_n (pc := 6) hx hb dX12_roll_6 rfl (lv_at hl 1 rfl) ?_
  obtain ⟨r3, S2, hc, h⟩ := bnd_t h
  refine s_cvi (pc := 7) [.int a1] (fun ad => [.ref (ad 14), .int a1]) F w (m_X12_missTrack _ _ _ _ hc) rfl rfl hl.1 ds_14 vc_X12 rfl ok_X12_missTrack rfl kc_X12_missTrack kl_X12_223 ki_X12_missTrack kv_X12_missTrack kn_X12 ⟨Nat.le_trans (by decide) hR1, Nat.le_trans (by decide) hR2⟩ ⟨Nat.zero_le _, Nat.zero_le _⟩ (Nat.le_of_ble_eq_true rfl) dX12_roll_7 (fun H locs w => ?_)
  obtain ⟨r5, S4, hc, h⟩ := bnd_t h
  refine s_cvi (pc := 10) [.int r3] (fun ad => [.ref (ad 14), .int r3]) F w (m_X12_ends _ _ _ _ hc) rfl rfl hl.1 ds_14 vc_X12 rfl ok_X12_ends rfl kc_X12_ends kl_X12_236 ki_X12_ends kv_X12_ends kn_X12 ⟨Nat.le_trans (by decide) hR1, Nat.le_trans (by decide) hR2⟩ ⟨Nat.zero_le _, Nat.zero_le _⟩ (Nat.le_of_ble_eq_true rfl) dX12_roll_10 (fun H locs w => ?_)
  refine lv_if_eq (pc := 13) (tgt := 19) hx hb dX12_roll_13 (by decide) (fun q => ?_) (fun q => ?_)
  · have h := ite_t q h
    refine lv_iload_n (pc := 19) hx hb dX12_roll_19 rfl (lv_at hl 2 rfl) ?_
    refine lv_if_lt (pc := 20) (tgt := 45) hx hb dX12_roll_20 (by decide) (fun q => ?_) (fun q => ?_)
    · have h := ite_t q h
      exact w_X12_roll_j45 F (Nat.le_trans (by decide) hR1) (Nat.le_trans (by decide) hR2)  _ h _ _ _ w (lv_sub hl [0] rfl)
    · have h := ite_f q h
      refine lv_iload_n (pc := 23) hx hb dX12_roll_23 rfl (lv_at hl 3 rfl) ?_
      refine lv_if_lt (pc := 24) (tgt := 45) hx hb dX12_roll_24 (by decide) (fun q => ?_) (fun q => ?_)
      · have h := ite_t q h
        exact w_X12_roll_j45 F (Nat.le_trans (by decide) hR1) (Nat.le_trans (by decide) hR2)  _ h _ _ _ w (lv_sub hl [0] rfl)
      · have h := ite_f q h
        refine lv_iload_n (pc := 27) hx hb dX12_roll_27 rfl (lv_at hl 3 rfl) ?_
        refine lv_bipush (pc := 28) (v := 8) hx hb dX12_roll_28 (by decide) ?_
        refine lv_icmp_gt (pc := 30) (tgt := 45) hx hb dX12_roll_30 (by decide) (fun q => ?_) (fun q => ?_)
        · have h := ite_t q h
          exact w_X12_roll_j45 F (Nat.le_trans (by decide) hR1) (Nat.le_trans (by decide) hR2)  _ h _ _ _ w (lv_sub hl [0] rfl)
        · have h := ite_f q h
          refine lv_iload_n (pc := 33) hx hb dX12_roll_33 rfl (lv_at hl 3 rfl) ?_
          refine lv_aload_n (pc := 34) hx hb dX12_roll_34 rfl (lv_at hl 0 rfl) ?_
          refine s_getR (pc := 35) F w 70 ds_14 (j := 8) vc_X12 vi_X12 rfl (by decide) kf_X12_23 dX12_roll_35 ?_
          refine lv_iload_n (pc := 38) hx hb dX12_roll_38 rfl (lv_at hl 1 rfl) ?_
          refine s_iald (pc := 39) F w ds_70 h dX12_roll_39 (fun h => ?_)
          refine lv_iload_n (pc := 40) hx hb dX12_roll_40 rfl (lv_at hl 2 rfl) ?_
          refine lv_isub (pc := 41) hx hb dX12_roll_41 ?_
          refine lv_icmp_le (pc := 42) (tgt := 51) hx hb dX12_roll_42 (by decide) (fun q => ?_) (fun q => ?_)
          · have h := ite_t q h
            refine lv_iconst (pc := 51) (v := 0) hx hb dX12_roll_51 (by decide) ?_
            refine lv_istore (pc := 52) (lv' := [(4, .int (0 : Int32)), (0, .ref (ad 14)), (1, .int a1), (2, .int a2), (3, .int a3)]) hx hb dX12_roll_52 hl (by decide) rfl (fun ls hl => ?_)
            exact w_X12_roll_L54 F (Nat.le_trans (by decide) hR1) (Nat.le_trans (by decide) hR2) _ _ _ _ _ _ h _ _ _ w (lv_sub hl [1, 2, 3, 4, 0] rfl)
          · have h := ite_f q h
            exact w_X12_roll_j45 F (Nat.le_trans (by decide) hR1) (Nat.le_trans (by decide) hR2)  _ h _ _ _ w (lv_sub hl [0] rfl)
  · have h := ite_f q h
    refine lv_bipush (pc := 16) (v := -2) hx hb dX12_roll_16 (by decide) ?_
    exact s_iret F w h dX12_roll_18
def f_X11_store_j50  (x1 : Int32) (x2 : Int32) (x3 : Int32) (S : SS) : Option (Int32 × SS) :=
    if x3 = 0 then
      grd (inb x2 8) (wr S 16 x2.toNatClampNeg x1 (fun S4 =>
      some ((1 : Int32), S4)))
    else
      bnd (f_X5_found x3 S) (fun r6 S5 =>
      some (r6, S5))
def f_X11_store_j31  (x1 : Int32) (x2 : Int32) (x3 : Int32) (S : SS) : Option (Int32 × SS) :=
    if x3 = 0 then
      bnd (f_X9_isAs x1 (96 : Int32) S) (fun r8 S7 =>
      if r8 = 0 then
        f_X11_store_j50 x1 x2 (4 : Int32) S7
      else
        f_X11_store_j50 x1 x2 x3 S7)
    else
      f_X11_store_j50 x1 x2 x3 S
def f_X11_store (a1 : Int32) (a2 : Int32) (S : SS) : Option (Int32 × SS) :=
  bndv (f_X5_begin  S) (fun S1 =>
  bnd (f_X11_named a1 (127 : Int32) S1) (fun r3 S2 =>
  if r3 = 0 then
    bnd (f_X11_isNot a2 (0 : Int32) (7 : Int32) S2) (fun r10 S9 =>
    if r10 = 0 then
      f_X11_store_j31 a1 a2 r3 S9
    else
      f_X11_store_j31 a1 a2 (3 : Int32) S9)
  else
    f_X11_store_j31 a1 a2 r3 S2))
theorem dX11_store_0 : decode cX11_store 0 = .ok (.aload_n 0, 1) := by decide +kernel
theorem dX11_store_1 : decode cX11_store 1 = .ok (.getfield 10, 3) := by decide +kernel
theorem dX11_store_4 : decode cX11_store 4 = .ok (.invokevirtual 95, 3) := by decide +kernel
theorem dX11_store_7 : decode cX11_store 7 = .ok (.aload_n 0, 1) := by decide +kernel
theorem dX11_store_8 : decode cX11_store 8 = .ok (.iload_n 1, 1) := by decide +kernel
theorem dX11_store_9 : decode cX11_store 9 = .ok (.bipush 127, 2) := by decide +kernel
theorem dX11_store_11 : decode cX11_store 11 = .ok (.invokevirtual 185, 3) := by decide +kernel
theorem dX11_store_14 : decode cX11_store 14 = .ok (.istore_n 3, 1) := by decide +kernel
theorem dX11_store_15 : decode cX11_store 15 = .ok (.iload_n 3, 1) := by decide +kernel
theorem dX11_store_16 : decode cX11_store 16 = .ok (.ifCond .ne 15, 3) := by decide +kernel
theorem dX11_store_19 : decode cX11_store 19 = .ok (.iload_n 2, 1) := by decide +kernel
theorem dX11_store_20 : decode cX11_store 20 = .ok (.iconst 0, 1) := by decide +kernel
theorem dX11_store_21 : decode cX11_store 21 = .ok (.bipush 7, 2) := by decide +kernel
theorem dX11_store_23 : decode cX11_store 23 = .ok (.invokestatic 108, 3) := by decide +kernel
theorem dX11_store_26 : decode cX11_store 26 = .ok (.ifCond .eq 5, 3) := by decide +kernel
theorem dX11_store_29 : decode cX11_store 29 = .ok (.iconst 3, 1) := by decide +kernel
theorem dX11_store_30 : decode cX11_store 30 = .ok (.istore_n 3, 1) := by decide +kernel
theorem dX11_store_31 : decode cX11_store 31 = .ok (.iload_n 3, 1) := by decide +kernel
theorem dX11_store_32 : decode cX11_store 32 = .ok (.ifCond .ne 18, 3) := by decide +kernel
theorem dX11_store_35 : decode cX11_store 35 = .ok (.aload_n 0, 1) := by decide +kernel
theorem dX11_store_36 : decode cX11_store 36 = .ok (.getfield 33, 3) := by decide +kernel
theorem dX11_store_39 : decode cX11_store 39 = .ok (.iload_n 1, 1) := by decide +kernel
theorem dX11_store_40 : decode cX11_store 40 = .ok (.bipush 96, 2) := by decide +kernel
theorem dX11_store_42 : decode cX11_store 42 = .ok (.invokevirtual 247, 3) := by decide +kernel
theorem dX11_store_45 : decode cX11_store 45 = .ok (.ifCond .ne 5, 3) := by decide +kernel
theorem dX11_store_48 : decode cX11_store 48 = .ok (.iconst 4, 1) := by decide +kernel
theorem dX11_store_49 : decode cX11_store 49 = .ok (.istore_n 3, 1) := by decide +kernel
theorem dX11_store_50 : decode cX11_store 50 = .ok (.iload_n 3, 1) := by decide +kernel
theorem dX11_store_51 : decode cX11_store 51 = .ok (.ifCond .eq 12, 3) := by decide +kernel
theorem dX11_store_54 : decode cX11_store 54 = .ok (.aload_n 0, 1) := by decide +kernel
theorem dX11_store_55 : decode cX11_store 55 = .ok (.getfield 10, 3) := by decide +kernel
theorem dX11_store_58 : decode cX11_store 58 = .ok (.iload_n 3, 1) := by decide +kernel
theorem dX11_store_59 : decode cX11_store 59 = .ok (.invokevirtual 98, 3) := by decide +kernel
theorem dX11_store_62 : decode cX11_store 62 = .ok (.ireturn, 1) := by decide +kernel
theorem dX11_store_63 : decode cX11_store 63 = .ok (.aload_n 0, 1) := by decide +kernel
theorem dX11_store_64 : decode cX11_store 64 = .ok (.getfield 82, 3) := by decide +kernel
theorem dX11_store_67 : decode cX11_store 67 = .ok (.iload_n 2, 1) := by decide +kernel
theorem dX11_store_68 : decode cX11_store 68 = .ok (.iload_n 1, 1) := by decide +kernel
theorem dX11_store_69 : decode cX11_store 69 = .ok (.iastore, 1) := by decide +kernel
theorem dX11_store_70 : decode cX11_store 70 = .ok (.iconst 1, 1) := by decide +kernel
theorem dX11_store_71 : decode cX11_store 71 = .ok (.ireturn, 1) := by decide +kernel
set_option maxRecDepth 100000 in
set_option maxHeartbeats 4000000 in
theorem w_X11_store_j50 {p : Program} {l : Launch} {e : Env} {R : Room} {s : State} {m : MethodId} {args : Array Value} {below : List Frame} {meth : Method} {c : Code} {dC : Nat → ClassId} {dI : Nat → Nat → Nat} {cs : Nat → ClassId} {ad : Nat → Nat} {A : Nat → Prop} {D0 : Nat → Nat} {S' : SS} {r : Int32} (F : Fx p s m args meth c cX11_store 4 RX11 (some .int) dC dI cs A) (hR1 : 1 ≤ R.frames) (hR2 : 21 ≤ R.locals) (x1 : Int32) (x2 : Int32) (x3 : Int32) (S : SS) (h : f_X11_store_j50 x1 x2 x3 S = some (r, S')) : AW p l e R s m args below meth c dC dI cs ad A D0 (some (.int r)) S' 4 50 [(0, .ref (ad 0)), (1, .int x1), (2, .int x2), (3, .int x3)] [] S := by
  have hx := F.1.1
  have hb := F.1.2.1
  intro H locs ls w hl
  rw [f_X11_store_j50] at h
  refine lv_iload_n (pc := 50) hx hb dX11_store_50 rfl (lv_at hl 3 rfl) ?_
  refine lv_if_eq (pc := 51) (tgt := 63) hx hb dX11_store_51 (by decide) (fun q => ?_) (fun q => ?_)
  · have h := ite_t q h
    refine lv_aload_n (pc := 63) hx hb dX11_store_63 rfl (lv_at hl 0 rfl) ?_
    refine s_getR (pc := 64) F w 16 ds_0 (j := 10) vc_X11 vi_X11 rfl (by decide) kf_X11_82 dX11_store_64 ?_
    refine lv_iload_n (pc := 67) hx hb dX11_store_67 rfl (lv_at hl 2 rfl) ?_
    refine lv_iload_n (pc := 68) hx hb dX11_store_68 rfl (lv_at hl 1 rfl) ?_
    refine s_iast (pc := 69) F w ds_16 h dX11_store_69 (fun S4 H locs h w => ?_)
    refine lv_iconst (pc := 70) (v := 1) hx hb dX11_store_70 (by decide) ?_
    exact s_iret F w h dX11_store_71
  · have h := ite_f q h
    refine lv_aload_n (pc := 54) hx hb dX11_store_54 rfl (lv_at hl 0 rfl) ?_
    refine s_getR (pc := 55) F w 1 ds_0 (j := 0) vc_X11 vi_X11 rfl (by decide) kf_X11_10 dX11_store_55 ?_
    refine lv_iload_n (pc := 58) hx hb dX11_store_58 rfl (lv_at hl 3 rfl) ?_
    obtain ⟨r6, S5, hc, h⟩ := bnd_t h
    refine s_cvi (pc := 59) [.int x3] (fun ad => [.ref (ad 1), .int x3]) F w (m_X5_found _ _ _ _ hc) rfl rfl hl.1 ds_1 vc_X5 rfl ok_X5_found rfl kc_X5_found kl_X11_98 ki_X5_found kv_X5_found kn_X5 ⟨Nat.le_trans (by decide) hR1, Nat.le_trans (by decide) hR2⟩ ⟨Nat.zero_le _, Nat.zero_le _⟩ (Nat.le_of_ble_eq_true rfl) dX11_store_59 (fun H locs w => ?_)
    exact s_iret F w h dX11_store_62
set_option maxRecDepth 100000 in
set_option maxHeartbeats 4000000 in
theorem w_X11_store_j31 {p : Program} {l : Launch} {e : Env} {R : Room} {s : State} {m : MethodId} {args : Array Value} {below : List Frame} {meth : Method} {c : Code} {dC : Nat → ClassId} {dI : Nat → Nat → Nat} {cs : Nat → ClassId} {ad : Nat → Nat} {A : Nat → Prop} {D0 : Nat → Nat} {S' : SS} {r : Int32} (F : Fx p s m args meth c cX11_store 4 RX11 (some .int) dC dI cs A) (hR1 : 2 ≤ R.frames) (hR2 : 45 ≤ R.locals) (x1 : Int32) (x2 : Int32) (x3 : Int32) (S : SS) (h : f_X11_store_j31 x1 x2 x3 S = some (r, S')) : AW p l e R s m args below meth c dC dI cs ad A D0 (some (.int r)) S' 4 31 [(0, .ref (ad 0)), (1, .int x1), (2, .int x2), (3, .int x3)] [] S := by
  have hx := F.1.1
  have hb := F.1.2.1
  intro H locs ls w hl
  rw [f_X11_store_j31] at h
  refine lv_iload_n (pc := 31) hx hb dX11_store_31 rfl (lv_at hl 3 rfl) ?_
  refine lv_if_ne (pc := 32) (tgt := 50) hx hb dX11_store_32 (by decide) (fun q => ?_) (fun q => ?_)
  · have h := ite_f q h
    exact w_X11_store_j50 F (Nat.le_trans (by decide) hR1) (Nat.le_trans (by decide) hR2) _ _ _ _ h _ _ _ w (lv_sub hl [0, 1, 2, 3] rfl)
  · have h := ite_t q h
    refine lv_aload_n (pc := 35) hx hb dX11_store_35 rfl (lv_at hl 0 rfl) ?_
    refine s_getR (pc := 36) F w 4 ds_0 (j := 3) vc_X11 vi_X11 rfl (by decide) kf_X11_33 dX11_store_36 ?_
    refine lv_iload_n (pc := 39) hx hb dX11_store_39 rfl (lv_at hl 1 rfl) ?_
    refine lv_bipush (pc := 40) (v := 96) hx hb dX11_store_40 (by decide) ?_
    obtain ⟨r8, S7, hc, h⟩ := bnd_t h
    refine s_cvi (pc := 42) [.int x1, .int (96 : Int32)] (fun ad => [.ref (ad 4), .int x1, .int (96 : Int32)]) F w (m_X9_isAs _ _ _ _ _ hc) rfl rfl hl.1 ds_4 vc_X9 rfl ok_X9_isAs rfl kc_X9_isAs kl_X11_247 ki_X9_isAs kv_X9_isAs kn_X9 ⟨Nat.le_trans (by decide) hR1, Nat.le_trans (by decide) hR2⟩ ⟨Nat.zero_le _, Nat.zero_le _⟩ (Nat.le_of_ble_eq_true rfl) dX11_store_42 (fun H locs w => ?_)
    refine lv_if_ne (pc := 45) (tgt := 50) hx hb dX11_store_45 (by decide) (fun q => ?_) (fun q => ?_)
    · have h := ite_f q h
      exact w_X11_store_j50 F (Nat.le_trans (by decide) hR1) (Nat.le_trans (by decide) hR2) _ _ _ _ h _ _ _ w (lv_sub hl [0, 1, 2, 3] rfl)
    · have h := ite_t q h
      refine lv_iconst (pc := 48) (v := 4) hx hb dX11_store_48 (by decide) ?_
      refine lv_istore_n (pc := 49) (lv' := [(3, .int (4 : Int32)), (0, .ref (ad 0)), (1, .int x1), (2, .int x2)]) hx hb dX11_store_49 rfl hl (by decide) rfl (fun ls hl => ?_)
      exact w_X11_store_j50 F (Nat.le_trans (by decide) hR1) (Nat.le_trans (by decide) hR2) _ _ _ _ h _ _ _ w (lv_sub hl [1, 2, 3, 0] rfl)
set_option maxRecDepth 100000 in
set_option maxHeartbeats 4000000 in
theorem m_X11_store (a1 : Int32) (a2 : Int32) (S S' : SS) (r : Int32) (h : f_X11_store a1 a2 S = some (r, S')) : MT yX11_store cX11_store 4 (some .int) 3 67 (fun ad => [.ref (ad 0), .int a1, .int a2]) S (some (.int r)) S' := by
  refine MT.of RX11 (fun ad => [(0, .ref (ad 0)), (1, .int a1), (2, .int a2)]) (by decide) rfl (fun _ => Nat.le_of_ble_eq_true rfl) (fun _ => rfl) ?_
  intro p l e R s m args below meth c dC dI cs ad A hR1 hR2 F H locs ls w hl
  have hx := F.1.1
  have hb := F.1.2.1
  rw [f_X11_store] at h
  refine lv_aload_n (pc := 0) hx hb dX11_store_0 rfl (lv_at hl 0 rfl) ?_
  refine s_getR (pc := 1) F w 1 ds_0 (j := 0) vc_X11 vi_X11 rfl (by decide) kf_X11_10 dX11_store_1 ?_
  obtain ⟨S1, hc, h⟩ := bndv_t h
  refine s_cvv (pc := 4) [] (fun ad => [.ref (ad 1)]) F w (m_X5_begin  _ _ hc) rfl rfl hl.1 ds_1 vc_X5 rfl ok_X5_begin rfl kc_X5_begin kl_X11_95 ki_X5_begin kv_X5_begin kn_X5 ⟨Nat.le_trans (by decide) hR1, Nat.le_trans (by decide) hR2⟩ ⟨Nat.zero_le _, Nat.zero_le _⟩ (Nat.le_of_ble_eq_true rfl) dX11_store_4 (fun H locs w => ?_)
  refine lv_aload_n (pc := 7) hx hb dX11_store_7 rfl (lv_at hl 0 rfl) ?_
  refine lv_iload_n (pc := 8) hx hb dX11_store_8 rfl (lv_at hl 1 rfl) ?_
  refine lv_bipush (pc := 9) (v := 127) hx hb dX11_store_9 (by decide) ?_
  obtain ⟨r3, S2, hc, h⟩ := bnd_t h
  refine s_cvi (pc := 11) [.int a1, .int (127 : Int32)] (fun ad => [.ref (ad 0), .int a1, .int (127 : Int32)]) F w (m_X11_named _ _ _ _ _ hc) rfl rfl hl.1 ds_0 vc_X11 rfl ok_X11_named rfl kc_X11_named kl_X11_185 ki_X11_named kv_X11_named kn_X11 ⟨Nat.le_trans (by decide) hR1, Nat.le_trans (by decide) hR2⟩ ⟨Nat.zero_le _, Nat.zero_le _⟩ (Nat.le_of_ble_eq_true rfl) dX11_store_11 (fun H locs w => ?_)
  refine lv_istore_n (pc := 14) (lv' := [(3, .int r3), (0, .ref (ad 0)), (1, .int a1), (2, .int a2)]) hx hb dX11_store_14 rfl hl (by decide) rfl (fun ls hl => ?_)
  refine lv_iload_n (pc := 15) hx hb dX11_store_15 rfl (lv_at hl 0 rfl) ?_
  refine lv_if_ne (pc := 16) (tgt := 31) hx hb dX11_store_16 (by decide) (fun q => ?_) (fun q => ?_)
  · have h := ite_f q h
    exact w_X11_store_j31 F (Nat.le_trans (by decide) hR1) (Nat.le_trans (by decide) hR2) _ _ _ _ h _ _ _ w (lv_sub hl [1, 2, 3, 0] rfl)
  · have h := ite_t q h
    refine lv_iload_n (pc := 19) hx hb dX11_store_19 rfl (lv_at hl 3 rfl) ?_
    refine lv_iconst (pc := 20) (v := 0) hx hb dX11_store_20 (by decide) ?_
    refine lv_bipush (pc := 21) (v := 7) hx hb dX11_store_21 (by decide) ?_
    obtain ⟨r10, S9, hc, h⟩ := bnd_t h
    refine s_csi (pc := 23) [.int a2, .int (0 : Int32), .int (7 : Int32)] (fun ad => [.int a2, .int (0 : Int32), .int (7 : Int32)]) F w (m_X11_isNot _ _ _ _ _ _ hc) rfl rfl hl.1 ok_X11_isNot rfl kc_X11_isNot kl_X11_108 ks_X11_isNot kn_X11 ⟨Nat.le_trans (by decide) hR1, Nat.le_trans (by decide) hR2⟩ ⟨Nat.zero_le _, Nat.zero_le _⟩ (Nat.le_of_ble_eq_true rfl) dX11_store_23 (fun H locs w => ?_)
    refine lv_if_eq (pc := 26) (tgt := 31) hx hb dX11_store_26 (by decide) (fun q => ?_) (fun q => ?_)
    · have h := ite_t q h
      exact w_X11_store_j31 F (Nat.le_trans (by decide) hR1) (Nat.le_trans (by decide) hR2) _ _ _ _ h _ _ _ w (lv_sub hl [1, 2, 3, 0] rfl)
    · have h := ite_f q h
      refine lv_iconst (pc := 29) (v := 3) hx hb dX11_store_29 (by decide) ?_
      refine lv_istore_n (pc := 30) (lv' := [(3, .int (3 : Int32)), (0, .ref (ad 0)), (1, .int a1), (2, .int a2)]) hx hb dX11_store_30 rfl hl (by decide) rfl (fun ls hl => ?_)
      exact w_X11_store_j31 F (Nat.le_trans (by decide) hR1) (Nat.le_trans (by decide) hR2) _ _ _ _ h _ _ _ w (lv_sub hl [1, 2, 3, 0] rfl)
def f_X12_store_j30   (S : SS) : Option (Int32 × SS) :=
    bnd (f_X12_found (3 : Int32) S) (fun r7 S6 =>
    some (r7, S6))
def f_X12_store (a1 : Int32) (a2 : Int32) (S : SS) : Option (Int32 × SS) :=
  bndv (f_X12_begin  S) (fun S1 =>
  bnd (f_X12_missThing a1 (0 : Int32) S1) (fun r3 S2 =>
  bnd (f_X12_ends r3 S2) (fun r5 S4 =>
  if r5 = 0 then
    if a2 < 0 then
      f_X12_store_j30  S4
    else
      if a2 < (8 : Int32) then
        grd (inb a1 72) (
        if (5 : Int32) ≤ (S4.1 85 a1.toNatClampNeg) then
          grd (inb a2 8) (wr S4 105 a2.toNatClampNeg a1 (fun S8 =>
          some ((1 : Int32), S8)))
        else
          bnd (f_X12_found (4 : Int32) S4) (fun r10 S9 =>
          some (r10, S9)))
      else
        f_X12_store_j30  S4
  else
    some ((-2 : Int32), S4))))
theorem dX12_store_0 : decode cX12_store 0 = .ok (.aload_n 0, 1) := by decide +kernel
theorem dX12_store_1 : decode cX12_store 1 = .ok (.invokevirtual 226, 3) := by decide +kernel
theorem dX12_store_4 : decode cX12_store 4 = .ok (.aload_n 0, 1) := by decide +kernel
theorem dX12_store_5 : decode cX12_store 5 = .ok (.aload_n 0, 1) := by decide +kernel
theorem dX12_store_6 : decode cX12_store 6 = .ok (.iload_n 1, 1) := by decide +kernel
theorem dX12_store_7 : decode cX12_store 7 = .ok (.iconst 0, 1) := by decide +kernel
theorem dX12_store_8 : decode cX12_store 8 = .ok (.invokevirtual 293, 3) := by decide +kernel
theorem dX12_store_11 : decode cX12_store 11 = .ok (.invokevirtual 236, 3) := by decide +kernel
theorem dX12_store_14 : decode cX12_store 14 = .ok (.ifCond .eq 6, 3) := by decide +kernel
theorem dX12_store_17 : decode cX12_store 17 = .ok (.bipush (-2), 2) := by decide +kernel
theorem dX12_store_19 : decode cX12_store 19 = .ok (.ireturn, 1) := by decide +kernel
theorem dX12_store_20 : decode cX12_store 20 = .ok (.iload_n 2, 1) := by decide +kernel
theorem dX12_store_21 : decode cX12_store 21 = .ok (.ifCond .lt 9, 3) := by decide +kernel
theorem dX12_store_24 : decode cX12_store 24 = .ok (.iload_n 2, 1) := by decide +kernel
theorem dX12_store_25 : decode cX12_store 25 = .ok (.bipush 8, 2) := by decide +kernel
theorem dX12_store_27 : decode cX12_store 27 = .ok (.if_icmp .lt 9, 3) := by decide +kernel
theorem dX12_store_30 : decode cX12_store 30 = .ok (.aload_n 0, 1) := by decide +kernel
theorem dX12_store_31 : decode cX12_store 31 = .ok (.iconst 3, 1) := by decide +kernel
theorem dX12_store_32 : decode cX12_store 32 = .ok (.invokevirtual 210, 3) := by decide +kernel
theorem dX12_store_35 : decode cX12_store 35 = .ok (.ireturn, 1) := by decide +kernel
theorem dX12_store_36 : decode cX12_store 36 = .ok (.aload_n 0, 1) := by decide +kernel
theorem dX12_store_37 : decode cX12_store 37 = .ok (.getfield 69, 3) := by decide +kernel
theorem dX12_store_40 : decode cX12_store 40 = .ok (.iload_n 1, 1) := by decide +kernel
theorem dX12_store_41 : decode cX12_store 41 = .ok (.iaload, 1) := by decide +kernel
theorem dX12_store_42 : decode cX12_store 42 = .ok (.iconst 5, 1) := by decide +kernel
theorem dX12_store_43 : decode cX12_store 43 = .ok (.if_icmp .ge 9, 3) := by decide +kernel
theorem dX12_store_46 : decode cX12_store 46 = .ok (.aload_n 0, 1) := by decide +kernel
theorem dX12_store_47 : decode cX12_store 47 = .ok (.iconst 4, 1) := by decide +kernel
theorem dX12_store_48 : decode cX12_store 48 = .ok (.invokevirtual 210, 3) := by decide +kernel
theorem dX12_store_51 : decode cX12_store 51 = .ok (.ireturn, 1) := by decide +kernel
theorem dX12_store_52 : decode cX12_store 52 = .ok (.aload_n 0, 1) := by decide +kernel
theorem dX12_store_53 : decode cX12_store 53 = .ok (.getfield 129, 3) := by decide +kernel
theorem dX12_store_56 : decode cX12_store 56 = .ok (.iload_n 2, 1) := by decide +kernel
theorem dX12_store_57 : decode cX12_store 57 = .ok (.iload_n 1, 1) := by decide +kernel
theorem dX12_store_58 : decode cX12_store 58 = .ok (.iastore, 1) := by decide +kernel
theorem dX12_store_59 : decode cX12_store 59 = .ok (.iconst 1, 1) := by decide +kernel
theorem dX12_store_60 : decode cX12_store 60 = .ok (.ireturn, 1) := by decide +kernel
set_option maxRecDepth 100000 in
set_option maxHeartbeats 4000000 in
theorem w_X12_store_j30 {p : Program} {l : Launch} {e : Env} {R : Room} {s : State} {m : MethodId} {args : Array Value} {below : List Frame} {meth : Method} {c : Code} {dC : Nat → ClassId} {dI : Nat → Nat → Nat} {cs : Nat → ClassId} {ad : Nat → Nat} {A : Nat → Prop} {D0 : Nat → Nat} {S' : SS} {r : Int32} (F : Fx p s m args meth c cX12_store 3 RX12 (some .int) dC dI cs A) (hR1 : 1 ≤ R.frames) (hR2 : 21 ≤ R.locals)  (S : SS) (h : f_X12_store_j30  S = some (r, S')) : AW p l e R s m args below meth c dC dI cs ad A D0 (some (.int r)) S' 3 30 [(0, .ref (ad 14))] [] S := by
  have hx := F.1.1
  have hb := F.1.2.1
  intro H locs ls w hl
  rw [f_X12_store_j30] at h
  refine lv_aload_n (pc := 30) hx hb dX12_store_30 rfl (lv_at hl 0 rfl) ?_
  refine lv_iconst (pc := 31) (v := 3) hx hb dX12_store_31 (by decide) ?_
  obtain ⟨r7, S6, hc, h⟩ := bnd_t h
  refine s_cvi (pc := 32) [.int (3 : Int32)] (fun ad => [.ref (ad 14), .int (3 : Int32)]) F w (m_X12_found _ _ _ _ hc) rfl rfl hl.1 ds_14 vc_X12 rfl ok_X12_found rfl kc_X12_found kl_X12_210 ki_X12_found kv_X12_found kn_X12 ⟨Nat.le_trans (by decide) hR1, Nat.le_trans (by decide) hR2⟩ ⟨Nat.zero_le _, Nat.zero_le _⟩ (Nat.le_of_ble_eq_true rfl) dX12_store_32 (fun H locs w => ?_)
  exact s_iret F w h dX12_store_35
set_option maxRecDepth 100000 in
set_option maxHeartbeats 4000000 in
theorem m_X12_store (a1 : Int32) (a2 : Int32) (S S' : SS) (r : Int32) (h : f_X12_store a1 a2 S = some (r, S')) : MT yX12_store cX12_store 3 (some .int) 2 45 (fun ad => [.ref (ad 14), .int a1, .int a2]) S (some (.int r)) S' := by
  refine MT.of RX12 (fun ad => [(0, .ref (ad 14)), (1, .int a1), (2, .int a2)]) (by decide) rfl (fun _ => Nat.le_of_ble_eq_true rfl) (fun _ => rfl) ?_
  intro p l e R s m args below meth c dC dI cs ad A hR1 hR2 F H locs ls w hl
  have hx := F.1.1
  have hb := F.1.2.1
  rw [f_X12_store] at h
  refine lv_aload_n (pc := 0) hx hb dX12_store_0 rfl (lv_at hl 0 rfl) ?_
  obtain ⟨S1, hc, h⟩ := bndv_t h
  refine s_cvv (pc := 1) [] (fun ad => [.ref (ad 14)]) F w (m_X12_begin  _ _ hc) rfl rfl hl.1 ds_14 vc_X12 rfl ok_X12_begin rfl kc_X12_begin kl_X12_226 ki_X12_begin kv_X12_begin kn_X12 ⟨Nat.le_trans (by decide) hR1, Nat.le_trans (by decide) hR2⟩ ⟨Nat.zero_le _, Nat.zero_le _⟩ (Nat.le_of_ble_eq_true rfl) dX12_store_1 (fun H locs w => ?_)
  refine lv_aload_n (pc := 4) hx hb dX12_store_4 rfl (lv_at hl 0 rfl) ?_
  refine lv_aload_n (pc := 5) hx hb dX12_store_5 rfl (lv_at hl 0 rfl) ?_
  refine lv_iload_n (pc := 6) hx hb dX12_store_6 rfl (lv_at hl 1 rfl) ?_
  refine lv_iconst (pc := 7) (v := 0) hx hb dX12_store_7 (by decide) ?_
  obtain ⟨r3, S2, hc, h⟩ := bnd_t h
  refine s_cvi (pc := 8) [.int a1, .int (0 : Int32)] (fun ad => [.ref (ad 14), .int a1, .int (0 : Int32)]) F w (m_X12_missThing _ _ _ _ _ hc) rfl rfl hl.1 ds_14 vc_X12 rfl ok_X12_missThing rfl kc_X12_missThing kl_X12_293 ki_X12_missThing kv_X12_missThing kn_X12 ⟨Nat.le_trans (by decide) hR1, Nat.le_trans (by decide) hR2⟩ ⟨Nat.zero_le _, Nat.zero_le _⟩ (Nat.le_of_ble_eq_true rfl) dX12_store_8 (fun H locs w => ?_)
  obtain ⟨r5, S4, hc, h⟩ := bnd_t h
  refine s_cvi (pc := 11) [.int r3] (fun ad => [.ref (ad 14), .int r3]) F w (m_X12_ends _ _ _ _ hc) rfl rfl hl.1 ds_14 vc_X12 rfl ok_X12_ends rfl kc_X12_ends kl_X12_236 ki_X12_ends kv_X12_ends kn_X12 ⟨Nat.le_trans (by decide) hR1, Nat.le_trans (by decide) hR2⟩ ⟨Nat.zero_le _, Nat.zero_le _⟩ (Nat.le_of_ble_eq_true rfl) dX12_store_11 (fun H locs w => ?_)
  refine lv_if_eq (pc := 14) (tgt := 20) hx hb dX12_store_14 (by decide) (fun q => ?_) (fun q => ?_)
  · have h := ite_t q h
    refine lv_iload_n (pc := 20) hx hb dX12_store_20 rfl (lv_at hl 2 rfl) ?_
    refine lv_if_lt (pc := 21) (tgt := 30) hx hb dX12_store_21 (by decide) (fun q => ?_) (fun q => ?_)
    · have h := ite_t q h
      exact w_X12_store_j30 F (Nat.le_trans (by decide) hR1) (Nat.le_trans (by decide) hR2)  _ h _ _ _ w (lv_sub hl [0] rfl)
    · have h := ite_f q h
      refine lv_iload_n (pc := 24) hx hb dX12_store_24 rfl (lv_at hl 2 rfl) ?_
      refine lv_bipush (pc := 25) (v := 8) hx hb dX12_store_25 (by decide) ?_
      refine lv_icmp_lt (pc := 27) (tgt := 36) hx hb dX12_store_27 (by decide) (fun q => ?_) (fun q => ?_)
      · have h := ite_t q h
        refine lv_aload_n (pc := 36) hx hb dX12_store_36 rfl (lv_at hl 0 rfl) ?_
        refine s_getR (pc := 37) F w 85 ds_14 (j := 30) vc_X12 vi_X12 rfl (by decide) kf_X12_69 dX12_store_37 ?_
        refine lv_iload_n (pc := 40) hx hb dX12_store_40 rfl (lv_at hl 1 rfl) ?_
        refine s_iald (pc := 41) F w ds_85 h dX12_store_41 (fun h => ?_)
        refine lv_iconst (pc := 42) (v := 5) hx hb dX12_store_42 (by decide) ?_
        refine lv_icmp_ge (pc := 43) (tgt := 52) hx hb dX12_store_43 (by decide) (fun q => ?_) (fun q => ?_)
        · have h := ite_t q h
          refine lv_aload_n (pc := 52) hx hb dX12_store_52 rfl (lv_at hl 0 rfl) ?_
          refine s_getR (pc := 53) F w 105 ds_14 (j := 53) vc_X12 vi_X12 rfl (by decide) kf_X12_129 dX12_store_53 ?_
          refine lv_iload_n (pc := 56) hx hb dX12_store_56 rfl (lv_at hl 2 rfl) ?_
          refine lv_iload_n (pc := 57) hx hb dX12_store_57 rfl (lv_at hl 1 rfl) ?_
          refine s_iast (pc := 58) F w ds_105 h dX12_store_58 (fun S8 H locs h w => ?_)
          refine lv_iconst (pc := 59) (v := 1) hx hb dX12_store_59 (by decide) ?_
          exact s_iret F w h dX12_store_60
        · have h := ite_f q h
          refine lv_aload_n (pc := 46) hx hb dX12_store_46 rfl (lv_at hl 0 rfl) ?_
          refine lv_iconst (pc := 47) (v := 4) hx hb dX12_store_47 (by decide) ?_
          obtain ⟨r10, S9, hc, h⟩ := bnd_t h
          refine s_cvi (pc := 48) [.int (4 : Int32)] (fun ad => [.ref (ad 14), .int (4 : Int32)]) F w (m_X12_found _ _ _ _ hc) rfl rfl hl.1 ds_14 vc_X12 rfl ok_X12_found rfl kc_X12_found kl_X12_210 ki_X12_found kv_X12_found kn_X12 ⟨Nat.le_trans (by decide) hR1, Nat.le_trans (by decide) hR2⟩ ⟨Nat.zero_le _, Nat.zero_le _⟩ (Nat.le_of_ble_eq_true rfl) dX12_store_48 (fun H locs w => ?_)
          exact s_iret F w h dX12_store_51
      · have h := ite_f q h
        exact w_X12_store_j30 F (Nat.le_trans (by decide) hR1) (Nat.le_trans (by decide) hR2)  _ h _ _ _ w (lv_sub hl [0] rfl)
  · have h := ite_f q h
    refine lv_bipush (pc := 17) (v := -2) hx hb dX12_store_17 (by decide) ?_
    exact s_iret F w h dX12_store_19
def f_X11_rolled (a1 : Int32) (S : SS) : Option (Int32 × SS) :=
  bndv (f_X5_begin  S) (fun S1 =>
  bnd (f_X11_isNot a1 (0 : Int32) (7 : Int32) S1) (fun r3 S2 =>
  if r3 = 0 then
    grd (inb a1 8) (
    some (S2.1 16 a1.toNatClampNeg, S2))
  else
    bnd (f_X5_found (3 : Int32) S2) (fun r5 S4 =>
    some (r5, S4))))
theorem dX11_rolled_0 : decode cX11_rolled 0 = .ok (.aload_n 0, 1) := by decide +kernel
theorem dX11_rolled_1 : decode cX11_rolled 1 = .ok (.getfield 10, 3) := by decide +kernel
theorem dX11_rolled_4 : decode cX11_rolled 4 = .ok (.invokevirtual 95, 3) := by decide +kernel
theorem dX11_rolled_7 : decode cX11_rolled 7 = .ok (.iload_n 1, 1) := by decide +kernel
theorem dX11_rolled_8 : decode cX11_rolled 8 = .ok (.iconst 0, 1) := by decide +kernel
theorem dX11_rolled_9 : decode cX11_rolled 9 = .ok (.bipush 7, 2) := by decide +kernel
theorem dX11_rolled_11 : decode cX11_rolled 11 = .ok (.invokestatic 108, 3) := by decide +kernel
theorem dX11_rolled_14 : decode cX11_rolled 14 = .ok (.ifCond .eq 12, 3) := by decide +kernel
theorem dX11_rolled_17 : decode cX11_rolled 17 = .ok (.aload_n 0, 1) := by decide +kernel
theorem dX11_rolled_18 : decode cX11_rolled 18 = .ok (.getfield 10, 3) := by decide +kernel
theorem dX11_rolled_21 : decode cX11_rolled 21 = .ok (.iconst 3, 1) := by decide +kernel
theorem dX11_rolled_22 : decode cX11_rolled 22 = .ok (.invokevirtual 98, 3) := by decide +kernel
theorem dX11_rolled_25 : decode cX11_rolled 25 = .ok (.ireturn, 1) := by decide +kernel
theorem dX11_rolled_26 : decode cX11_rolled 26 = .ok (.aload_n 0, 1) := by decide +kernel
theorem dX11_rolled_27 : decode cX11_rolled 27 = .ok (.getfield 82, 3) := by decide +kernel
theorem dX11_rolled_30 : decode cX11_rolled 30 = .ok (.iload_n 1, 1) := by decide +kernel
theorem dX11_rolled_31 : decode cX11_rolled 31 = .ok (.iaload, 1) := by decide +kernel
theorem dX11_rolled_32 : decode cX11_rolled 32 = .ok (.ireturn, 1) := by decide +kernel
set_option maxRecDepth 100000 in
set_option maxHeartbeats 4000000 in
theorem m_X11_rolled (a1 : Int32) (S S' : SS) (r : Int32) (h : f_X11_rolled a1 S = some (r, S')) : MT yX11_rolled cX11_rolled 2 (some .int) 1 22 (fun ad => [.ref (ad 0), .int a1]) S (some (.int r)) S' := by
  refine MT.of RX11 (fun ad => [(0, .ref (ad 0)), (1, .int a1)]) (by decide) rfl (fun _ => Nat.le_of_ble_eq_true rfl) (fun _ => rfl) ?_
  intro p l e R s m args below meth c dC dI cs ad A hR1 hR2 F H locs ls w hl
  have hx := F.1.1
  have hb := F.1.2.1
  rw [f_X11_rolled] at h
  refine lv_aload_n (pc := 0) hx hb dX11_rolled_0 rfl (lv_at hl 0 rfl) ?_
  refine s_getR (pc := 1) F w 1 ds_0 (j := 0) vc_X11 vi_X11 rfl (by decide) kf_X11_10 dX11_rolled_1 ?_
  obtain ⟨S1, hc, h⟩ := bndv_t h
  refine s_cvv (pc := 4) [] (fun ad => [.ref (ad 1)]) F w (m_X5_begin  _ _ hc) rfl rfl hl.1 ds_1 vc_X5 rfl ok_X5_begin rfl kc_X5_begin kl_X11_95 ki_X5_begin kv_X5_begin kn_X5 ⟨Nat.le_trans (by decide) hR1, Nat.le_trans (by decide) hR2⟩ ⟨Nat.zero_le _, Nat.zero_le _⟩ (Nat.le_of_ble_eq_true rfl) dX11_rolled_4 (fun H locs w => ?_)
  refine lv_iload_n (pc := 7) hx hb dX11_rolled_7 rfl (lv_at hl 1 rfl) ?_
  refine lv_iconst (pc := 8) (v := 0) hx hb dX11_rolled_8 (by decide) ?_
  refine lv_bipush (pc := 9) (v := 7) hx hb dX11_rolled_9 (by decide) ?_
  obtain ⟨r3, S2, hc, h⟩ := bnd_t h
  refine s_csi (pc := 11) [.int a1, .int (0 : Int32), .int (7 : Int32)] (fun ad => [.int a1, .int (0 : Int32), .int (7 : Int32)]) F w (m_X11_isNot _ _ _ _ _ _ hc) rfl rfl hl.1 ok_X11_isNot rfl kc_X11_isNot kl_X11_108 ks_X11_isNot kn_X11 ⟨Nat.le_trans (by decide) hR1, Nat.le_trans (by decide) hR2⟩ ⟨Nat.zero_le _, Nat.zero_le _⟩ (Nat.le_of_ble_eq_true rfl) dX11_rolled_11 (fun H locs w => ?_)
  refine lv_if_eq (pc := 14) (tgt := 26) hx hb dX11_rolled_14 (by decide) (fun q => ?_) (fun q => ?_)
  · have h := ite_t q h
    refine lv_aload_n (pc := 26) hx hb dX11_rolled_26 rfl (lv_at hl 0 rfl) ?_
    refine s_getR (pc := 27) F w 16 ds_0 (j := 10) vc_X11 vi_X11 rfl (by decide) kf_X11_82 dX11_rolled_27 ?_
    refine lv_iload_n (pc := 30) hx hb dX11_rolled_30 rfl (lv_at hl 1 rfl) ?_
    refine s_iald (pc := 31) F w ds_16 h dX11_rolled_31 (fun h => ?_)
    exact s_iret F w h dX11_rolled_32
  · have h := ite_f q h
    refine lv_aload_n (pc := 17) hx hb dX11_rolled_17 rfl (lv_at hl 0 rfl) ?_
    refine s_getR (pc := 18) F w 1 ds_0 (j := 0) vc_X11 vi_X11 rfl (by decide) kf_X11_10 dX11_rolled_18 ?_
    refine lv_iconst (pc := 21) (v := 3) hx hb dX11_rolled_21 (by decide) ?_
    obtain ⟨r5, S4, hc, h⟩ := bnd_t h
    refine s_cvi (pc := 22) [.int (3 : Int32)] (fun ad => [.ref (ad 1), .int (3 : Int32)]) F w (m_X5_found _ _ _ _ hc) rfl rfl hl.1 ds_1 vc_X5 rfl ok_X5_found rfl kc_X5_found kl_X11_98 ki_X5_found kv_X5_found kn_X5 ⟨Nat.le_trans (by decide) hR1, Nat.le_trans (by decide) hR2⟩ ⟨Nat.zero_le _, Nat.zero_le _⟩ (Nat.le_of_ble_eq_true rfl) dX11_rolled_22 (fun H locs w => ?_)
    exact s_iret F w h dX11_rolled_25
def f_X12_rolled_j14   (S : SS) : Option (Int32 × SS) :=
    bnd (f_X12_found (3 : Int32) S) (fun r3 S2 =>
    some (r3, S2))
def f_X12_rolled (a1 : Int32) (S : SS) : Option (Int32 × SS) :=
  bndv (f_X12_begin  S) (fun S1 =>
  if a1 < 0 then
    f_X12_rolled_j14  S1
  else
    if a1 < (8 : Int32) then
      grd (inb a1 8) (
      some (S1.1 105 a1.toNatClampNeg, S1))
    else
      f_X12_rolled_j14  S1)
theorem dX12_rolled_0 : decode cX12_rolled 0 = .ok (.aload_n 0, 1) := by decide +kernel
theorem dX12_rolled_1 : decode cX12_rolled 1 = .ok (.invokevirtual 226, 3) := by decide +kernel
theorem dX12_rolled_4 : decode cX12_rolled 4 = .ok (.iload_n 1, 1) := by decide +kernel
theorem dX12_rolled_5 : decode cX12_rolled 5 = .ok (.ifCond .lt 9, 3) := by decide +kernel
theorem dX12_rolled_8 : decode cX12_rolled 8 = .ok (.iload_n 1, 1) := by decide +kernel
theorem dX12_rolled_9 : decode cX12_rolled 9 = .ok (.bipush 8, 2) := by decide +kernel
theorem dX12_rolled_11 : decode cX12_rolled 11 = .ok (.if_icmp .lt 11, 3) := by decide +kernel
theorem dX12_rolled_14 : decode cX12_rolled 14 = .ok (.aload_n 0, 1) := by decide +kernel
theorem dX12_rolled_15 : decode cX12_rolled 15 = .ok (.iconst 3, 1) := by decide +kernel
theorem dX12_rolled_16 : decode cX12_rolled 16 = .ok (.invokevirtual 210, 3) := by decide +kernel
theorem dX12_rolled_19 : decode cX12_rolled 19 = .ok (.goto 9, 3) := by decide +kernel
theorem dX12_rolled_22 : decode cX12_rolled 22 = .ok (.aload_n 0, 1) := by decide +kernel
theorem dX12_rolled_23 : decode cX12_rolled 23 = .ok (.getfield 129, 3) := by decide +kernel
theorem dX12_rolled_26 : decode cX12_rolled 26 = .ok (.iload_n 1, 1) := by decide +kernel
theorem dX12_rolled_27 : decode cX12_rolled 27 = .ok (.iaload, 1) := by decide +kernel
theorem dX12_rolled_28 : decode cX12_rolled 28 = .ok (.ireturn, 1) := by decide +kernel
set_option maxRecDepth 100000 in
set_option maxHeartbeats 4000000 in
theorem w_X12_rolled_j14 {p : Program} {l : Launch} {e : Env} {R : Room} {s : State} {m : MethodId} {args : Array Value} {below : List Frame} {meth : Method} {c : Code} {dC : Nat → ClassId} {dI : Nat → Nat → Nat} {cs : Nat → ClassId} {ad : Nat → Nat} {A : Nat → Prop} {D0 : Nat → Nat} {S' : SS} {r : Int32} (F : Fx p s m args meth c cX12_rolled 2 RX12 (some .int) dC dI cs A) (hR1 : 1 ≤ R.frames) (hR2 : 21 ≤ R.locals)  (S : SS) (h : f_X12_rolled_j14  S = some (r, S')) : AW p l e R s m args below meth c dC dI cs ad A D0 (some (.int r)) S' 2 14 [(0, .ref (ad 14))] [] S := by
  have hx := F.1.1
  have hb := F.1.2.1
  intro H locs ls w hl
  rw [f_X12_rolled_j14] at h
  refine lv_aload_n (pc := 14) hx hb dX12_rolled_14 rfl (lv_at hl 0 rfl) ?_
  refine lv_iconst (pc := 15) (v := 3) hx hb dX12_rolled_15 (by decide) ?_
  obtain ⟨r3, S2, hc, h⟩ := bnd_t h
  refine s_cvi (pc := 16) [.int (3 : Int32)] (fun ad => [.ref (ad 14), .int (3 : Int32)]) F w (m_X12_found _ _ _ _ hc) rfl rfl hl.1 ds_14 vc_X12 rfl ok_X12_found rfl kc_X12_found kl_X12_210 ki_X12_found kv_X12_found kn_X12 ⟨Nat.le_trans (by decide) hR1, Nat.le_trans (by decide) hR2⟩ ⟨Nat.zero_le _, Nat.zero_le _⟩ (Nat.le_of_ble_eq_true rfl) dX12_rolled_16 (fun H locs w => ?_)
  refine lv_goto (pc := 19) (tgt := 28) hx hb dX12_rolled_19 (by decide) ?_
  exact s_iret F w h dX12_rolled_28
set_option maxRecDepth 100000 in
set_option maxHeartbeats 4000000 in
theorem m_X12_rolled (a1 : Int32) (S S' : SS) (r : Int32) (h : f_X12_rolled a1 S = some (r, S')) : MT yX12_rolled cX12_rolled 2 (some .int) 1 21 (fun ad => [.ref (ad 14), .int a1]) S (some (.int r)) S' := by
  refine MT.of RX12 (fun ad => [(0, .ref (ad 14)), (1, .int a1)]) (by decide) rfl (fun _ => Nat.le_of_ble_eq_true rfl) (fun _ => rfl) ?_
  intro p l e R s m args below meth c dC dI cs ad A hR1 hR2 F H locs ls w hl
  have hx := F.1.1
  have hb := F.1.2.1
  rw [f_X12_rolled] at h
  refine lv_aload_n (pc := 0) hx hb dX12_rolled_0 rfl (lv_at hl 0 rfl) ?_
  obtain ⟨S1, hc, h⟩ := bndv_t h
  refine s_cvv (pc := 1) [] (fun ad => [.ref (ad 14)]) F w (m_X12_begin  _ _ hc) rfl rfl hl.1 ds_14 vc_X12 rfl ok_X12_begin rfl kc_X12_begin kl_X12_226 ki_X12_begin kv_X12_begin kn_X12 ⟨Nat.le_trans (by decide) hR1, Nat.le_trans (by decide) hR2⟩ ⟨Nat.zero_le _, Nat.zero_le _⟩ (Nat.le_of_ble_eq_true rfl) dX12_rolled_1 (fun H locs w => ?_)
  refine lv_iload_n (pc := 4) hx hb dX12_rolled_4 rfl (lv_at hl 1 rfl) ?_
  refine lv_if_lt (pc := 5) (tgt := 14) hx hb dX12_rolled_5 (by decide) (fun q => ?_) (fun q => ?_)
  · have h := ite_t q h
    exact w_X12_rolled_j14 F (Nat.le_trans (by decide) hR1) (Nat.le_trans (by decide) hR2)  _ h _ _ _ w (lv_sub hl [0] rfl)
  · have h := ite_f q h
    refine lv_iload_n (pc := 8) hx hb dX12_rolled_8 rfl (lv_at hl 1 rfl) ?_
    refine lv_bipush (pc := 9) (v := 8) hx hb dX12_rolled_9 (by decide) ?_
    refine lv_icmp_lt (pc := 11) (tgt := 22) hx hb dX12_rolled_11 (by decide) (fun q => ?_) (fun q => ?_)
    · have h := ite_t q h
      refine lv_aload_n (pc := 22) hx hb dX12_rolled_22 rfl (lv_at hl 0 rfl) ?_
      refine s_getR (pc := 23) F w 105 ds_14 (j := 53) vc_X12 vi_X12 rfl (by decide) kf_X12_129 dX12_rolled_23 ?_
      refine lv_iload_n (pc := 26) hx hb dX12_rolled_26 rfl (lv_at hl 1 rfl) ?_
      refine s_iald (pc := 27) F w ds_105 h dX12_rolled_27 (fun h => ?_)
      exact s_iret F w h dX12_rolled_28
    · have h := ite_f q h
      exact w_X12_rolled_j14 F (Nat.le_trans (by decide) hR1) (Nat.le_trans (by decide) hR2)  _ h _ _ _ w (lv_sub hl [0] rfl)
def f_X11_at (a1 : Int32) (a2 : Int32) (S : SS) : Option (Int32 × SS) :=
  bndv (f_X5_begin  S) (fun S1 =>
  bnd (f_X2_placeFinding a1 a2 S1) (fun r3 S2 =>
  if r3 = 0 then
    bnd (f_X2_spot a1 a2 S2) (fun r5 S4 =>
    bnd (f_X8_standsAt r5 S4) (fun r7 S6 =>
    some (r7, S6)))
  else
    bnd (f_X5_found r3 S2) (fun r9 S8 =>
    some (r9, S8))))
theorem dX11_at_0 : decode cX11_at 0 = .ok (.aload_n 0, 1) := by decide +kernel
theorem dX11_at_1 : decode cX11_at 1 = .ok (.getfield 10, 3) := by decide +kernel
theorem dX11_at_4 : decode cX11_at 4 = .ok (.invokevirtual 95, 3) := by decide +kernel
theorem dX11_at_7 : decode cX11_at 7 = .ok (.aload_n 0, 1) := by decide +kernel
theorem dX11_at_8 : decode cX11_at 8 = .ok (.getfield 42, 3) := by decide +kernel
theorem dX11_at_11 : decode cX11_at 11 = .ok (.iload_n 1, 1) := by decide +kernel
theorem dX11_at_12 : decode cX11_at 12 = .ok (.iload_n 2, 1) := by decide +kernel
theorem dX11_at_13 : decode cX11_at 13 = .ok (.invokevirtual 143, 3) := by decide +kernel
theorem dX11_at_16 : decode cX11_at 16 = .ok (.istore_n 3, 1) := by decide +kernel
theorem dX11_at_17 : decode cX11_at 17 = .ok (.iload_n 3, 1) := by decide +kernel
theorem dX11_at_18 : decode cX11_at 18 = .ok (.ifCond .eq 12, 3) := by decide +kernel
theorem dX11_at_21 : decode cX11_at 21 = .ok (.aload_n 0, 1) := by decide +kernel
theorem dX11_at_22 : decode cX11_at 22 = .ok (.getfield 10, 3) := by decide +kernel
theorem dX11_at_25 : decode cX11_at 25 = .ok (.iload_n 3, 1) := by decide +kernel
theorem dX11_at_26 : decode cX11_at 26 = .ok (.invokevirtual 98, 3) := by decide +kernel
theorem dX11_at_29 : decode cX11_at 29 = .ok (.ireturn, 1) := by decide +kernel
theorem dX11_at_30 : decode cX11_at 30 = .ok (.aload_n 0, 1) := by decide +kernel
theorem dX11_at_31 : decode cX11_at 31 = .ok (.getfield 19, 3) := by decide +kernel
theorem dX11_at_34 : decode cX11_at 34 = .ok (.iload_n 1, 1) := by decide +kernel
theorem dX11_at_35 : decode cX11_at 35 = .ok (.iload_n 2, 1) := by decide +kernel
theorem dX11_at_36 : decode cX11_at 36 = .ok (.invokestatic 147, 3) := by decide +kernel
theorem dX11_at_39 : decode cX11_at 39 = .ok (.invokevirtual 150, 3) := by decide +kernel
theorem dX11_at_42 : decode cX11_at 42 = .ok (.ireturn, 1) := by decide +kernel
set_option maxRecDepth 100000 in
set_option maxHeartbeats 4000000 in
theorem m_X11_at (a1 : Int32) (a2 : Int32) (S S' : SS) (r : Int32) (h : f_X11_at a1 a2 S = some (r, S')) : MT yX11_at cX11_at 4 (some .int) 2 44 (fun ad => [.ref (ad 0), .int a1, .int a2]) S (some (.int r)) S' := by
  refine MT.of RX11 (fun ad => [(0, .ref (ad 0)), (1, .int a1), (2, .int a2)]) (by decide) rfl (fun _ => Nat.le_of_ble_eq_true rfl) (fun _ => rfl) ?_
  intro p l e R s m args below meth c dC dI cs ad A hR1 hR2 F H locs ls w hl
  have hx := F.1.1
  have hb := F.1.2.1
  rw [f_X11_at] at h
  refine lv_aload_n (pc := 0) hx hb dX11_at_0 rfl (lv_at hl 0 rfl) ?_
  refine s_getR (pc := 1) F w 1 ds_0 (j := 0) vc_X11 vi_X11 rfl (by decide) kf_X11_10 dX11_at_1 ?_
  obtain ⟨S1, hc, h⟩ := bndv_t h
  refine s_cvv (pc := 4) [] (fun ad => [.ref (ad 1)]) F w (m_X5_begin  _ _ hc) rfl rfl hl.1 ds_1 vc_X5 rfl ok_X5_begin rfl kc_X5_begin kl_X11_95 ki_X5_begin kv_X5_begin kn_X5 ⟨Nat.le_trans (by decide) hR1, Nat.le_trans (by decide) hR2⟩ ⟨Nat.zero_le _, Nat.zero_le _⟩ (Nat.le_of_ble_eq_true rfl) dX11_at_4 (fun H locs w => ?_)
  refine lv_aload_n (pc := 7) hx hb dX11_at_7 rfl (lv_at hl 0 rfl) ?_
  refine s_getR (pc := 8) F w 5 ds_0 (j := 4) vc_X11 vi_X11 rfl (by decide) kf_X11_42 dX11_at_8 ?_
  refine lv_iload_n (pc := 11) hx hb dX11_at_11 rfl (lv_at hl 1 rfl) ?_
  refine lv_iload_n (pc := 12) hx hb dX11_at_12 rfl (lv_at hl 2 rfl) ?_
  obtain ⟨r3, S2, hc, h⟩ := bnd_t h
  refine s_cvi (pc := 13) [.int a1, .int a2] (fun ad => [.ref (ad 5), .int a1, .int a2]) F w (m_X2_placeFinding _ _ _ _ _ hc) rfl rfl hl.1 ds_5 vc_X2 rfl ok_X2_placeFinding rfl kc_X2_placeFinding kl_X11_143 ki_X2_placeFinding kv_X2_placeFinding kn_X2 ⟨Nat.le_trans (by decide) hR1, Nat.le_trans (by decide) hR2⟩ ⟨Nat.zero_le _, Nat.zero_le _⟩ (Nat.le_of_ble_eq_true rfl) dX11_at_13 (fun H locs w => ?_)
  refine lv_istore_n (pc := 16) (lv' := [(3, .int r3), (0, .ref (ad 0)), (1, .int a1), (2, .int a2)]) hx hb dX11_at_16 rfl hl (by decide) rfl (fun ls hl => ?_)
  refine lv_iload_n (pc := 17) hx hb dX11_at_17 rfl (lv_at hl 0 rfl) ?_
  refine lv_if_eq (pc := 18) (tgt := 30) hx hb dX11_at_18 (by decide) (fun q => ?_) (fun q => ?_)
  · have h := ite_t q h
    refine lv_aload_n (pc := 30) hx hb dX11_at_30 rfl (lv_at hl 1 rfl) ?_
    refine s_getR (pc := 31) F w 2 ds_0 (j := 1) vc_X11 vi_X11 rfl (by decide) kf_X11_19 dX11_at_31 ?_
    refine lv_iload_n (pc := 34) hx hb dX11_at_34 rfl (lv_at hl 2 rfl) ?_
    refine lv_iload_n (pc := 35) hx hb dX11_at_35 rfl (lv_at hl 3 rfl) ?_
    obtain ⟨r5, S4, hc, h⟩ := bnd_t h
    refine s_csi (pc := 36) [.int a1, .int a2] (fun ad => [.int a1, .int a2]) F w (m_X2_spot _ _ _ _ _ hc) rfl rfl hl.1 ok_X2_spot rfl kc_X2_spot kl_X11_147 ks_X2_spot kn_X2 ⟨Nat.le_trans (by decide) hR1, Nat.le_trans (by decide) hR2⟩ ⟨Nat.zero_le _, Nat.zero_le _⟩ (Nat.le_of_ble_eq_true rfl) dX11_at_36 (fun H locs w => ?_)
    obtain ⟨r7, S6, hc, h⟩ := bnd_t h
    refine s_cvi (pc := 39) [.int r5] (fun ad => [.ref (ad 2), .int r5]) F w (m_X8_standsAt _ _ _ _ hc) rfl rfl hl.1 ds_2 vc_X8 rfl ok_X8_standsAt rfl kc_X8_standsAt kl_X11_150 ki_X8_standsAt kv_X8_standsAt kn_X8 ⟨Nat.le_trans (by decide) hR1, Nat.le_trans (by decide) hR2⟩ ⟨Nat.zero_le _, Nat.zero_le _⟩ (Nat.le_of_ble_eq_true rfl) dX11_at_39 (fun H locs w => ?_)
    exact s_iret F w h dX11_at_42
  · have h := ite_f q h
    refine lv_aload_n (pc := 21) hx hb dX11_at_21 rfl (lv_at hl 1 rfl) ?_
    refine s_getR (pc := 22) F w 1 ds_0 (j := 0) vc_X11 vi_X11 rfl (by decide) kf_X11_10 dX11_at_22 ?_
    refine lv_iload_n (pc := 25) hx hb dX11_at_25 rfl (lv_at hl 0 rfl) ?_
    obtain ⟨r9, S8, hc, h⟩ := bnd_t h
    refine s_cvi (pc := 26) [.int r3] (fun ad => [.ref (ad 1), .int r3]) F w (m_X5_found _ _ _ _ hc) rfl rfl hl.1 ds_1 vc_X5 rfl ok_X5_found rfl kc_X5_found kl_X11_98 ki_X5_found kv_X5_found kn_X5 ⟨Nat.le_trans (by decide) hR1, Nat.le_trans (by decide) hR2⟩ ⟨Nat.zero_le _, Nat.zero_le _⟩ (Nat.le_of_ble_eq_true rfl) dX11_at_26 (fun H locs w => ?_)
    exact s_iret F w h dX11_at_29
def f_X12_at (a1 : Int32) (a2 : Int32) (S : SS) : Option (Int32 × SS) :=
  bndv (f_X12_begin  S) (fun S1 =>
  bnd (f_X12_missPlace a1 a2 S1) (fun r3 S2 =>
  bnd (f_X12_ends r3 S2) (fun r5 S4 =>
  if r5 = 0 then
    bnd (f_X12_standing a1 a2 S4) (fun r7 S6 =>
    some (r7, S6))
  else
    some ((-2 : Int32), S4))))
theorem dX12_at_0 : decode cX12_at 0 = .ok (.aload_n 0, 1) := by decide +kernel
theorem dX12_at_1 : decode cX12_at 1 = .ok (.invokevirtual 226, 3) := by decide +kernel
theorem dX12_at_4 : decode cX12_at 4 = .ok (.aload_n 0, 1) := by decide +kernel
theorem dX12_at_5 : decode cX12_at 5 = .ok (.aload_n 0, 1) := by decide +kernel
theorem dX12_at_6 : decode cX12_at 6 = .ok (.iload_n 1, 1) := by decide +kernel
theorem dX12_at_7 : decode cX12_at 7 = .ok (.iload_n 2, 1) := by decide +kernel
theorem dX12_at_8 : decode cX12_at 8 = .ok (.invokevirtual 275, 3) := by decide +kernel
theorem dX12_at_11 : decode cX12_at 11 = .ok (.invokevirtual 236, 3) := by decide +kernel
theorem dX12_at_14 : decode cX12_at 14 = .ok (.ifCond .eq 8, 3) := by decide +kernel
theorem dX12_at_17 : decode cX12_at 17 = .ok (.bipush (-2), 2) := by decide +kernel
theorem dX12_at_19 : decode cX12_at 19 = .ok (.goto 9, 3) := by decide +kernel
theorem dX12_at_22 : decode cX12_at 22 = .ok (.aload_n 0, 1) := by decide +kernel
theorem dX12_at_23 : decode cX12_at 23 = .ok (.iload_n 1, 1) := by decide +kernel
theorem dX12_at_24 : decode cX12_at 24 = .ok (.iload_n 2, 1) := by decide +kernel
theorem dX12_at_25 : decode cX12_at 25 = .ok (.invokevirtual 279, 3) := by decide +kernel
theorem dX12_at_28 : decode cX12_at 28 = .ok (.ireturn, 1) := by decide +kernel
set_option maxRecDepth 100000 in
set_option maxHeartbeats 4000000 in
theorem m_X12_at (a1 : Int32) (a2 : Int32) (S S' : SS) (r : Int32) (h : f_X12_at a1 a2 S = some (r, S')) : MT yX12_at cX12_at 3 (some .int) 2 44 (fun ad => [.ref (ad 14), .int a1, .int a2]) S (some (.int r)) S' := by
  refine MT.of RX12 (fun ad => [(0, .ref (ad 14)), (1, .int a1), (2, .int a2)]) (by decide) rfl (fun _ => Nat.le_of_ble_eq_true rfl) (fun _ => rfl) ?_
  intro p l e R s m args below meth c dC dI cs ad A hR1 hR2 F H locs ls w hl
  have hx := F.1.1
  have hb := F.1.2.1
  rw [f_X12_at] at h
  refine lv_aload_n (pc := 0) hx hb dX12_at_0 rfl (lv_at hl 0 rfl) ?_
  obtain ⟨S1, hc, h⟩ := bndv_t h
  refine s_cvv (pc := 1) [] (fun ad => [.ref (ad 14)]) F w (m_X12_begin  _ _ hc) rfl rfl hl.1 ds_14 vc_X12 rfl ok_X12_begin rfl kc_X12_begin kl_X12_226 ki_X12_begin kv_X12_begin kn_X12 ⟨Nat.le_trans (by decide) hR1, Nat.le_trans (by decide) hR2⟩ ⟨Nat.zero_le _, Nat.zero_le _⟩ (Nat.le_of_ble_eq_true rfl) dX12_at_1 (fun H locs w => ?_)
  refine lv_aload_n (pc := 4) hx hb dX12_at_4 rfl (lv_at hl 0 rfl) ?_
  refine lv_aload_n (pc := 5) hx hb dX12_at_5 rfl (lv_at hl 0 rfl) ?_
  refine lv_iload_n (pc := 6) hx hb dX12_at_6 rfl (lv_at hl 1 rfl) ?_
  refine lv_iload_n (pc := 7) hx hb dX12_at_7 rfl (lv_at hl 2 rfl) ?_
  obtain ⟨r3, S2, hc, h⟩ := bnd_t h
  refine s_cvi (pc := 8) [.int a1, .int a2] (fun ad => [.ref (ad 14), .int a1, .int a2]) F w (m_X12_missPlace _ _ _ _ _ hc) rfl rfl hl.1 ds_14 vc_X12 rfl ok_X12_missPlace rfl kc_X12_missPlace kl_X12_275 ki_X12_missPlace kv_X12_missPlace kn_X12 ⟨Nat.le_trans (by decide) hR1, Nat.le_trans (by decide) hR2⟩ ⟨Nat.zero_le _, Nat.zero_le _⟩ (Nat.le_of_ble_eq_true rfl) dX12_at_8 (fun H locs w => ?_)
  obtain ⟨r5, S4, hc, h⟩ := bnd_t h
  refine s_cvi (pc := 11) [.int r3] (fun ad => [.ref (ad 14), .int r3]) F w (m_X12_ends _ _ _ _ hc) rfl rfl hl.1 ds_14 vc_X12 rfl ok_X12_ends rfl kc_X12_ends kl_X12_236 ki_X12_ends kv_X12_ends kn_X12 ⟨Nat.le_trans (by decide) hR1, Nat.le_trans (by decide) hR2⟩ ⟨Nat.zero_le _, Nat.zero_le _⟩ (Nat.le_of_ble_eq_true rfl) dX12_at_11 (fun H locs w => ?_)
  refine lv_if_eq (pc := 14) (tgt := 22) hx hb dX12_at_14 (by decide) (fun q => ?_) (fun q => ?_)
  · have h := ite_t q h
    refine lv_aload_n (pc := 22) hx hb dX12_at_22 rfl (lv_at hl 0 rfl) ?_
    refine lv_iload_n (pc := 23) hx hb dX12_at_23 rfl (lv_at hl 1 rfl) ?_
    refine lv_iload_n (pc := 24) hx hb dX12_at_24 rfl (lv_at hl 2 rfl) ?_
    obtain ⟨r7, S6, hc, h⟩ := bnd_t h
    refine s_cvi (pc := 25) [.int a1, .int a2] (fun ad => [.ref (ad 14), .int a1, .int a2]) F w (m_X12_standing _ _ _ _ _ hc) rfl rfl hl.1 ds_14 vc_X12 rfl ok_X12_standing rfl kc_X12_standing kl_X12_279 ki_X12_standing kv_X12_standing kn_X12 ⟨Nat.le_trans (by decide) hR1, Nat.le_trans (by decide) hR2⟩ ⟨Nat.zero_le _, Nat.zero_le _⟩ (Nat.le_of_ble_eq_true rfl) dX12_at_25 (fun H locs w => ?_)
    exact s_iret F w h dX12_at_28
  · have h := ite_f q h
    refine lv_bipush (pc := 17) (v := -2) hx hb dX12_at_17 (by decide) ?_
    refine lv_goto (pc := 19) (tgt := 28) hx hb dX12_at_19 (by decide) ?_
    exact s_iret F w h dX12_at_28
def f_X11_thing (a1 : Int32) (a2 : Int32) (S : SS) : Option (Int32 × SS) :=
  bnd (f_X11_isNot a2 (0 : Int32) (10 : Int32) S) (fun r2 S1 =>
  if r2 = 0 then
    bndv (f_X5_begin  S1) (fun S3 =>
    bnd (f_X11_named a1 (127 : Int32) S3) (fun r5 S4 =>
    if r5 = 0 then
      if a2 = (0 : Int32) then
        bnd (f_X9_get a1 (0 : Int32) S4) (fun r7 S6 =>
        some (r7, S6))
      else
      if a2 = (1 : Int32) then
        bnd (f_X8_get a1 (0 : Int32) S4) (fun r9 S8 =>
        bnd (f_X2_trackOf r9 S8) (fun r11 S10 =>
        some (r11, S10)))
      else
      if a2 = (2 : Int32) then
        bnd (f_X8_get a1 (0 : Int32) S4) (fun r13 S12 =>
        bnd (f_X2_placeOf r13 S12) (fun r15 S14 =>
        some (r15, S14)))
      else
      if a2 = (3 : Int32) then
        bnd (f_X8_get a1 (1 : Int32) S4) (fun r17 S16 =>
        some (r17, S16))
      else
      if a2 = (4 : Int32) then
        bnd (f_X8_get a1 (2 : Int32) S4) (fun r19 S18 =>
        some (r19, S18))
      else
      if a2 = (5 : Int32) then
        bnd (f_X8_get a1 (3 : Int32) S4) (fun r21 S20 =>
        some (r21, S20))
      else
      if a2 = (6 : Int32) then
        bnd (f_X8_get a1 (4 : Int32) S4) (fun r23 S22 =>
        some (r23, S22))
      else
      if a2 = (7 : Int32) then
        bnd (f_X8_get a1 (5 : Int32) S4) (fun r25 S24 =>
        some (r25, S24))
      else
      if a2 = (8 : Int32) then
        bnd (f_X8_get a1 (6 : Int32) S4) (fun r27 S26 =>
        some (r27, S26))
      else
      if a2 = (9 : Int32) then
        bnd (f_X8_get a1 (8 : Int32) S4) (fun r29 S28 =>
        some (r29, S28))
      else
      bnd (f_X8_get a1 (10 : Int32) S4) (fun r31 S30 =>
      some (r31, S30))
    else
      bnd (f_X5_found r5 S4) (fun r33 S32 =>
      some (r33, S32))))
  else
    some ((-1 : Int32), S1))
theorem dX11_thing_0 : decode cX11_thing 0 = .ok (.iload_n 2, 1) := by decide +kernel
theorem dX11_thing_1 : decode cX11_thing 1 = .ok (.iconst 0, 1) := by decide +kernel
theorem dX11_thing_2 : decode cX11_thing 2 = .ok (.bipush 10, 2) := by decide +kernel
theorem dX11_thing_4 : decode cX11_thing 4 = .ok (.invokestatic 108, 3) := by decide +kernel
theorem dX11_thing_7 : decode cX11_thing 7 = .ok (.ifCond .eq 5, 3) := by decide +kernel
theorem dX11_thing_10 : decode cX11_thing 10 = .ok (.iconst (-1), 1) := by decide +kernel
theorem dX11_thing_11 : decode cX11_thing 11 = .ok (.ireturn, 1) := by decide +kernel
theorem dX11_thing_12 : decode cX11_thing 12 = .ok (.aload_n 0, 1) := by decide +kernel
theorem dX11_thing_13 : decode cX11_thing 13 = .ok (.getfield 10, 3) := by decide +kernel
theorem dX11_thing_16 : decode cX11_thing 16 = .ok (.invokevirtual 95, 3) := by decide +kernel
theorem dX11_thing_19 : decode cX11_thing 19 = .ok (.aload_n 0, 1) := by decide +kernel
theorem dX11_thing_20 : decode cX11_thing 20 = .ok (.iload_n 1, 1) := by decide +kernel
theorem dX11_thing_21 : decode cX11_thing 21 = .ok (.bipush 127, 2) := by decide +kernel
theorem dX11_thing_23 : decode cX11_thing 23 = .ok (.invokevirtual 185, 3) := by decide +kernel
theorem dX11_thing_26 : decode cX11_thing 26 = .ok (.istore_n 3, 1) := by decide +kernel
theorem dX11_thing_27 : decode cX11_thing 27 = .ok (.iload_n 3, 1) := by decide +kernel
theorem dX11_thing_28 : decode cX11_thing 28 = .ok (.ifCond .eq 12, 3) := by decide +kernel
theorem dX11_thing_31 : decode cX11_thing 31 = .ok (.aload_n 0, 1) := by decide +kernel
theorem dX11_thing_32 : decode cX11_thing 32 = .ok (.getfield 10, 3) := by decide +kernel
theorem dX11_thing_35 : decode cX11_thing 35 = .ok (.iload_n 3, 1) := by decide +kernel
theorem dX11_thing_36 : decode cX11_thing 36 = .ok (.invokevirtual 98, 3) := by decide +kernel
theorem dX11_thing_39 : decode cX11_thing 39 = .ok (.ireturn, 1) := by decide +kernel
theorem dX11_thing_40 : decode cX11_thing 40 = .ok (.iload_n 2, 1) := by decide +kernel
theorem dX11_thing_41 : decode cX11_thing 41 = .ok (.tableswitch 163 0 9 #[55, 65, 78, 91, 101, 111, 121, 131, 141, 152], 55) := by decide +kernel
theorem dX11_thing_96 : decode cX11_thing 96 = .ok (.aload_n 0, 1) := by decide +kernel
theorem dX11_thing_97 : decode cX11_thing 97 = .ok (.getfield 33, 3) := by decide +kernel
theorem dX11_thing_100 : decode cX11_thing 100 = .ok (.iload_n 1, 1) := by decide +kernel
theorem dX11_thing_101 : decode cX11_thing 101 = .ok (.iconst 0, 1) := by decide +kernel
theorem dX11_thing_102 : decode cX11_thing 102 = .ok (.invokevirtual 335, 3) := by decide +kernel
theorem dX11_thing_105 : decode cX11_thing 105 = .ok (.ireturn, 1) := by decide +kernel
theorem dX11_thing_106 : decode cX11_thing 106 = .ok (.aload_n 0, 1) := by decide +kernel
theorem dX11_thing_107 : decode cX11_thing 107 = .ok (.getfield 19, 3) := by decide +kernel
theorem dX11_thing_110 : decode cX11_thing 110 = .ok (.iload_n 1, 1) := by decide +kernel
theorem dX11_thing_111 : decode cX11_thing 111 = .ok (.iconst 0, 1) := by decide +kernel
theorem dX11_thing_112 : decode cX11_thing 112 = .ok (.invokevirtual 253, 3) := by decide +kernel
theorem dX11_thing_115 : decode cX11_thing 115 = .ok (.invokestatic 336, 3) := by decide +kernel
theorem dX11_thing_118 : decode cX11_thing 118 = .ok (.ireturn, 1) := by decide +kernel
theorem dX11_thing_119 : decode cX11_thing 119 = .ok (.aload_n 0, 1) := by decide +kernel
theorem dX11_thing_120 : decode cX11_thing 120 = .ok (.getfield 19, 3) := by decide +kernel
theorem dX11_thing_123 : decode cX11_thing 123 = .ok (.iload_n 1, 1) := by decide +kernel
theorem dX11_thing_124 : decode cX11_thing 124 = .ok (.iconst 0, 1) := by decide +kernel
theorem dX11_thing_125 : decode cX11_thing 125 = .ok (.invokevirtual 253, 3) := by decide +kernel
theorem dX11_thing_128 : decode cX11_thing 128 = .ok (.invokestatic 339, 3) := by decide +kernel
theorem dX11_thing_131 : decode cX11_thing 131 = .ok (.ireturn, 1) := by decide +kernel
theorem dX11_thing_132 : decode cX11_thing 132 = .ok (.aload_n 0, 1) := by decide +kernel
theorem dX11_thing_133 : decode cX11_thing 133 = .ok (.getfield 19, 3) := by decide +kernel
theorem dX11_thing_136 : decode cX11_thing 136 = .ok (.iload_n 1, 1) := by decide +kernel
theorem dX11_thing_137 : decode cX11_thing 137 = .ok (.iconst 1, 1) := by decide +kernel
theorem dX11_thing_138 : decode cX11_thing 138 = .ok (.invokevirtual 253, 3) := by decide +kernel
theorem dX11_thing_141 : decode cX11_thing 141 = .ok (.ireturn, 1) := by decide +kernel
theorem dX11_thing_142 : decode cX11_thing 142 = .ok (.aload_n 0, 1) := by decide +kernel
theorem dX11_thing_143 : decode cX11_thing 143 = .ok (.getfield 19, 3) := by decide +kernel
theorem dX11_thing_146 : decode cX11_thing 146 = .ok (.iload_n 1, 1) := by decide +kernel
theorem dX11_thing_147 : decode cX11_thing 147 = .ok (.iconst 2, 1) := by decide +kernel
theorem dX11_thing_148 : decode cX11_thing 148 = .ok (.invokevirtual 253, 3) := by decide +kernel
theorem dX11_thing_151 : decode cX11_thing 151 = .ok (.ireturn, 1) := by decide +kernel
theorem dX11_thing_152 : decode cX11_thing 152 = .ok (.aload_n 0, 1) := by decide +kernel
theorem dX11_thing_153 : decode cX11_thing 153 = .ok (.getfield 19, 3) := by decide +kernel
theorem dX11_thing_156 : decode cX11_thing 156 = .ok (.iload_n 1, 1) := by decide +kernel
theorem dX11_thing_157 : decode cX11_thing 157 = .ok (.iconst 3, 1) := by decide +kernel
theorem dX11_thing_158 : decode cX11_thing 158 = .ok (.invokevirtual 253, 3) := by decide +kernel
theorem dX11_thing_161 : decode cX11_thing 161 = .ok (.ireturn, 1) := by decide +kernel
theorem dX11_thing_162 : decode cX11_thing 162 = .ok (.aload_n 0, 1) := by decide +kernel
theorem dX11_thing_163 : decode cX11_thing 163 = .ok (.getfield 19, 3) := by decide +kernel
theorem dX11_thing_166 : decode cX11_thing 166 = .ok (.iload_n 1, 1) := by decide +kernel
theorem dX11_thing_167 : decode cX11_thing 167 = .ok (.iconst 4, 1) := by decide +kernel
theorem dX11_thing_168 : decode cX11_thing 168 = .ok (.invokevirtual 253, 3) := by decide +kernel
theorem dX11_thing_171 : decode cX11_thing 171 = .ok (.ireturn, 1) := by decide +kernel
theorem dX11_thing_172 : decode cX11_thing 172 = .ok (.aload_n 0, 1) := by decide +kernel
theorem dX11_thing_173 : decode cX11_thing 173 = .ok (.getfield 19, 3) := by decide +kernel
theorem dX11_thing_176 : decode cX11_thing 176 = .ok (.iload_n 1, 1) := by decide +kernel
theorem dX11_thing_177 : decode cX11_thing 177 = .ok (.iconst 5, 1) := by decide +kernel
theorem dX11_thing_178 : decode cX11_thing 178 = .ok (.invokevirtual 253, 3) := by decide +kernel
theorem dX11_thing_181 : decode cX11_thing 181 = .ok (.ireturn, 1) := by decide +kernel
theorem dX11_thing_182 : decode cX11_thing 182 = .ok (.aload_n 0, 1) := by decide +kernel
theorem dX11_thing_183 : decode cX11_thing 183 = .ok (.getfield 19, 3) := by decide +kernel
theorem dX11_thing_186 : decode cX11_thing 186 = .ok (.iload_n 1, 1) := by decide +kernel
theorem dX11_thing_187 : decode cX11_thing 187 = .ok (.bipush 6, 2) := by decide +kernel
theorem dX11_thing_189 : decode cX11_thing 189 = .ok (.invokevirtual 253, 3) := by decide +kernel
theorem dX11_thing_192 : decode cX11_thing 192 = .ok (.ireturn, 1) := by decide +kernel
theorem dX11_thing_193 : decode cX11_thing 193 = .ok (.aload_n 0, 1) := by decide +kernel
theorem dX11_thing_194 : decode cX11_thing 194 = .ok (.getfield 19, 3) := by decide +kernel
theorem dX11_thing_197 : decode cX11_thing 197 = .ok (.iload_n 1, 1) := by decide +kernel
theorem dX11_thing_198 : decode cX11_thing 198 = .ok (.bipush 8, 2) := by decide +kernel
theorem dX11_thing_200 : decode cX11_thing 200 = .ok (.invokevirtual 253, 3) := by decide +kernel
theorem dX11_thing_203 : decode cX11_thing 203 = .ok (.ireturn, 1) := by decide +kernel
theorem dX11_thing_204 : decode cX11_thing 204 = .ok (.aload_n 0, 1) := by decide +kernel
theorem dX11_thing_205 : decode cX11_thing 205 = .ok (.getfield 19, 3) := by decide +kernel
theorem dX11_thing_208 : decode cX11_thing 208 = .ok (.iload_n 1, 1) := by decide +kernel
theorem dX11_thing_209 : decode cX11_thing 209 = .ok (.bipush 10, 2) := by decide +kernel
theorem dX11_thing_211 : decode cX11_thing 211 = .ok (.invokevirtual 253, 3) := by decide +kernel
theorem dX11_thing_214 : decode cX11_thing 214 = .ok (.ireturn, 1) := by decide +kernel
set_option maxRecDepth 100000 in
set_option maxHeartbeats 4000000 in
theorem m_X11_thing (a1 : Int32) (a2 : Int32) (S S' : SS) (r : Int32) (h : f_X11_thing a1 a2 S = some (r, S')) : MT yX11_thing cX11_thing 4 (some .int) 3 67 (fun ad => [.ref (ad 0), .int a1, .int a2]) S (some (.int r)) S' := by
  refine MT.of RX11 (fun ad => [(0, .ref (ad 0)), (1, .int a1), (2, .int a2)]) (by decide) rfl (fun _ => Nat.le_of_ble_eq_true rfl) (fun _ => rfl) ?_
  intro p l e R s m args below meth c dC dI cs ad A hR1 hR2 F H locs ls w hl
  have hx := F.1.1
  have hb := F.1.2.1
  rw [f_X11_thing] at h
  refine lv_iload_n (pc := 0) hx hb dX11_thing_0 rfl (lv_at hl 2 rfl) ?_
  refine lv_iconst (pc := 1) (v := 0) hx hb dX11_thing_1 (by decide) ?_
  refine lv_bipush (pc := 2) (v := 10) hx hb dX11_thing_2 (by decide) ?_
  obtain ⟨r2, S1, hc, h⟩ := bnd_t h
  refine s_csi (pc := 4) [.int a2, .int (0 : Int32), .int (10 : Int32)] (fun ad => [.int a2, .int (0 : Int32), .int (10 : Int32)]) F w (m_X11_isNot _ _ _ _ _ _ hc) rfl rfl hl.1 ok_X11_isNot rfl kc_X11_isNot kl_X11_108 ks_X11_isNot kn_X11 ⟨Nat.le_trans (by decide) hR1, Nat.le_trans (by decide) hR2⟩ ⟨Nat.zero_le _, Nat.zero_le _⟩ (Nat.le_of_ble_eq_true rfl) dX11_thing_4 (fun H locs w => ?_)
  refine lv_if_eq (pc := 7) (tgt := 12) hx hb dX11_thing_7 (by decide) (fun q => ?_) (fun q => ?_)
  · have h := ite_t q h
    refine lv_aload_n (pc := 12) hx hb dX11_thing_12 rfl (lv_at hl 0 rfl) ?_
    refine s_getR (pc := 13) F w 1 ds_0 (j := 0) vc_X11 vi_X11 rfl (by decide) kf_X11_10 dX11_thing_13 ?_
    obtain ⟨S3, hc, h⟩ := bndv_t h
    refine s_cvv (pc := 16) [] (fun ad => [.ref (ad 1)]) F w (m_X5_begin  _ _ hc) rfl rfl hl.1 ds_1 vc_X5 rfl ok_X5_begin rfl kc_X5_begin kl_X11_95 ki_X5_begin kv_X5_begin kn_X5 ⟨Nat.le_trans (by decide) hR1, Nat.le_trans (by decide) hR2⟩ ⟨Nat.zero_le _, Nat.zero_le _⟩ (Nat.le_of_ble_eq_true rfl) dX11_thing_16 (fun H locs w => ?_)
    refine lv_aload_n (pc := 19) hx hb dX11_thing_19 rfl (lv_at hl 0 rfl) ?_
    refine lv_iload_n (pc := 20) hx hb dX11_thing_20 rfl (lv_at hl 1 rfl) ?_
    refine lv_bipush (pc := 21) (v := 127) hx hb dX11_thing_21 (by decide) ?_
    obtain ⟨r5, S4, hc, h⟩ := bnd_t h
    refine s_cvi (pc := 23) [.int a1, .int (127 : Int32)] (fun ad => [.ref (ad 0), .int a1, .int (127 : Int32)]) F w (m_X11_named _ _ _ _ _ hc) rfl rfl hl.1 ds_0 vc_X11 rfl ok_X11_named rfl kc_X11_named kl_X11_185 ki_X11_named kv_X11_named kn_X11 ⟨Nat.le_trans (by decide) hR1, Nat.le_trans (by decide) hR2⟩ ⟨Nat.zero_le _, Nat.zero_le _⟩ (Nat.le_of_ble_eq_true rfl) dX11_thing_23 (fun H locs w => ?_)
    refine lv_istore_n (pc := 26) (lv' := [(3, .int r5), (0, .ref (ad 0)), (1, .int a1), (2, .int a2)]) hx hb dX11_thing_26 rfl hl (by decide) rfl (fun ls hl => ?_)
    refine lv_iload_n (pc := 27) hx hb dX11_thing_27 rfl (lv_at hl 0 rfl) ?_
    refine lv_if_eq (pc := 28) (tgt := 40) hx hb dX11_thing_28 (by decide) (fun q => ?_) (fun q => ?_)
    · have h := ite_t q h
      refine lv_iload_n (pc := 40) hx hb dX11_thing_40 rfl (lv_at hl 3 rfl) ?_
      rcases Decidable.em (a2 = (0 : Int32)) with q0 | q0
      · refine lv_tableIn (pc := 41) (tgt := 96) (off := 55) hx hb dX11_thing_41 (by rw [q0]; decide) (by rw [q0]; decide) (by rw [q0]; rfl) (by decide) ?_
        have h := ite_t q0 h
        refine lv_aload_n (pc := 96) hx hb dX11_thing_96 rfl (lv_at hl 1 rfl) ?_
        refine s_getR (pc := 97) F w 4 ds_0 (j := 3) vc_X11 vi_X11 rfl (by decide) kf_X11_33 dX11_thing_97 ?_
        refine lv_iload_n (pc := 100) hx hb dX11_thing_100 rfl (lv_at hl 2 rfl) ?_
        refine lv_iconst (pc := 101) (v := 0) hx hb dX11_thing_101 (by decide) ?_
        obtain ⟨r7, S6, hc, h⟩ := bnd_t h
        refine s_cvi (pc := 102) [.int a1, .int (0 : Int32)] (fun ad => [.ref (ad 4), .int a1, .int (0 : Int32)]) F w (m_X9_get _ _ _ _ _ hc) rfl rfl hl.1 ds_4 vc_X9 rfl ok_X9_get rfl kc_X9_get kl_X11_335 ki_X9_get kv_X9_get kn_X9 ⟨Nat.le_trans (by decide) hR1, Nat.le_trans (by decide) hR2⟩ ⟨Nat.zero_le _, Nat.zero_le _⟩ (Nat.le_of_ble_eq_true rfl) dX11_thing_102 (fun H locs w => ?_)
        exact s_iret F w h dX11_thing_105
      have h := ite_f q0 h
      rcases Decidable.em (a2 = (1 : Int32)) with q1 | q1
      · refine lv_tableIn (pc := 41) (tgt := 106) (off := 65) hx hb dX11_thing_41 (by rw [q1]; decide) (by rw [q1]; decide) (by rw [q1]; rfl) (by decide) ?_
        have h := ite_t q1 h
        refine lv_aload_n (pc := 106) hx hb dX11_thing_106 rfl (lv_at hl 1 rfl) ?_
        refine s_getR (pc := 107) F w 2 ds_0 (j := 1) vc_X11 vi_X11 rfl (by decide) kf_X11_19 dX11_thing_107 ?_
        refine lv_iload_n (pc := 110) hx hb dX11_thing_110 rfl (lv_at hl 2 rfl) ?_
        refine lv_iconst (pc := 111) (v := 0) hx hb dX11_thing_111 (by decide) ?_
        obtain ⟨r9, S8, hc, h⟩ := bnd_t h
        refine s_cvi (pc := 112) [.int a1, .int (0 : Int32)] (fun ad => [.ref (ad 2), .int a1, .int (0 : Int32)]) F w (m_X8_get _ _ _ _ _ hc) rfl rfl hl.1 ds_2 vc_X8 rfl ok_X8_get rfl kc_X8_get kl_X11_253 ki_X8_get kv_X8_get kn_X8 ⟨Nat.le_trans (by decide) hR1, Nat.le_trans (by decide) hR2⟩ ⟨Nat.zero_le _, Nat.zero_le _⟩ (Nat.le_of_ble_eq_true rfl) dX11_thing_112 (fun H locs w => ?_)
        obtain ⟨r11, S10, hc, h⟩ := bnd_t h
        refine s_csi (pc := 115) [.int r9] (fun ad => [.int r9]) F w (m_X2_trackOf _ _ _ _ hc) rfl rfl hl.1 ok_X2_trackOf rfl kc_X2_trackOf kl_X11_336 ks_X2_trackOf kn_X2 ⟨Nat.le_trans (by decide) hR1, Nat.le_trans (by decide) hR2⟩ ⟨Nat.zero_le _, Nat.zero_le _⟩ (Nat.le_of_ble_eq_true rfl) dX11_thing_115 (fun H locs w => ?_)
        exact s_iret F w h dX11_thing_118
      have h := ite_f q1 h
      rcases Decidable.em (a2 = (2 : Int32)) with q2 | q2
      · refine lv_tableIn (pc := 41) (tgt := 119) (off := 78) hx hb dX11_thing_41 (by rw [q2]; decide) (by rw [q2]; decide) (by rw [q2]; rfl) (by decide) ?_
        have h := ite_t q2 h
        refine lv_aload_n (pc := 119) hx hb dX11_thing_119 rfl (lv_at hl 1 rfl) ?_
        refine s_getR (pc := 120) F w 2 ds_0 (j := 1) vc_X11 vi_X11 rfl (by decide) kf_X11_19 dX11_thing_120 ?_
        refine lv_iload_n (pc := 123) hx hb dX11_thing_123 rfl (lv_at hl 2 rfl) ?_
        refine lv_iconst (pc := 124) (v := 0) hx hb dX11_thing_124 (by decide) ?_
        obtain ⟨r13, S12, hc, h⟩ := bnd_t h
        refine s_cvi (pc := 125) [.int a1, .int (0 : Int32)] (fun ad => [.ref (ad 2), .int a1, .int (0 : Int32)]) F w (m_X8_get _ _ _ _ _ hc) rfl rfl hl.1 ds_2 vc_X8 rfl ok_X8_get rfl kc_X8_get kl_X11_253 ki_X8_get kv_X8_get kn_X8 ⟨Nat.le_trans (by decide) hR1, Nat.le_trans (by decide) hR2⟩ ⟨Nat.zero_le _, Nat.zero_le _⟩ (Nat.le_of_ble_eq_true rfl) dX11_thing_125 (fun H locs w => ?_)
        obtain ⟨r15, S14, hc, h⟩ := bnd_t h
        refine s_csi (pc := 128) [.int r13] (fun ad => [.int r13]) F w (m_X2_placeOf _ _ _ _ hc) rfl rfl hl.1 ok_X2_placeOf rfl kc_X2_placeOf kl_X11_339 ks_X2_placeOf kn_X2 ⟨Nat.le_trans (by decide) hR1, Nat.le_trans (by decide) hR2⟩ ⟨Nat.zero_le _, Nat.zero_le _⟩ (Nat.le_of_ble_eq_true rfl) dX11_thing_128 (fun H locs w => ?_)
        exact s_iret F w h dX11_thing_131
      have h := ite_f q2 h
      rcases Decidable.em (a2 = (3 : Int32)) with q3 | q3
      · refine lv_tableIn (pc := 41) (tgt := 132) (off := 91) hx hb dX11_thing_41 (by rw [q3]; decide) (by rw [q3]; decide) (by rw [q3]; rfl) (by decide) ?_
        have h := ite_t q3 h
        refine lv_aload_n (pc := 132) hx hb dX11_thing_132 rfl (lv_at hl 1 rfl) ?_
        refine s_getR (pc := 133) F w 2 ds_0 (j := 1) vc_X11 vi_X11 rfl (by decide) kf_X11_19 dX11_thing_133 ?_
        refine lv_iload_n (pc := 136) hx hb dX11_thing_136 rfl (lv_at hl 2 rfl) ?_
        refine lv_iconst (pc := 137) (v := 1) hx hb dX11_thing_137 (by decide) ?_
        obtain ⟨r17, S16, hc, h⟩ := bnd_t h
        refine s_cvi (pc := 138) [.int a1, .int (1 : Int32)] (fun ad => [.ref (ad 2), .int a1, .int (1 : Int32)]) F w (m_X8_get _ _ _ _ _ hc) rfl rfl hl.1 ds_2 vc_X8 rfl ok_X8_get rfl kc_X8_get kl_X11_253 ki_X8_get kv_X8_get kn_X8 ⟨Nat.le_trans (by decide) hR1, Nat.le_trans (by decide) hR2⟩ ⟨Nat.zero_le _, Nat.zero_le _⟩ (Nat.le_of_ble_eq_true rfl) dX11_thing_138 (fun H locs w => ?_)
        exact s_iret F w h dX11_thing_141
      have h := ite_f q3 h
      rcases Decidable.em (a2 = (4 : Int32)) with q4 | q4
      · refine lv_tableIn (pc := 41) (tgt := 142) (off := 101) hx hb dX11_thing_41 (by rw [q4]; decide) (by rw [q4]; decide) (by rw [q4]; rfl) (by decide) ?_
        have h := ite_t q4 h
        refine lv_aload_n (pc := 142) hx hb dX11_thing_142 rfl (lv_at hl 1 rfl) ?_
        refine s_getR (pc := 143) F w 2 ds_0 (j := 1) vc_X11 vi_X11 rfl (by decide) kf_X11_19 dX11_thing_143 ?_
        refine lv_iload_n (pc := 146) hx hb dX11_thing_146 rfl (lv_at hl 2 rfl) ?_
        refine lv_iconst (pc := 147) (v := 2) hx hb dX11_thing_147 (by decide) ?_
        obtain ⟨r19, S18, hc, h⟩ := bnd_t h
        refine s_cvi (pc := 148) [.int a1, .int (2 : Int32)] (fun ad => [.ref (ad 2), .int a1, .int (2 : Int32)]) F w (m_X8_get _ _ _ _ _ hc) rfl rfl hl.1 ds_2 vc_X8 rfl ok_X8_get rfl kc_X8_get kl_X11_253 ki_X8_get kv_X8_get kn_X8 ⟨Nat.le_trans (by decide) hR1, Nat.le_trans (by decide) hR2⟩ ⟨Nat.zero_le _, Nat.zero_le _⟩ (Nat.le_of_ble_eq_true rfl) dX11_thing_148 (fun H locs w => ?_)
        exact s_iret F w h dX11_thing_151
      have h := ite_f q4 h
      rcases Decidable.em (a2 = (5 : Int32)) with q5 | q5
      · refine lv_tableIn (pc := 41) (tgt := 152) (off := 111) hx hb dX11_thing_41 (by rw [q5]; decide) (by rw [q5]; decide) (by rw [q5]; rfl) (by decide) ?_
        have h := ite_t q5 h
        refine lv_aload_n (pc := 152) hx hb dX11_thing_152 rfl (lv_at hl 1 rfl) ?_
        refine s_getR (pc := 153) F w 2 ds_0 (j := 1) vc_X11 vi_X11 rfl (by decide) kf_X11_19 dX11_thing_153 ?_
        refine lv_iload_n (pc := 156) hx hb dX11_thing_156 rfl (lv_at hl 2 rfl) ?_
        refine lv_iconst (pc := 157) (v := 3) hx hb dX11_thing_157 (by decide) ?_
        obtain ⟨r21, S20, hc, h⟩ := bnd_t h
        refine s_cvi (pc := 158) [.int a1, .int (3 : Int32)] (fun ad => [.ref (ad 2), .int a1, .int (3 : Int32)]) F w (m_X8_get _ _ _ _ _ hc) rfl rfl hl.1 ds_2 vc_X8 rfl ok_X8_get rfl kc_X8_get kl_X11_253 ki_X8_get kv_X8_get kn_X8 ⟨Nat.le_trans (by decide) hR1, Nat.le_trans (by decide) hR2⟩ ⟨Nat.zero_le _, Nat.zero_le _⟩ (Nat.le_of_ble_eq_true rfl) dX11_thing_158 (fun H locs w => ?_)
        exact s_iret F w h dX11_thing_161
      have h := ite_f q5 h
      rcases Decidable.em (a2 = (6 : Int32)) with q6 | q6
      · refine lv_tableIn (pc := 41) (tgt := 162) (off := 121) hx hb dX11_thing_41 (by rw [q6]; decide) (by rw [q6]; decide) (by rw [q6]; rfl) (by decide) ?_
        have h := ite_t q6 h
        refine lv_aload_n (pc := 162) hx hb dX11_thing_162 rfl (lv_at hl 1 rfl) ?_
        refine s_getR (pc := 163) F w 2 ds_0 (j := 1) vc_X11 vi_X11 rfl (by decide) kf_X11_19 dX11_thing_163 ?_
        refine lv_iload_n (pc := 166) hx hb dX11_thing_166 rfl (lv_at hl 2 rfl) ?_
        refine lv_iconst (pc := 167) (v := 4) hx hb dX11_thing_167 (by decide) ?_
        obtain ⟨r23, S22, hc, h⟩ := bnd_t h
        refine s_cvi (pc := 168) [.int a1, .int (4 : Int32)] (fun ad => [.ref (ad 2), .int a1, .int (4 : Int32)]) F w (m_X8_get _ _ _ _ _ hc) rfl rfl hl.1 ds_2 vc_X8 rfl ok_X8_get rfl kc_X8_get kl_X11_253 ki_X8_get kv_X8_get kn_X8 ⟨Nat.le_trans (by decide) hR1, Nat.le_trans (by decide) hR2⟩ ⟨Nat.zero_le _, Nat.zero_le _⟩ (Nat.le_of_ble_eq_true rfl) dX11_thing_168 (fun H locs w => ?_)
        exact s_iret F w h dX11_thing_171
      have h := ite_f q6 h
      rcases Decidable.em (a2 = (7 : Int32)) with q7 | q7
      · refine lv_tableIn (pc := 41) (tgt := 172) (off := 131) hx hb dX11_thing_41 (by rw [q7]; decide) (by rw [q7]; decide) (by rw [q7]; rfl) (by decide) ?_
        have h := ite_t q7 h
        refine lv_aload_n (pc := 172) hx hb dX11_thing_172 rfl (lv_at hl 1 rfl) ?_
        refine s_getR (pc := 173) F w 2 ds_0 (j := 1) vc_X11 vi_X11 rfl (by decide) kf_X11_19 dX11_thing_173 ?_
        refine lv_iload_n (pc := 176) hx hb dX11_thing_176 rfl (lv_at hl 2 rfl) ?_
        refine lv_iconst (pc := 177) (v := 5) hx hb dX11_thing_177 (by decide) ?_
        obtain ⟨r25, S24, hc, h⟩ := bnd_t h
        refine s_cvi (pc := 178) [.int a1, .int (5 : Int32)] (fun ad => [.ref (ad 2), .int a1, .int (5 : Int32)]) F w (m_X8_get _ _ _ _ _ hc) rfl rfl hl.1 ds_2 vc_X8 rfl ok_X8_get rfl kc_X8_get kl_X11_253 ki_X8_get kv_X8_get kn_X8 ⟨Nat.le_trans (by decide) hR1, Nat.le_trans (by decide) hR2⟩ ⟨Nat.zero_le _, Nat.zero_le _⟩ (Nat.le_of_ble_eq_true rfl) dX11_thing_178 (fun H locs w => ?_)
        exact s_iret F w h dX11_thing_181
      have h := ite_f q7 h
      rcases Decidable.em (a2 = (8 : Int32)) with q8 | q8
      · refine lv_tableIn (pc := 41) (tgt := 182) (off := 141) hx hb dX11_thing_41 (by rw [q8]; decide) (by rw [q8]; decide) (by rw [q8]; rfl) (by decide) ?_
        have h := ite_t q8 h
        refine lv_aload_n (pc := 182) hx hb dX11_thing_182 rfl (lv_at hl 1 rfl) ?_
        refine s_getR (pc := 183) F w 2 ds_0 (j := 1) vc_X11 vi_X11 rfl (by decide) kf_X11_19 dX11_thing_183 ?_
        refine lv_iload_n (pc := 186) hx hb dX11_thing_186 rfl (lv_at hl 2 rfl) ?_
        refine lv_bipush (pc := 187) (v := 6) hx hb dX11_thing_187 (by decide) ?_
        obtain ⟨r27, S26, hc, h⟩ := bnd_t h
        refine s_cvi (pc := 189) [.int a1, .int (6 : Int32)] (fun ad => [.ref (ad 2), .int a1, .int (6 : Int32)]) F w (m_X8_get _ _ _ _ _ hc) rfl rfl hl.1 ds_2 vc_X8 rfl ok_X8_get rfl kc_X8_get kl_X11_253 ki_X8_get kv_X8_get kn_X8 ⟨Nat.le_trans (by decide) hR1, Nat.le_trans (by decide) hR2⟩ ⟨Nat.zero_le _, Nat.zero_le _⟩ (Nat.le_of_ble_eq_true rfl) dX11_thing_189 (fun H locs w => ?_)
        exact s_iret F w h dX11_thing_192
      have h := ite_f q8 h
      rcases Decidable.em (a2 = (9 : Int32)) with q9 | q9
      · refine lv_tableIn (pc := 41) (tgt := 193) (off := 152) hx hb dX11_thing_41 (by rw [q9]; decide) (by rw [q9]; decide) (by rw [q9]; rfl) (by decide) ?_
        have h := ite_t q9 h
        refine lv_aload_n (pc := 193) hx hb dX11_thing_193 rfl (lv_at hl 1 rfl) ?_
        refine s_getR (pc := 194) F w 2 ds_0 (j := 1) vc_X11 vi_X11 rfl (by decide) kf_X11_19 dX11_thing_194 ?_
        refine lv_iload_n (pc := 197) hx hb dX11_thing_197 rfl (lv_at hl 2 rfl) ?_
        refine lv_bipush (pc := 198) (v := 8) hx hb dX11_thing_198 (by decide) ?_
        obtain ⟨r29, S28, hc, h⟩ := bnd_t h
        refine s_cvi (pc := 200) [.int a1, .int (8 : Int32)] (fun ad => [.ref (ad 2), .int a1, .int (8 : Int32)]) F w (m_X8_get _ _ _ _ _ hc) rfl rfl hl.1 ds_2 vc_X8 rfl ok_X8_get rfl kc_X8_get kl_X11_253 ki_X8_get kv_X8_get kn_X8 ⟨Nat.le_trans (by decide) hR1, Nat.le_trans (by decide) hR2⟩ ⟨Nat.zero_le _, Nat.zero_le _⟩ (Nat.le_of_ble_eq_true rfl) dX11_thing_200 (fun H locs w => ?_)
        exact s_iret F w h dX11_thing_203
      have h := ite_f q9 h
      refine lv_tableOut (pc := 41) (tgt := 204) hx hb dX11_thing_41 (by have zq0 := i32ne q0 (show ((0 : Int32)).toInt = 0 by decide); have zq1 := i32ne q1 (show ((1 : Int32)).toInt = 1 by decide); have zq2 := i32ne q2 (show ((2 : Int32)).toInt = 2 by decide); have zq3 := i32ne q3 (show ((3 : Int32)).toInt = 3 by decide); have zq4 := i32ne q4 (show ((4 : Int32)).toInt = 4 by decide); have zq5 := i32ne q5 (show ((5 : Int32)).toInt = 5 by decide); have zq6 := i32ne q6 (show ((6 : Int32)).toInt = 6 by decide); have zq7 := i32ne q7 (show ((7 : Int32)).toInt = 7 by decide); have zq8 := i32ne q8 (show ((8 : Int32)).toInt = 8 by decide); have zq9 := i32ne q9 (show ((9 : Int32)).toInt = 9 by decide); omega) (by decide) ?_
      refine lv_aload_n (pc := 204) hx hb dX11_thing_204 rfl (lv_at hl 1 rfl) ?_
      refine s_getR (pc := 205) F w 2 ds_0 (j := 1) vc_X11 vi_X11 rfl (by decide) kf_X11_19 dX11_thing_205 ?_
      refine lv_iload_n (pc := 208) hx hb dX11_thing_208 rfl (lv_at hl 2 rfl) ?_
      refine lv_bipush (pc := 209) (v := 10) hx hb dX11_thing_209 (by decide) ?_
      obtain ⟨r31, S30, hc, h⟩ := bnd_t h
      refine s_cvi (pc := 211) [.int a1, .int (10 : Int32)] (fun ad => [.ref (ad 2), .int a1, .int (10 : Int32)]) F w (m_X8_get _ _ _ _ _ hc) rfl rfl hl.1 ds_2 vc_X8 rfl ok_X8_get rfl kc_X8_get kl_X11_253 ki_X8_get kv_X8_get kn_X8 ⟨Nat.le_trans (by decide) hR1, Nat.le_trans (by decide) hR2⟩ ⟨Nat.zero_le _, Nat.zero_le _⟩ (Nat.le_of_ble_eq_true rfl) dX11_thing_211 (fun H locs w => ?_)
      exact s_iret F w h dX11_thing_214
    · have h := ite_f q h
      refine lv_aload_n (pc := 31) hx hb dX11_thing_31 rfl (lv_at hl 1 rfl) ?_
      refine s_getR (pc := 32) F w 1 ds_0 (j := 0) vc_X11 vi_X11 rfl (by decide) kf_X11_10 dX11_thing_32 ?_
      refine lv_iload_n (pc := 35) hx hb dX11_thing_35 rfl (lv_at hl 0 rfl) ?_
      obtain ⟨r33, S32, hc, h⟩ := bnd_t h
      refine s_cvi (pc := 36) [.int r5] (fun ad => [.ref (ad 1), .int r5]) F w (m_X5_found _ _ _ _ hc) rfl rfl hl.1 ds_1 vc_X5 rfl ok_X5_found rfl kc_X5_found kl_X11_98 ki_X5_found kv_X5_found kn_X5 ⟨Nat.le_trans (by decide) hR1, Nat.le_trans (by decide) hR2⟩ ⟨Nat.zero_le _, Nat.zero_le _⟩ (Nat.le_of_ble_eq_true rfl) dX11_thing_36 (fun H locs w => ?_)
      exact s_iret F w h dX11_thing_39
  · have h := ite_f q h
    refine lv_iconst (pc := 10) (v := -1) hx hb dX11_thing_10 (by decide) ?_
    exact s_iret F w h dX11_thing_11
def f_X12_thing (a1 : Int32) (a2 : Int32) (S : SS) : Option (Int32 × SS) :=
  if a2 < 0 then
    some ((-1 : Int32), S)
  else
    if a2 ≤ (10 : Int32) then
      bndv (f_X12_begin  S) (fun S1 =>
      bnd (f_X12_missThing a1 (0 : Int32) S1) (fun r3 S2 =>
      bnd (f_X12_ends r3 S2) (fun r5 S4 =>
      if r5 = 0 then
        if a2 = (0 : Int32) then
          grd (inb a1 72) (
          some (S4.1 85 a1.toNatClampNeg, S4))
        else
        if a2 = (1 : Int32) then
          grd (inb a1 72) (
          some (S4.1 87 a1.toNatClampNeg, S4))
        else
        if a2 = (2 : Int32) then
          grd (inb a1 72) (
          some (S4.1 88 a1.toNatClampNeg, S4))
        else
        if a2 = (3 : Int32) then
          grd (inb a1 72) (
          some (S4.1 89 a1.toNatClampNeg, S4))
        else
        if a2 = (4 : Int32) then
          grd (inb ((2 : Int32) * a1) 144) (
          some (S4.1 90 ((2 : Int32) * a1).toNatClampNeg, S4))
        else
        if a2 = (5 : Int32) then
          grd (inb (((2 : Int32) * a1) + (1 : Int32)) 144) (
          some (S4.1 90 (((2 : Int32) * a1) + (1 : Int32)).toNatClampNeg, S4))
        else
        if a2 = (6 : Int32) then
          grd (inb a1 72) (
          some (S4.1 91 a1.toNatClampNeg, S4))
        else
        if a2 = (7 : Int32) then
          grd (inb a1 72) (
          some (S4.1 92 a1.toNatClampNeg, S4))
        else
        if a2 = (8 : Int32) then
          grd (inb a1 72) (
          some (S4.1 93 a1.toNatClampNeg, S4))
        else
        if a2 = (9 : Int32) then
          grd (inb a1 72) (
          some (S4.1 97 a1.toNatClampNeg, S4))
        else
        grd (inb a1 72) (
        if (S4.1 101 a1.toNatClampNeg) = 0 then
          some ((0 : Int32), S4)
        else
          some ((1 : Int32), S4))
      else
        some ((-2 : Int32), S4))))
    else
      some ((-1 : Int32), S)
theorem dX12_thing_0 : decode cX12_thing 0 = .ok (.iload_n 2, 1) := by decide +kernel
theorem dX12_thing_1 : decode cX12_thing 1 = .ok (.ifCond .lt 9, 3) := by decide +kernel
theorem dX12_thing_4 : decode cX12_thing 4 = .ok (.iload_n 2, 1) := by decide +kernel
theorem dX12_thing_5 : decode cX12_thing 5 = .ok (.bipush 10, 2) := by decide +kernel
theorem dX12_thing_7 : decode cX12_thing 7 = .ok (.if_icmp .le 5, 3) := by decide +kernel
theorem dX12_thing_10 : decode cX12_thing 10 = .ok (.iconst (-1), 1) := by decide +kernel
theorem dX12_thing_11 : decode cX12_thing 11 = .ok (.ireturn, 1) := by decide +kernel
theorem dX12_thing_12 : decode cX12_thing 12 = .ok (.aload_n 0, 1) := by decide +kernel
theorem dX12_thing_13 : decode cX12_thing 13 = .ok (.invokevirtual 226, 3) := by decide +kernel
theorem dX12_thing_16 : decode cX12_thing 16 = .ok (.aload_n 0, 1) := by decide +kernel
theorem dX12_thing_17 : decode cX12_thing 17 = .ok (.aload_n 0, 1) := by decide +kernel
theorem dX12_thing_18 : decode cX12_thing 18 = .ok (.iload_n 1, 1) := by decide +kernel
theorem dX12_thing_19 : decode cX12_thing 19 = .ok (.iconst 0, 1) := by decide +kernel
theorem dX12_thing_20 : decode cX12_thing 20 = .ok (.invokevirtual 293, 3) := by decide +kernel
theorem dX12_thing_23 : decode cX12_thing 23 = .ok (.invokevirtual 236, 3) := by decide +kernel
theorem dX12_thing_26 : decode cX12_thing 26 = .ok (.ifCond .eq 6, 3) := by decide +kernel
theorem dX12_thing_29 : decode cX12_thing 29 = .ok (.bipush (-2), 2) := by decide +kernel
theorem dX12_thing_31 : decode cX12_thing 31 = .ok (.ireturn, 1) := by decide +kernel
theorem dX12_thing_32 : decode cX12_thing 32 = .ok (.iload_n 2, 1) := by decide +kernel
theorem dX12_thing_33 : decode cX12_thing 33 = .ok (.tableswitch 131 0 9 #[55, 62, 69, 76, 83, 92, 103, 110, 117, 124], 55) := by decide +kernel
theorem dX12_thing_88 : decode cX12_thing 88 = .ok (.aload_n 0, 1) := by decide +kernel
theorem dX12_thing_89 : decode cX12_thing 89 = .ok (.getfield 69, 3) := by decide +kernel
theorem dX12_thing_92 : decode cX12_thing 92 = .ok (.iload_n 1, 1) := by decide +kernel
theorem dX12_thing_93 : decode cX12_thing 93 = .ok (.iaload, 1) := by decide +kernel
theorem dX12_thing_94 : decode cX12_thing 94 = .ok (.ireturn, 1) := by decide +kernel
theorem dX12_thing_95 : decode cX12_thing 95 = .ok (.aload_n 0, 1) := by decide +kernel
theorem dX12_thing_96 : decode cX12_thing 96 = .ok (.getfield 75, 3) := by decide +kernel
theorem dX12_thing_99 : decode cX12_thing 99 = .ok (.iload_n 1, 1) := by decide +kernel
theorem dX12_thing_100 : decode cX12_thing 100 = .ok (.iaload, 1) := by decide +kernel
theorem dX12_thing_101 : decode cX12_thing 101 = .ok (.ireturn, 1) := by decide +kernel
theorem dX12_thing_102 : decode cX12_thing 102 = .ok (.aload_n 0, 1) := by decide +kernel
theorem dX12_thing_103 : decode cX12_thing 103 = .ok (.getfield 78, 3) := by decide +kernel
theorem dX12_thing_106 : decode cX12_thing 106 = .ok (.iload_n 1, 1) := by decide +kernel
theorem dX12_thing_107 : decode cX12_thing 107 = .ok (.iaload, 1) := by decide +kernel
theorem dX12_thing_108 : decode cX12_thing 108 = .ok (.ireturn, 1) := by decide +kernel
theorem dX12_thing_109 : decode cX12_thing 109 = .ok (.aload_n 0, 1) := by decide +kernel
theorem dX12_thing_110 : decode cX12_thing 110 = .ok (.getfield 81, 3) := by decide +kernel
theorem dX12_thing_113 : decode cX12_thing 113 = .ok (.iload_n 1, 1) := by decide +kernel
theorem dX12_thing_114 : decode cX12_thing 114 = .ok (.iaload, 1) := by decide +kernel
theorem dX12_thing_115 : decode cX12_thing 115 = .ok (.ireturn, 1) := by decide +kernel
theorem dX12_thing_116 : decode cX12_thing 116 = .ok (.aload_n 0, 1) := by decide +kernel
theorem dX12_thing_117 : decode cX12_thing 117 = .ok (.getfield 84, 3) := by decide +kernel
theorem dX12_thing_120 : decode cX12_thing 120 = .ok (.iconst 2, 1) := by decide +kernel
theorem dX12_thing_121 : decode cX12_thing 121 = .ok (.iload_n 1, 1) := by decide +kernel
theorem dX12_thing_122 : decode cX12_thing 122 = .ok (.imul, 1) := by decide +kernel
theorem dX12_thing_123 : decode cX12_thing 123 = .ok (.iaload, 1) := by decide +kernel
theorem dX12_thing_124 : decode cX12_thing 124 = .ok (.ireturn, 1) := by decide +kernel
theorem dX12_thing_125 : decode cX12_thing 125 = .ok (.aload_n 0, 1) := by decide +kernel
theorem dX12_thing_126 : decode cX12_thing 126 = .ok (.getfield 84, 3) := by decide +kernel
theorem dX12_thing_129 : decode cX12_thing 129 = .ok (.iconst 2, 1) := by decide +kernel
theorem dX12_thing_130 : decode cX12_thing 130 = .ok (.iload_n 1, 1) := by decide +kernel
theorem dX12_thing_131 : decode cX12_thing 131 = .ok (.imul, 1) := by decide +kernel
theorem dX12_thing_132 : decode cX12_thing 132 = .ok (.iconst 1, 1) := by decide +kernel
theorem dX12_thing_133 : decode cX12_thing 133 = .ok (.iadd, 1) := by decide +kernel
theorem dX12_thing_134 : decode cX12_thing 134 = .ok (.iaload, 1) := by decide +kernel
theorem dX12_thing_135 : decode cX12_thing 135 = .ok (.ireturn, 1) := by decide +kernel
theorem dX12_thing_136 : decode cX12_thing 136 = .ok (.aload_n 0, 1) := by decide +kernel
theorem dX12_thing_137 : decode cX12_thing 137 = .ok (.getfield 87, 3) := by decide +kernel
theorem dX12_thing_140 : decode cX12_thing 140 = .ok (.iload_n 1, 1) := by decide +kernel
theorem dX12_thing_141 : decode cX12_thing 141 = .ok (.iaload, 1) := by decide +kernel
theorem dX12_thing_142 : decode cX12_thing 142 = .ok (.ireturn, 1) := by decide +kernel
theorem dX12_thing_143 : decode cX12_thing 143 = .ok (.aload_n 0, 1) := by decide +kernel
theorem dX12_thing_144 : decode cX12_thing 144 = .ok (.getfield 90, 3) := by decide +kernel
theorem dX12_thing_147 : decode cX12_thing 147 = .ok (.iload_n 1, 1) := by decide +kernel
theorem dX12_thing_148 : decode cX12_thing 148 = .ok (.iaload, 1) := by decide +kernel
theorem dX12_thing_149 : decode cX12_thing 149 = .ok (.ireturn, 1) := by decide +kernel
theorem dX12_thing_150 : decode cX12_thing 150 = .ok (.aload_n 0, 1) := by decide +kernel
theorem dX12_thing_151 : decode cX12_thing 151 = .ok (.getfield 93, 3) := by decide +kernel
theorem dX12_thing_154 : decode cX12_thing 154 = .ok (.iload_n 1, 1) := by decide +kernel
theorem dX12_thing_155 : decode cX12_thing 155 = .ok (.iaload, 1) := by decide +kernel
theorem dX12_thing_156 : decode cX12_thing 156 = .ok (.ireturn, 1) := by decide +kernel
theorem dX12_thing_157 : decode cX12_thing 157 = .ok (.aload_n 0, 1) := by decide +kernel
theorem dX12_thing_158 : decode cX12_thing 158 = .ok (.getfield 105, 3) := by decide +kernel
theorem dX12_thing_161 : decode cX12_thing 161 = .ok (.iload_n 1, 1) := by decide +kernel
theorem dX12_thing_162 : decode cX12_thing 162 = .ok (.iaload, 1) := by decide +kernel
theorem dX12_thing_163 : decode cX12_thing 163 = .ok (.ireturn, 1) := by decide +kernel
theorem dX12_thing_164 : decode cX12_thing 164 = .ok (.aload_n 0, 1) := by decide +kernel
theorem dX12_thing_165 : decode cX12_thing 165 = .ok (.getfield 117, 3) := by decide +kernel
theorem dX12_thing_168 : decode cX12_thing 168 = .ok (.iload_n 1, 1) := by decide +kernel
theorem dX12_thing_169 : decode cX12_thing 169 = .ok (.baload, 1) := by decide +kernel
theorem dX12_thing_170 : decode cX12_thing 170 = .ok (.ifCond .eq 7, 3) := by decide +kernel
theorem dX12_thing_173 : decode cX12_thing 173 = .ok (.iconst 1, 1) := by decide +kernel
theorem dX12_thing_174 : decode cX12_thing 174 = .ok (.goto 4, 3) := by decide +kernel
theorem dX12_thing_177 : decode cX12_thing 177 = .ok (.iconst 0, 1) := by decide +kernel
theorem dX12_thing_178 : decode cX12_thing 178 = .ok (.ireturn, 1) := by decide +kernel
set_option maxRecDepth 100000 in
set_option maxHeartbeats 4000000 in
theorem m_X12_thing (a1 : Int32) (a2 : Int32) (S S' : SS) (r : Int32) (h : f_X12_thing a1 a2 S = some (r, S')) : MT yX12_thing cX12_thing 3 (some .int) 2 45 (fun ad => [.ref (ad 14), .int a1, .int a2]) S (some (.int r)) S' := by
  refine MT.of RX12 (fun ad => [(0, .ref (ad 14)), (1, .int a1), (2, .int a2)]) (by decide) rfl (fun _ => Nat.le_of_ble_eq_true rfl) (fun _ => rfl) ?_
  intro p l e R s m args below meth c dC dI cs ad A hR1 hR2 F H locs ls w hl
  have hx := F.1.1
  have hb := F.1.2.1
  rw [f_X12_thing] at h
  refine lv_iload_n (pc := 0) hx hb dX12_thing_0 rfl (lv_at hl 2 rfl) ?_
  refine lv_if_lt (pc := 1) (tgt := 10) hx hb dX12_thing_1 (by decide) (fun q => ?_) (fun q => ?_)
  · have h := ite_t q h
    refine lv_iconst (pc := 10) (v := -1) hx hb dX12_thing_10 (by decide) ?_
    exact s_iret F w h dX12_thing_11
  · have h := ite_f q h
    refine lv_iload_n (pc := 4) hx hb dX12_thing_4 rfl (lv_at hl 2 rfl) ?_
    refine lv_bipush (pc := 5) (v := 10) hx hb dX12_thing_5 (by decide) ?_
    refine lv_icmp_le (pc := 7) (tgt := 12) hx hb dX12_thing_7 (by decide) (fun q => ?_) (fun q => ?_)
    · have h := ite_t q h
      refine lv_aload_n (pc := 12) hx hb dX12_thing_12 rfl (lv_at hl 0 rfl) ?_
      obtain ⟨S1, hc, h⟩ := bndv_t h
      refine s_cvv (pc := 13) [] (fun ad => [.ref (ad 14)]) F w (m_X12_begin  _ _ hc) rfl rfl hl.1 ds_14 vc_X12 rfl ok_X12_begin rfl kc_X12_begin kl_X12_226 ki_X12_begin kv_X12_begin kn_X12 ⟨Nat.le_trans (by decide) hR1, Nat.le_trans (by decide) hR2⟩ ⟨Nat.zero_le _, Nat.zero_le _⟩ (Nat.le_of_ble_eq_true rfl) dX12_thing_13 (fun H locs w => ?_)
      refine lv_aload_n (pc := 16) hx hb dX12_thing_16 rfl (lv_at hl 0 rfl) ?_
      refine lv_aload_n (pc := 17) hx hb dX12_thing_17 rfl (lv_at hl 0 rfl) ?_
      refine lv_iload_n (pc := 18) hx hb dX12_thing_18 rfl (lv_at hl 1 rfl) ?_
      refine lv_iconst (pc := 19) (v := 0) hx hb dX12_thing_19 (by decide) ?_
      obtain ⟨r3, S2, hc, h⟩ := bnd_t h
      refine s_cvi (pc := 20) [.int a1, .int (0 : Int32)] (fun ad => [.ref (ad 14), .int a1, .int (0 : Int32)]) F w (m_X12_missThing _ _ _ _ _ hc) rfl rfl hl.1 ds_14 vc_X12 rfl ok_X12_missThing rfl kc_X12_missThing kl_X12_293 ki_X12_missThing kv_X12_missThing kn_X12 ⟨Nat.le_trans (by decide) hR1, Nat.le_trans (by decide) hR2⟩ ⟨Nat.zero_le _, Nat.zero_le _⟩ (Nat.le_of_ble_eq_true rfl) dX12_thing_20 (fun H locs w => ?_)
      obtain ⟨r5, S4, hc, h⟩ := bnd_t h
      refine s_cvi (pc := 23) [.int r3] (fun ad => [.ref (ad 14), .int r3]) F w (m_X12_ends _ _ _ _ hc) rfl rfl hl.1 ds_14 vc_X12 rfl ok_X12_ends rfl kc_X12_ends kl_X12_236 ki_X12_ends kv_X12_ends kn_X12 ⟨Nat.le_trans (by decide) hR1, Nat.le_trans (by decide) hR2⟩ ⟨Nat.zero_le _, Nat.zero_le _⟩ (Nat.le_of_ble_eq_true rfl) dX12_thing_23 (fun H locs w => ?_)
      refine lv_if_eq (pc := 26) (tgt := 32) hx hb dX12_thing_26 (by decide) (fun q => ?_) (fun q => ?_)
      · have h := ite_t q h
        refine lv_iload_n (pc := 32) hx hb dX12_thing_32 rfl (lv_at hl 2 rfl) ?_
        rcases Decidable.em (a2 = (0 : Int32)) with q0 | q0
        · refine lv_tableIn (pc := 33) (tgt := 88) (off := 55) hx hb dX12_thing_33 (by rw [q0]; decide) (by rw [q0]; decide) (by rw [q0]; rfl) (by decide) ?_
          have h := ite_t q0 h
          refine lv_aload_n (pc := 88) hx hb dX12_thing_88 rfl (lv_at hl 0 rfl) ?_
          refine s_getR (pc := 89) F w 85 ds_14 (j := 30) vc_X12 vi_X12 rfl (by decide) kf_X12_69 dX12_thing_89 ?_
          refine lv_iload_n (pc := 92) hx hb dX12_thing_92 rfl (lv_at hl 1 rfl) ?_
          refine s_iald (pc := 93) F w ds_85 h dX12_thing_93 (fun h => ?_)
          exact s_iret F w h dX12_thing_94
        have h := ite_f q0 h
        rcases Decidable.em (a2 = (1 : Int32)) with q1 | q1
        · refine lv_tableIn (pc := 33) (tgt := 95) (off := 62) hx hb dX12_thing_33 (by rw [q1]; decide) (by rw [q1]; decide) (by rw [q1]; rfl) (by decide) ?_
          have h := ite_t q1 h
          refine lv_aload_n (pc := 95) hx hb dX12_thing_95 rfl (lv_at hl 0 rfl) ?_
          refine s_getR (pc := 96) F w 87 ds_14 (j := 32) vc_X12 vi_X12 rfl (by decide) kf_X12_75 dX12_thing_96 ?_
          refine lv_iload_n (pc := 99) hx hb dX12_thing_99 rfl (lv_at hl 1 rfl) ?_
          refine s_iald (pc := 100) F w ds_87 h dX12_thing_100 (fun h => ?_)
          exact s_iret F w h dX12_thing_101
        have h := ite_f q1 h
        rcases Decidable.em (a2 = (2 : Int32)) with q2 | q2
        · refine lv_tableIn (pc := 33) (tgt := 102) (off := 69) hx hb dX12_thing_33 (by rw [q2]; decide) (by rw [q2]; decide) (by rw [q2]; rfl) (by decide) ?_
          have h := ite_t q2 h
          refine lv_aload_n (pc := 102) hx hb dX12_thing_102 rfl (lv_at hl 0 rfl) ?_
          refine s_getR (pc := 103) F w 88 ds_14 (j := 33) vc_X12 vi_X12 rfl (by decide) kf_X12_78 dX12_thing_103 ?_
          refine lv_iload_n (pc := 106) hx hb dX12_thing_106 rfl (lv_at hl 1 rfl) ?_
          refine s_iald (pc := 107) F w ds_88 h dX12_thing_107 (fun h => ?_)
          exact s_iret F w h dX12_thing_108
        have h := ite_f q2 h
        rcases Decidable.em (a2 = (3 : Int32)) with q3 | q3
        · refine lv_tableIn (pc := 33) (tgt := 109) (off := 76) hx hb dX12_thing_33 (by rw [q3]; decide) (by rw [q3]; decide) (by rw [q3]; rfl) (by decide) ?_
          have h := ite_t q3 h
          refine lv_aload_n (pc := 109) hx hb dX12_thing_109 rfl (lv_at hl 0 rfl) ?_
          refine s_getR (pc := 110) F w 89 ds_14 (j := 34) vc_X12 vi_X12 rfl (by decide) kf_X12_81 dX12_thing_110 ?_
          refine lv_iload_n (pc := 113) hx hb dX12_thing_113 rfl (lv_at hl 1 rfl) ?_
          refine s_iald (pc := 114) F w ds_89 h dX12_thing_114 (fun h => ?_)
          exact s_iret F w h dX12_thing_115
        have h := ite_f q3 h
        rcases Decidable.em (a2 = (4 : Int32)) with q4 | q4
        · refine lv_tableIn (pc := 33) (tgt := 116) (off := 83) hx hb dX12_thing_33 (by rw [q4]; decide) (by rw [q4]; decide) (by rw [q4]; rfl) (by decide) ?_
          have h := ite_t q4 h
          refine lv_aload_n (pc := 116) hx hb dX12_thing_116 rfl (lv_at hl 0 rfl) ?_
          refine s_getR (pc := 117) F w 90 ds_14 (j := 35) vc_X12 vi_X12 rfl (by decide) kf_X12_84 dX12_thing_117 ?_
          refine lv_iconst (pc := 120) (v := 2) hx hb dX12_thing_120 (by decide) ?_
          refine lv_iload_n (pc := 121) hx hb dX12_thing_121 rfl (lv_at hl 1 rfl) ?_
          refine lv_imul (pc := 122) hx hb dX12_thing_122 ?_
          refine s_iald (pc := 123) F w ds_90 h dX12_thing_123 (fun h => ?_)
          exact s_iret F w h dX12_thing_124
        have h := ite_f q4 h
        rcases Decidable.em (a2 = (5 : Int32)) with q5 | q5
        · refine lv_tableIn (pc := 33) (tgt := 125) (off := 92) hx hb dX12_thing_33 (by rw [q5]; decide) (by rw [q5]; decide) (by rw [q5]; rfl) (by decide) ?_
          have h := ite_t q5 h
          refine lv_aload_n (pc := 125) hx hb dX12_thing_125 rfl (lv_at hl 0 rfl) ?_
          refine s_getR (pc := 126) F w 90 ds_14 (j := 35) vc_X12 vi_X12 rfl (by decide) kf_X12_84 dX12_thing_126 ?_
          refine lv_iconst (pc := 129) (v := 2) hx hb dX12_thing_129 (by decide) ?_
          refine lv_iload_n (pc := 130) hx hb dX12_thing_130 rfl (lv_at hl 1 rfl) ?_
          refine lv_imul (pc := 131) hx hb dX12_thing_131 ?_
          refine lv_iconst (pc := 132) (v := 1) hx hb dX12_thing_132 (by decide) ?_
          refine lv_iadd (pc := 133) hx hb dX12_thing_133 ?_
          refine s_iald (pc := 134) F w ds_90 h dX12_thing_134 (fun h => ?_)
          exact s_iret F w h dX12_thing_135
        have h := ite_f q5 h
        rcases Decidable.em (a2 = (6 : Int32)) with q6 | q6
        · refine lv_tableIn (pc := 33) (tgt := 136) (off := 103) hx hb dX12_thing_33 (by rw [q6]; decide) (by rw [q6]; decide) (by rw [q6]; rfl) (by decide) ?_
          have h := ite_t q6 h
          refine lv_aload_n (pc := 136) hx hb dX12_thing_136 rfl (lv_at hl 0 rfl) ?_
          refine s_getR (pc := 137) F w 91 ds_14 (j := 36) vc_X12 vi_X12 rfl (by decide) kf_X12_87 dX12_thing_137 ?_
          refine lv_iload_n (pc := 140) hx hb dX12_thing_140 rfl (lv_at hl 1 rfl) ?_
          refine s_iald (pc := 141) F w ds_91 h dX12_thing_141 (fun h => ?_)
          exact s_iret F w h dX12_thing_142
        have h := ite_f q6 h
        rcases Decidable.em (a2 = (7 : Int32)) with q7 | q7
        · refine lv_tableIn (pc := 33) (tgt := 143) (off := 110) hx hb dX12_thing_33 (by rw [q7]; decide) (by rw [q7]; decide) (by rw [q7]; rfl) (by decide) ?_
          have h := ite_t q7 h
          refine lv_aload_n (pc := 143) hx hb dX12_thing_143 rfl (lv_at hl 0 rfl) ?_
          refine s_getR (pc := 144) F w 92 ds_14 (j := 37) vc_X12 vi_X12 rfl (by decide) kf_X12_90 dX12_thing_144 ?_
          refine lv_iload_n (pc := 147) hx hb dX12_thing_147 rfl (lv_at hl 1 rfl) ?_
          refine s_iald (pc := 148) F w ds_92 h dX12_thing_148 (fun h => ?_)
          exact s_iret F w h dX12_thing_149
        have h := ite_f q7 h
        rcases Decidable.em (a2 = (8 : Int32)) with q8 | q8
        · refine lv_tableIn (pc := 33) (tgt := 150) (off := 117) hx hb dX12_thing_33 (by rw [q8]; decide) (by rw [q8]; decide) (by rw [q8]; rfl) (by decide) ?_
          have h := ite_t q8 h
          refine lv_aload_n (pc := 150) hx hb dX12_thing_150 rfl (lv_at hl 0 rfl) ?_
          refine s_getR (pc := 151) F w 93 ds_14 (j := 38) vc_X12 vi_X12 rfl (by decide) kf_X12_93 dX12_thing_151 ?_
          refine lv_iload_n (pc := 154) hx hb dX12_thing_154 rfl (lv_at hl 1 rfl) ?_
          refine s_iald (pc := 155) F w ds_93 h dX12_thing_155 (fun h => ?_)
          exact s_iret F w h dX12_thing_156
        have h := ite_f q8 h
        rcases Decidable.em (a2 = (9 : Int32)) with q9 | q9
        · refine lv_tableIn (pc := 33) (tgt := 157) (off := 124) hx hb dX12_thing_33 (by rw [q9]; decide) (by rw [q9]; decide) (by rw [q9]; rfl) (by decide) ?_
          have h := ite_t q9 h
          refine lv_aload_n (pc := 157) hx hb dX12_thing_157 rfl (lv_at hl 0 rfl) ?_
          refine s_getR (pc := 158) F w 97 ds_14 (j := 42) vc_X12 vi_X12 rfl (by decide) kf_X12_105 dX12_thing_158 ?_
          refine lv_iload_n (pc := 161) hx hb dX12_thing_161 rfl (lv_at hl 1 rfl) ?_
          refine s_iald (pc := 162) F w ds_97 h dX12_thing_162 (fun h => ?_)
          exact s_iret F w h dX12_thing_163
        have h := ite_f q9 h
        refine lv_tableOut (pc := 33) (tgt := 164) hx hb dX12_thing_33 (by have zq0 := i32ne q0 (show ((0 : Int32)).toInt = 0 by decide); have zq1 := i32ne q1 (show ((1 : Int32)).toInt = 1 by decide); have zq2 := i32ne q2 (show ((2 : Int32)).toInt = 2 by decide); have zq3 := i32ne q3 (show ((3 : Int32)).toInt = 3 by decide); have zq4 := i32ne q4 (show ((4 : Int32)).toInt = 4 by decide); have zq5 := i32ne q5 (show ((5 : Int32)).toInt = 5 by decide); have zq6 := i32ne q6 (show ((6 : Int32)).toInt = 6 by decide); have zq7 := i32ne q7 (show ((7 : Int32)).toInt = 7 by decide); have zq8 := i32ne q8 (show ((8 : Int32)).toInt = 8 by decide); have zq9 := i32ne q9 (show ((9 : Int32)).toInt = 9 by decide); omega) (by decide) ?_
        refine lv_aload_n (pc := 164) hx hb dX12_thing_164 rfl (lv_at hl 0 rfl) ?_
        refine s_getR (pc := 165) F w 101 ds_14 (j := 46) vc_X12 vi_X12 rfl (by decide) kf_X12_117 dX12_thing_165 ?_
        refine lv_iload_n (pc := 168) hx hb dX12_thing_168 rfl (lv_at hl 1 rfl) ?_
        refine s_zald (pc := 169) F w ds_101 h dX12_thing_169 (fun h => ?_)
        refine lv_if_eq (pc := 170) (tgt := 177) hx hb dX12_thing_170 (by decide) (fun q => ?_) (fun q => ?_)
        · have h := ite_t q h
          refine lv_iconst (pc := 177) (v := 0) hx hb dX12_thing_177 (by decide) ?_
          exact s_iret F w h dX12_thing_178
        · have h := ite_f q h
          refine lv_iconst (pc := 173) (v := 1) hx hb dX12_thing_173 (by decide) ?_
          refine lv_goto (pc := 174) (tgt := 178) hx hb dX12_thing_174 (by decide) ?_
          exact s_iret F w h dX12_thing_178
      · have h := ite_f q h
        refine lv_bipush (pc := 29) (v := -2) hx hb dX12_thing_29 (by decide) ?_
        exact s_iret F w h dX12_thing_31
    · have h := ite_f q h
      refine lv_iconst (pc := 10) (v := -1) hx hb dX12_thing_10 (by decide) ?_
      exact s_iret F w h dX12_thing_11
def f_X11_pointed (a1 : Int32) (a2 : Int32) (S : SS) : Option (Int32 × SS) :=
  bnd (f_X11_isNot a2 (0 : Int32) (4 : Int32) S) (fun r2 S1 =>
  if r2 = 0 then
    bndv (f_X5_begin  S1) (fun S3 =>
    bnd (f_X2_pointFinding a1 S3) (fun r5 S4 =>
    if r5 = 0 then
      bnd (f_X2_endOf a1 S4) (fun r7 S6 =>
      if a2 = (0 : Int32) then
        some (r7 >>> ((1 : Int32) &&& 31), S6)
      else
      if a2 = (1 : Int32) then
        some (r7 &&& (1 : Int32), S6)
      else
      if a2 = (2 : Int32) then
        bnd (f_X2_linksAt r7 S6) (fun r9 S8 =>
        some (r9, S8))
      else
      if a2 = (3 : Int32) then
        bnd (f_X8_setting a1 S6) (fun r11 S10 =>
        some (r11, S10))
      else
      bnd (f_X8_locker a1 S6) (fun r13 S12 =>
      some (r13, S12)))
    else
      bnd (f_X5_found r5 S4) (fun r15 S14 =>
      some (r15, S14))))
  else
    some ((-1 : Int32), S1))
theorem dX11_pointed_0 : decode cX11_pointed 0 = .ok (.iload_n 2, 1) := by decide +kernel
theorem dX11_pointed_1 : decode cX11_pointed 1 = .ok (.iconst 0, 1) := by decide +kernel
theorem dX11_pointed_2 : decode cX11_pointed 2 = .ok (.iconst 4, 1) := by decide +kernel
theorem dX11_pointed_3 : decode cX11_pointed 3 = .ok (.invokestatic 108, 3) := by decide +kernel
theorem dX11_pointed_6 : decode cX11_pointed 6 = .ok (.ifCond .eq 5, 3) := by decide +kernel
theorem dX11_pointed_9 : decode cX11_pointed 9 = .ok (.iconst (-1), 1) := by decide +kernel
theorem dX11_pointed_10 : decode cX11_pointed 10 = .ok (.ireturn, 1) := by decide +kernel
theorem dX11_pointed_11 : decode cX11_pointed 11 = .ok (.aload_n 0, 1) := by decide +kernel
theorem dX11_pointed_12 : decode cX11_pointed 12 = .ok (.getfield 10, 3) := by decide +kernel
theorem dX11_pointed_15 : decode cX11_pointed 15 = .ok (.invokevirtual 95, 3) := by decide +kernel
theorem dX11_pointed_18 : decode cX11_pointed 18 = .ok (.aload_n 0, 1) := by decide +kernel
theorem dX11_pointed_19 : decode cX11_pointed 19 = .ok (.getfield 42, 3) := by decide +kernel
theorem dX11_pointed_22 : decode cX11_pointed 22 = .ok (.iload_n 1, 1) := by decide +kernel
theorem dX11_pointed_23 : decode cX11_pointed 23 = .ok (.invokevirtual 175, 3) := by decide +kernel
theorem dX11_pointed_26 : decode cX11_pointed 26 = .ok (.istore_n 3, 1) := by decide +kernel
theorem dX11_pointed_27 : decode cX11_pointed 27 = .ok (.iload_n 3, 1) := by decide +kernel
theorem dX11_pointed_28 : decode cX11_pointed 28 = .ok (.ifCond .eq 12, 3) := by decide +kernel
theorem dX11_pointed_31 : decode cX11_pointed 31 = .ok (.aload_n 0, 1) := by decide +kernel
theorem dX11_pointed_32 : decode cX11_pointed 32 = .ok (.getfield 10, 3) := by decide +kernel
theorem dX11_pointed_35 : decode cX11_pointed 35 = .ok (.iload_n 3, 1) := by decide +kernel
theorem dX11_pointed_36 : decode cX11_pointed 36 = .ok (.invokevirtual 98, 3) := by decide +kernel
theorem dX11_pointed_39 : decode cX11_pointed 39 = .ok (.ireturn, 1) := by decide +kernel
theorem dX11_pointed_40 : decode cX11_pointed 40 = .ok (.aload_n 0, 1) := by decide +kernel
theorem dX11_pointed_41 : decode cX11_pointed 41 = .ok (.getfield 42, 3) := by decide +kernel
theorem dX11_pointed_44 : decode cX11_pointed 44 = .ok (.iload_n 1, 1) := by decide +kernel
theorem dX11_pointed_45 : decode cX11_pointed 45 = .ok (.invokevirtual 342, 3) := by decide +kernel
theorem dX11_pointed_48 : decode cX11_pointed 48 = .ok (.istore 4, 2) := by decide +kernel
theorem dX11_pointed_50 : decode cX11_pointed 50 = .ok (.iload_n 2, 1) := by decide +kernel
theorem dX11_pointed_51 : decode cX11_pointed 51 = .ok (.tableswitch 58 0 3 #[29, 34, 39, 49], 29) := by decide +kernel
theorem dX11_pointed_80 : decode cX11_pointed 80 = .ok (.iload 4, 2) := by decide +kernel
theorem dX11_pointed_82 : decode cX11_pointed 82 = .ok (.iconst 1, 1) := by decide +kernel
theorem dX11_pointed_83 : decode cX11_pointed 83 = .ok (.ishr, 1) := by decide +kernel
theorem dX11_pointed_84 : decode cX11_pointed 84 = .ok (.ireturn, 1) := by decide +kernel
theorem dX11_pointed_85 : decode cX11_pointed 85 = .ok (.iload 4, 2) := by decide +kernel
theorem dX11_pointed_87 : decode cX11_pointed 87 = .ok (.iconst 1, 1) := by decide +kernel
theorem dX11_pointed_88 : decode cX11_pointed 88 = .ok (.iand, 1) := by decide +kernel
theorem dX11_pointed_89 : decode cX11_pointed 89 = .ok (.ireturn, 1) := by decide +kernel
theorem dX11_pointed_90 : decode cX11_pointed 90 = .ok (.aload_n 0, 1) := by decide +kernel
theorem dX11_pointed_91 : decode cX11_pointed 91 = .ok (.getfield 42, 3) := by decide +kernel
theorem dX11_pointed_94 : decode cX11_pointed 94 = .ok (.iload 4, 2) := by decide +kernel
theorem dX11_pointed_96 : decode cX11_pointed 96 = .ok (.invokevirtual 345, 3) := by decide +kernel
theorem dX11_pointed_99 : decode cX11_pointed 99 = .ok (.ireturn, 1) := by decide +kernel
theorem dX11_pointed_100 : decode cX11_pointed 100 = .ok (.aload_n 0, 1) := by decide +kernel
theorem dX11_pointed_101 : decode cX11_pointed 101 = .ok (.getfield 19, 3) := by decide +kernel
theorem dX11_pointed_104 : decode cX11_pointed 104 = .ok (.iload_n 1, 1) := by decide +kernel
theorem dX11_pointed_105 : decode cX11_pointed 105 = .ok (.invokevirtual 348, 3) := by decide +kernel
theorem dX11_pointed_108 : decode cX11_pointed 108 = .ok (.ireturn, 1) := by decide +kernel
theorem dX11_pointed_109 : decode cX11_pointed 109 = .ok (.aload_n 0, 1) := by decide +kernel
theorem dX11_pointed_110 : decode cX11_pointed 110 = .ok (.getfield 19, 3) := by decide +kernel
theorem dX11_pointed_113 : decode cX11_pointed 113 = .ok (.iload_n 1, 1) := by decide +kernel
theorem dX11_pointed_114 : decode cX11_pointed 114 = .ok (.invokevirtual 351, 3) := by decide +kernel
theorem dX11_pointed_117 : decode cX11_pointed 117 = .ok (.ireturn, 1) := by decide +kernel
set_option maxRecDepth 100000 in
set_option maxHeartbeats 4000000 in
theorem m_X11_pointed (a1 : Int32) (a2 : Int32) (S S' : SS) (r : Int32) (h : f_X11_pointed a1 a2 S = some (r, S')) : MT yX11_pointed cX11_pointed 5 (some .int) 1 22 (fun ad => [.ref (ad 0), .int a1, .int a2]) S (some (.int r)) S' := by
  refine MT.of RX11 (fun ad => [(0, .ref (ad 0)), (1, .int a1), (2, .int a2)]) (by decide) rfl (fun _ => Nat.le_of_ble_eq_true rfl) (fun _ => rfl) ?_
  intro p l e R s m args below meth c dC dI cs ad A hR1 hR2 F H locs ls w hl
  have hx := F.1.1
  have hb := F.1.2.1
  rw [f_X11_pointed] at h
  refine lv_iload_n (pc := 0) hx hb dX11_pointed_0 rfl (lv_at hl 2 rfl) ?_
  refine lv_iconst (pc := 1) (v := 0) hx hb dX11_pointed_1 (by decide) ?_
  refine lv_iconst (pc := 2) (v := 4) hx hb dX11_pointed_2 (by decide) ?_
  obtain ⟨r2, S1, hc, h⟩ := bnd_t h
  refine s_csi (pc := 3) [.int a2, .int (0 : Int32), .int (4 : Int32)] (fun ad => [.int a2, .int (0 : Int32), .int (4 : Int32)]) F w (m_X11_isNot _ _ _ _ _ _ hc) rfl rfl hl.1 ok_X11_isNot rfl kc_X11_isNot kl_X11_108 ks_X11_isNot kn_X11 ⟨Nat.le_trans (by decide) hR1, Nat.le_trans (by decide) hR2⟩ ⟨Nat.zero_le _, Nat.zero_le _⟩ (Nat.le_of_ble_eq_true rfl) dX11_pointed_3 (fun H locs w => ?_)
  refine lv_if_eq (pc := 6) (tgt := 11) hx hb dX11_pointed_6 (by decide) (fun q => ?_) (fun q => ?_)
  · have h := ite_t q h
    refine lv_aload_n (pc := 11) hx hb dX11_pointed_11 rfl (lv_at hl 0 rfl) ?_
    refine s_getR (pc := 12) F w 1 ds_0 (j := 0) vc_X11 vi_X11 rfl (by decide) kf_X11_10 dX11_pointed_12 ?_
    obtain ⟨S3, hc, h⟩ := bndv_t h
    refine s_cvv (pc := 15) [] (fun ad => [.ref (ad 1)]) F w (m_X5_begin  _ _ hc) rfl rfl hl.1 ds_1 vc_X5 rfl ok_X5_begin rfl kc_X5_begin kl_X11_95 ki_X5_begin kv_X5_begin kn_X5 ⟨Nat.le_trans (by decide) hR1, Nat.le_trans (by decide) hR2⟩ ⟨Nat.zero_le _, Nat.zero_le _⟩ (Nat.le_of_ble_eq_true rfl) dX11_pointed_15 (fun H locs w => ?_)
    refine lv_aload_n (pc := 18) hx hb dX11_pointed_18 rfl (lv_at hl 0 rfl) ?_
    refine s_getR (pc := 19) F w 5 ds_0 (j := 4) vc_X11 vi_X11 rfl (by decide) kf_X11_42 dX11_pointed_19 ?_
    refine lv_iload_n (pc := 22) hx hb dX11_pointed_22 rfl (lv_at hl 1 rfl) ?_
    obtain ⟨r5, S4, hc, h⟩ := bnd_t h
    refine s_cvi (pc := 23) [.int a1] (fun ad => [.ref (ad 5), .int a1]) F w (m_X2_pointFinding _ _ _ _ hc) rfl rfl hl.1 ds_5 vc_X2 rfl ok_X2_pointFinding rfl kc_X2_pointFinding kl_X11_175 ki_X2_pointFinding kv_X2_pointFinding kn_X2 ⟨Nat.le_trans (by decide) hR1, Nat.le_trans (by decide) hR2⟩ ⟨Nat.zero_le _, Nat.zero_le _⟩ (Nat.le_of_ble_eq_true rfl) dX11_pointed_23 (fun H locs w => ?_)
    refine lv_istore_n (pc := 26) (lv' := [(3, .int r5), (0, .ref (ad 0)), (1, .int a1), (2, .int a2)]) hx hb dX11_pointed_26 rfl hl (by decide) rfl (fun ls hl => ?_)
    refine lv_iload_n (pc := 27) hx hb dX11_pointed_27 rfl (lv_at hl 0 rfl) ?_
    refine lv_if_eq (pc := 28) (tgt := 40) hx hb dX11_pointed_28 (by decide) (fun q => ?_) (fun q => ?_)
    · have h := ite_t q h
      refine lv_aload_n (pc := 40) hx hb dX11_pointed_40 rfl (lv_at hl 1 rfl) ?_
      refine s_getR (pc := 41) F w 5 ds_0 (j := 4) vc_X11 vi_X11 rfl (by decide) kf_X11_42 dX11_pointed_41 ?_
      refine lv_iload_n (pc := 44) hx hb dX11_pointed_44 rfl (lv_at hl 2 rfl) ?_
      obtain ⟨r7, S6, hc, h⟩ := bnd_t h
      refine s_cvi (pc := 45) [.int a1] (fun ad => [.ref (ad 5), .int a1]) F w (m_X2_endOf _ _ _ _ hc) rfl rfl hl.1 ds_5 vc_X2 rfl ok_X2_endOf rfl kc_X2_endOf kl_X11_342 ki_X2_endOf kv_X2_endOf kn_X2 ⟨Nat.le_trans (by decide) hR1, Nat.le_trans (by decide) hR2⟩ ⟨Nat.zero_le _, Nat.zero_le _⟩ (Nat.le_of_ble_eq_true rfl) dX11_pointed_45 (fun H locs w => ?_)
      refine lv_istore (pc := 48) (lv' := [(4, .int r7), (3, .int r5), (0, .ref (ad 0)), (1, .int a1), (2, .int a2)]) hx hb dX11_pointed_48 hl (by decide) rfl (fun ls hl => ?_)
      refine lv_iload_n (pc := 50) hx hb dX11_pointed_50 rfl (lv_at hl 4 rfl) ?_
      rcases Decidable.em (a2 = (0 : Int32)) with q0 | q0
      · refine lv_tableIn (pc := 51) (tgt := 80) (off := 29) hx hb dX11_pointed_51 (by rw [q0]; decide) (by rw [q0]; decide) (by rw [q0]; rfl) (by decide) ?_
        have h := ite_t q0 h
        refine lv_iload (pc := 80) hx hb dX11_pointed_80 (lv_at hl 0 rfl) ?_
        refine lv_iconst (pc := 82) (v := 1) hx hb dX11_pointed_82 (by decide) ?_
        refine lv_ishr (pc := 83) hx hb dX11_pointed_83 ?_
        exact s_iret F w h dX11_pointed_84
      have h := ite_f q0 h
      rcases Decidable.em (a2 = (1 : Int32)) with q1 | q1
      · refine lv_tableIn (pc := 51) (tgt := 85) (off := 34) hx hb dX11_pointed_51 (by rw [q1]; decide) (by rw [q1]; decide) (by rw [q1]; rfl) (by decide) ?_
        have h := ite_t q1 h
        refine lv_iload (pc := 85) hx hb dX11_pointed_85 (lv_at hl 0 rfl) ?_
        refine lv_iconst (pc := 87) (v := 1) hx hb dX11_pointed_87 (by decide) ?_
        refine lv_iand (pc := 88) hx hb dX11_pointed_88 ?_
        exact s_iret F w h dX11_pointed_89
      have h := ite_f q1 h
      rcases Decidable.em (a2 = (2 : Int32)) with q2 | q2
      · refine lv_tableIn (pc := 51) (tgt := 90) (off := 39) hx hb dX11_pointed_51 (by rw [q2]; decide) (by rw [q2]; decide) (by rw [q2]; rfl) (by decide) ?_
        have h := ite_t q2 h
        refine lv_aload_n (pc := 90) hx hb dX11_pointed_90 rfl (lv_at hl 2 rfl) ?_
        refine s_getR (pc := 91) F w 5 ds_0 (j := 4) vc_X11 vi_X11 rfl (by decide) kf_X11_42 dX11_pointed_91 ?_
        refine lv_iload (pc := 94) hx hb dX11_pointed_94 (lv_at hl 0 rfl) ?_
        obtain ⟨r9, S8, hc, h⟩ := bnd_t h
        refine s_cvi (pc := 96) [.int r7] (fun ad => [.ref (ad 5), .int r7]) F w (m_X2_linksAt _ _ _ _ hc) rfl rfl hl.1 ds_5 vc_X2 rfl ok_X2_linksAt rfl kc_X2_linksAt kl_X11_345 ki_X2_linksAt kv_X2_linksAt kn_X2 ⟨Nat.le_trans (by decide) hR1, Nat.le_trans (by decide) hR2⟩ ⟨Nat.zero_le _, Nat.zero_le _⟩ (Nat.le_of_ble_eq_true rfl) dX11_pointed_96 (fun H locs w => ?_)
        exact s_iret F w h dX11_pointed_99
      have h := ite_f q2 h
      rcases Decidable.em (a2 = (3 : Int32)) with q3 | q3
      · refine lv_tableIn (pc := 51) (tgt := 100) (off := 49) hx hb dX11_pointed_51 (by rw [q3]; decide) (by rw [q3]; decide) (by rw [q3]; rfl) (by decide) ?_
        have h := ite_t q3 h
        refine lv_aload_n (pc := 100) hx hb dX11_pointed_100 rfl (lv_at hl 2 rfl) ?_
        refine s_getR (pc := 101) F w 2 ds_0 (j := 1) vc_X11 vi_X11 rfl (by decide) kf_X11_19 dX11_pointed_101 ?_
        refine lv_iload_n (pc := 104) hx hb dX11_pointed_104 rfl (lv_at hl 3 rfl) ?_
        obtain ⟨r11, S10, hc, h⟩ := bnd_t h
        refine s_cvi (pc := 105) [.int a1] (fun ad => [.ref (ad 2), .int a1]) F w (m_X8_setting _ _ _ _ hc) rfl rfl hl.1 ds_2 vc_X8 rfl ok_X8_setting rfl kc_X8_setting kl_X11_348 ki_X8_setting kv_X8_setting kn_X8 ⟨Nat.le_trans (by decide) hR1, Nat.le_trans (by decide) hR2⟩ ⟨Nat.zero_le _, Nat.zero_le _⟩ (Nat.le_of_ble_eq_true rfl) dX11_pointed_105 (fun H locs w => ?_)
        exact s_iret F w h dX11_pointed_108
      have h := ite_f q3 h
      refine lv_tableOut (pc := 51) (tgt := 109) hx hb dX11_pointed_51 (by have zq0 := i32ne q0 (show ((0 : Int32)).toInt = 0 by decide); have zq1 := i32ne q1 (show ((1 : Int32)).toInt = 1 by decide); have zq2 := i32ne q2 (show ((2 : Int32)).toInt = 2 by decide); have zq3 := i32ne q3 (show ((3 : Int32)).toInt = 3 by decide); omega) (by decide) ?_
      refine lv_aload_n (pc := 109) hx hb dX11_pointed_109 rfl (lv_at hl 2 rfl) ?_
      refine s_getR (pc := 110) F w 2 ds_0 (j := 1) vc_X11 vi_X11 rfl (by decide) kf_X11_19 dX11_pointed_110 ?_
      refine lv_iload_n (pc := 113) hx hb dX11_pointed_113 rfl (lv_at hl 3 rfl) ?_
      obtain ⟨r13, S12, hc, h⟩ := bnd_t h
      refine s_cvi (pc := 114) [.int a1] (fun ad => [.ref (ad 2), .int a1]) F w (m_X8_locker _ _ _ _ hc) rfl rfl hl.1 ds_2 vc_X8 rfl ok_X8_locker rfl kc_X8_locker kl_X11_351 ki_X8_locker kv_X8_locker kn_X8 ⟨Nat.le_trans (by decide) hR1, Nat.le_trans (by decide) hR2⟩ ⟨Nat.zero_le _, Nat.zero_le _⟩ (Nat.le_of_ble_eq_true rfl) dX11_pointed_114 (fun H locs w => ?_)
      exact s_iret F w h dX11_pointed_117
    · have h := ite_f q h
      refine lv_aload_n (pc := 31) hx hb dX11_pointed_31 rfl (lv_at hl 1 rfl) ?_
      refine s_getR (pc := 32) F w 1 ds_0 (j := 0) vc_X11 vi_X11 rfl (by decide) kf_X11_10 dX11_pointed_32 ?_
      refine lv_iload_n (pc := 35) hx hb dX11_pointed_35 rfl (lv_at hl 0 rfl) ?_
      obtain ⟨r15, S14, hc, h⟩ := bnd_t h
      refine s_cvi (pc := 36) [.int r5] (fun ad => [.ref (ad 1), .int r5]) F w (m_X5_found _ _ _ _ hc) rfl rfl hl.1 ds_1 vc_X5 rfl ok_X5_found rfl kc_X5_found kl_X11_98 ki_X5_found kv_X5_found kn_X5 ⟨Nat.le_trans (by decide) hR1, Nat.le_trans (by decide) hR2⟩ ⟨Nat.zero_le _, Nat.zero_le _⟩ (Nat.le_of_ble_eq_true rfl) dX11_pointed_36 (fun H locs w => ?_)
      exact s_iret F w h dX11_pointed_39
  · have h := ite_f q h
    refine lv_iconst (pc := 9) (v := -1) hx hb dX11_pointed_9 (by decide) ?_
    exact s_iret F w h dX11_pointed_10
