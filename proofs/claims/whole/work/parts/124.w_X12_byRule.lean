/-! ===== printed by wip/gen: X12_byRule X12_plan X3_moveAt X11_move X12_move X7_members_goal X3_haveSameWagons X7_below_start X7_below_goal X3_countMoved X11_bound X12_under_Model_startMany_Model_startOn ===== -/
def f_X12_byRule_j156 (K19 : Int32 → Int32 → SS → Option (Int32 × SS)) (x1 : Int32) (x2 : Int32) (S : SS) : Option (Int32 × SS) :=
    nm (x2 + (1 : Int32)) (fun z9 =>
    K19 x1 z9 S)
def f_X12_byRule_L102 (K19 : Int32 → Int32 → SS → Option (Int32 × SS)) : Nat → Int32 → Int32 → Int32 → Int32 → SS → Option (Int32 × SS)
  | 0, _, _, _, _, _ => none
  | n + 1, x1, x2, x3, x4, S =>
    grd (inb x4 4) (
    grd (inb ((((10 : Int32) * x4) + (S.1 125 x4.toNatClampNeg)) - (1 : Int32)) 40) (
    if (S.1 124 ((((10 : Int32) * x4) + (S.1 125 x4.toNatClampNeg)) - (1 : Int32)).toNatClampNeg) = x3 then
      bnd (f_X12_carries x4 x1 S) (fun r8 S7 =>
      if r8 = 0 then
        some ((0 : Int32), S7)
      else
        f_X12_byRule_j156 K19 x1 x2 S7)
    else
      bnd (f_X12_widest x1 x4 S) (fun r11 S10 =>
      bnd (f_X12_carries x4 r11 S10) (fun r13 S12 =>
      if r13 = 0 then
        some ((0 : Int32), S12)
      else
        f_X12_byRule_L102 K19 n x1 x2 x3 x4 S12))))
def f_X12_byRule_L69 (K19 : Int32 → Int32 → SS → Option (Int32 × SS)) : Nat → Int32 → Int32 → Int32 → SS → Option (Int32 × SS)
  | 0, _, _, _, _ => none
  | n + 1, x1, x2, x3, S =>
    grd (inb x1 4) (
    if (S.1 125 x1.toNatClampNeg) ≤ x2 then
      bnd (f_X12_stackOf x3 S) (fun r6 S5 =>
      f_X12_byRule_L102 K19 NF x1 x2 x3 r6 S5)
    else
      bnd (f_X12_widest x1 x1 S) (fun r15 S14 =>
      bnd (f_X12_carries x1 r15 S14) (fun r17 S16 =>
      if r17 = 0 then
        some ((0 : Int32), S16)
      else
        f_X12_byRule_L69 K19 n x1 x2 x3 S16)))
def f_X12_byRule_L19 (K12 : Int32 → SS → Option (Int32 × SS)) : Nat → Int32 → Int32 → SS → Option (Int32 × SS)
  | 0, _, _, _ => none
  | n + 1, x1, x2, S =>
    grd (inb x1 4) (
    if (S.1 116 x1.toNatClampNeg) ≤ x2 then
      nm (x1 + (1 : Int32)) (fun z3 =>
      K12 z3 S)
    else
      grd (inb (((10 : Int32) * x1) + x2) 40) (
      nm (S.1 117 (((10 : Int32) * x1) + x2).toNatClampNeg) (fun z4 =>
      grd (inb x1 4) (
      if (S.1 125 x1.toNatClampNeg) ≤ x2 then
        f_X12_byRule_L69 (fun v0 v1 S => f_X12_byRule_L19 K12 n v0 v1 S) NF x1 x2 z4 S
      else
        grd (inb (((10 : Int32) * x1) + x2) 40) (
        if (S.1 124 (((10 : Int32) * x1) + x2).toNatClampNeg) = z4 then
          f_X12_byRule_j156 (fun v0 v1 S => f_X12_byRule_L19 K12 n v0 v1 S) x1 x2 S
        else
          f_X12_byRule_L69 (fun v0 v1 S => f_X12_byRule_L19 K12 n v0 v1 S) NF x1 x2 z4 S)))))
def f_X12_byRule_L12  : Nat → Int32 → SS → Option (Int32 × SS)
  | 0, _, _ => none
  | n + 1, x1, S =>
    if (4 : Int32) ≤ x1 then
      some ((1 : Int32), S)
    else
      f_X12_byRule_L19 (fun v0 S => f_X12_byRule_L12 n v0 S) NF x1 (0 : Int32) S
def f_X12_byRule  (S : SS) : Option (Int32 × SS) :=
  wr S 14 77 (0 : Int32) (fun S1 =>
  bndv (f_X12_take (0 : Int32) S1) (fun S2 =>
  f_X12_byRule_L12 NF (0 : Int32) S2))
theorem dX12_byRule_0 : decode cX12_byRule 0 = .ok (.aload_n 0, 1) := by decide +kernel
theorem dX12_byRule_1 : decode cX12_byRule 1 = .ok (.iconst 0, 1) := by decide +kernel
theorem dX12_byRule_2 : decode cX12_byRule 2 = .ok (.putfield 463, 3) := by decide +kernel
theorem dX12_byRule_5 : decode cX12_byRule 5 = .ok (.aload_n 0, 1) := by decide +kernel
theorem dX12_byRule_6 : decode cX12_byRule 6 = .ok (.iconst 0, 1) := by decide +kernel
theorem dX12_byRule_7 : decode cX12_byRule 7 = .ok (.invokevirtual 472, 3) := by decide +kernel
theorem dX12_byRule_10 : decode cX12_byRule 10 = .ok (.iconst 0, 1) := by decide +kernel
theorem dX12_byRule_11 : decode cX12_byRule 11 = .ok (.istore_n 1, 1) := by decide +kernel
theorem dX12_byRule_12 : decode cX12_byRule 12 = .ok (.iload_n 1, 1) := by decide +kernel
theorem dX12_byRule_13 : decode cX12_byRule 13 = .ok (.iconst 4, 1) := by decide +kernel
theorem dX12_byRule_14 : decode cX12_byRule 14 = .ok (.if_icmp .ge 154, 3) := by decide +kernel
theorem dX12_byRule_17 : decode cX12_byRule 17 = .ok (.iconst 0, 1) := by decide +kernel
theorem dX12_byRule_18 : decode cX12_byRule 18 = .ok (.istore_n 2, 1) := by decide +kernel
theorem dX12_byRule_19 : decode cX12_byRule 19 = .ok (.iload_n 2, 1) := by decide +kernel
theorem dX12_byRule_20 : decode cX12_byRule 20 = .ok (.aload_n 0, 1) := by decide +kernel
theorem dX12_byRule_21 : decode cX12_byRule 21 = .ok (.getfield 162, 3) := by decide +kernel
theorem dX12_byRule_24 : decode cX12_byRule 24 = .ok (.iload_n 1, 1) := by decide +kernel
theorem dX12_byRule_25 : decode cX12_byRule 25 = .ok (.iaload, 1) := by decide +kernel
theorem dX12_byRule_26 : decode cX12_byRule 26 = .ok (.if_icmp .ge 136, 3) := by decide +kernel
theorem dX12_byRule_29 : decode cX12_byRule 29 = .ok (.aload_n 0, 1) := by decide +kernel
theorem dX12_byRule_30 : decode cX12_byRule 30 = .ok (.getfield 165, 3) := by decide +kernel
theorem dX12_byRule_33 : decode cX12_byRule 33 = .ok (.bipush 10, 2) := by decide +kernel
theorem dX12_byRule_35 : decode cX12_byRule 35 = .ok (.iload_n 1, 1) := by decide +kernel
theorem dX12_byRule_36 : decode cX12_byRule 36 = .ok (.imul, 1) := by decide +kernel
theorem dX12_byRule_37 : decode cX12_byRule 37 = .ok (.iload_n 2, 1) := by decide +kernel
theorem dX12_byRule_38 : decode cX12_byRule 38 = .ok (.iadd, 1) := by decide +kernel
theorem dX12_byRule_39 : decode cX12_byRule 39 = .ok (.iaload, 1) := by decide +kernel
theorem dX12_byRule_40 : decode cX12_byRule 40 = .ok (.istore_n 3, 1) := by decide +kernel
theorem dX12_byRule_41 : decode cX12_byRule 41 = .ok (.aload_n 0, 1) := by decide +kernel
theorem dX12_byRule_42 : decode cX12_byRule 42 = .ok (.getfield 192, 3) := by decide +kernel
theorem dX12_byRule_45 : decode cX12_byRule 45 = .ok (.iload_n 1, 1) := by decide +kernel
theorem dX12_byRule_46 : decode cX12_byRule 46 = .ok (.iaload, 1) := by decide +kernel
theorem dX12_byRule_47 : decode cX12_byRule 47 = .ok (.iload_n 2, 1) := by decide +kernel
theorem dX12_byRule_48 : decode cX12_byRule 48 = .ok (.if_icmp .le 21, 3) := by decide +kernel
theorem dX12_byRule_51 : decode cX12_byRule 51 = .ok (.aload_n 0, 1) := by decide +kernel
theorem dX12_byRule_52 : decode cX12_byRule 52 = .ok (.getfield 189, 3) := by decide +kernel
theorem dX12_byRule_55 : decode cX12_byRule 55 = .ok (.bipush 10, 2) := by decide +kernel
theorem dX12_byRule_57 : decode cX12_byRule 57 = .ok (.iload_n 1, 1) := by decide +kernel
theorem dX12_byRule_58 : decode cX12_byRule 58 = .ok (.imul, 1) := by decide +kernel
theorem dX12_byRule_59 : decode cX12_byRule 59 = .ok (.iload_n 2, 1) := by decide +kernel
theorem dX12_byRule_60 : decode cX12_byRule 60 = .ok (.iadd, 1) := by decide +kernel
theorem dX12_byRule_61 : decode cX12_byRule 61 = .ok (.iaload, 1) := by decide +kernel
theorem dX12_byRule_62 : decode cX12_byRule 62 = .ok (.iload_n 3, 1) := by decide +kernel
theorem dX12_byRule_63 : decode cX12_byRule 63 = .ok (.if_icmp .ne 6, 3) := by decide +kernel
theorem dX12_byRule_66 : decode cX12_byRule 66 = .ok (.goto 90, 3) := by decide +kernel
theorem dX12_byRule_69 : decode cX12_byRule 69 = .ok (.aload_n 0, 1) := by decide +kernel
theorem dX12_byRule_70 : decode cX12_byRule 70 = .ok (.getfield 192, 3) := by decide +kernel
theorem dX12_byRule_73 : decode cX12_byRule 73 = .ok (.iload_n 1, 1) := by decide +kernel
theorem dX12_byRule_74 : decode cX12_byRule 74 = .ok (.iaload, 1) := by decide +kernel
theorem dX12_byRule_75 : decode cX12_byRule 75 = .ok (.iload_n 2, 1) := by decide +kernel
theorem dX12_byRule_76 : decode cX12_byRule 76 = .ok (.if_icmp .le 19, 3) := by decide +kernel
theorem dX12_byRule_79 : decode cX12_byRule 79 = .ok (.aload_n 0, 1) := by decide +kernel
theorem dX12_byRule_80 : decode cX12_byRule 80 = .ok (.iload_n 1, 1) := by decide +kernel
theorem dX12_byRule_81 : decode cX12_byRule 81 = .ok (.aload_n 0, 1) := by decide +kernel
theorem dX12_byRule_82 : decode cX12_byRule 82 = .ok (.iload_n 1, 1) := by decide +kernel
theorem dX12_byRule_83 : decode cX12_byRule 83 = .ok (.iload_n 1, 1) := by decide +kernel
theorem dX12_byRule_84 : decode cX12_byRule 84 = .ok (.invokevirtual 493, 3) := by decide +kernel
theorem dX12_byRule_87 : decode cX12_byRule 87 = .ok (.invokevirtual 496, 3) := by decide +kernel
theorem dX12_byRule_90 : decode cX12_byRule 90 = .ok (.ifCond .ne (-21), 3) := by decide +kernel
theorem dX12_byRule_93 : decode cX12_byRule 93 = .ok (.iconst 0, 1) := by decide +kernel
theorem dX12_byRule_94 : decode cX12_byRule 94 = .ok (.ireturn, 1) := by decide +kernel
theorem dX12_byRule_95 : decode cX12_byRule 95 = .ok (.aload_n 0, 1) := by decide +kernel
theorem dX12_byRule_96 : decode cX12_byRule 96 = .ok (.iload_n 3, 1) := by decide +kernel
theorem dX12_byRule_97 : decode cX12_byRule 97 = .ok (.invokevirtual 499, 3) := by decide +kernel
theorem dX12_byRule_100 : decode cX12_byRule 100 = .ok (.istore 4, 2) := by decide +kernel
theorem dX12_byRule_102 : decode cX12_byRule 102 = .ok (.aload_n 0, 1) := by decide +kernel
theorem dX12_byRule_103 : decode cX12_byRule 103 = .ok (.getfield 189, 3) := by decide +kernel
theorem dX12_byRule_106 : decode cX12_byRule 106 = .ok (.bipush 10, 2) := by decide +kernel
theorem dX12_byRule_108 : decode cX12_byRule 108 = .ok (.iload 4, 2) := by decide +kernel
theorem dX12_byRule_110 : decode cX12_byRule 110 = .ok (.imul, 1) := by decide +kernel
theorem dX12_byRule_111 : decode cX12_byRule 111 = .ok (.aload_n 0, 1) := by decide +kernel
theorem dX12_byRule_112 : decode cX12_byRule 112 = .ok (.getfield 192, 3) := by decide +kernel
theorem dX12_byRule_115 : decode cX12_byRule 115 = .ok (.iload 4, 2) := by decide +kernel
theorem dX12_byRule_117 : decode cX12_byRule 117 = .ok (.iaload, 1) := by decide +kernel
theorem dX12_byRule_118 : decode cX12_byRule 118 = .ok (.iadd, 1) := by decide +kernel
theorem dX12_byRule_119 : decode cX12_byRule 119 = .ok (.iconst 1, 1) := by decide +kernel
theorem dX12_byRule_120 : decode cX12_byRule 120 = .ok (.isub, 1) := by decide +kernel
theorem dX12_byRule_121 : decode cX12_byRule 121 = .ok (.iaload, 1) := by decide +kernel
theorem dX12_byRule_122 : decode cX12_byRule 122 = .ok (.iload_n 3, 1) := by decide +kernel
theorem dX12_byRule_123 : decode cX12_byRule 123 = .ok (.if_icmp .eq 21, 3) := by decide +kernel
theorem dX12_byRule_126 : decode cX12_byRule 126 = .ok (.aload_n 0, 1) := by decide +kernel
theorem dX12_byRule_127 : decode cX12_byRule 127 = .ok (.iload 4, 2) := by decide +kernel
theorem dX12_byRule_129 : decode cX12_byRule 129 = .ok (.aload_n 0, 1) := by decide +kernel
theorem dX12_byRule_130 : decode cX12_byRule 130 = .ok (.iload_n 1, 1) := by decide +kernel
theorem dX12_byRule_131 : decode cX12_byRule 131 = .ok (.iload 4, 2) := by decide +kernel
theorem dX12_byRule_133 : decode cX12_byRule 133 = .ok (.invokevirtual 493, 3) := by decide +kernel
theorem dX12_byRule_136 : decode cX12_byRule 136 = .ok (.invokevirtual 496, 3) := by decide +kernel
theorem dX12_byRule_139 : decode cX12_byRule 139 = .ok (.ifCond .ne (-37), 3) := by decide +kernel
theorem dX12_byRule_142 : decode cX12_byRule 142 = .ok (.iconst 0, 1) := by decide +kernel
theorem dX12_byRule_143 : decode cX12_byRule 143 = .ok (.ireturn, 1) := by decide +kernel
theorem dX12_byRule_144 : decode cX12_byRule 144 = .ok (.aload_n 0, 1) := by decide +kernel
theorem dX12_byRule_145 : decode cX12_byRule 145 = .ok (.iload 4, 2) := by decide +kernel
theorem dX12_byRule_147 : decode cX12_byRule 147 = .ok (.iload_n 1, 1) := by decide +kernel
theorem dX12_byRule_148 : decode cX12_byRule 148 = .ok (.invokevirtual 496, 3) := by decide +kernel
theorem dX12_byRule_151 : decode cX12_byRule 151 = .ok (.ifCond .ne 5, 3) := by decide +kernel
theorem dX12_byRule_154 : decode cX12_byRule 154 = .ok (.iconst 0, 1) := by decide +kernel
theorem dX12_byRule_155 : decode cX12_byRule 155 = .ok (.ireturn, 1) := by decide +kernel
theorem dX12_byRule_156 : decode cX12_byRule 156 = .ok (.iinc 2 1, 3) := by decide +kernel
theorem dX12_byRule_159 : decode cX12_byRule 159 = .ok (.goto (-140), 3) := by decide +kernel
theorem dX12_byRule_162 : decode cX12_byRule 162 = .ok (.iinc 1 1, 3) := by decide +kernel
theorem dX12_byRule_165 : decode cX12_byRule 165 = .ok (.goto (-153), 3) := by decide +kernel
theorem dX12_byRule_168 : decode cX12_byRule 168 = .ok (.iconst 1, 1) := by decide +kernel
theorem dX12_byRule_169 : decode cX12_byRule 169 = .ok (.ireturn, 1) := by decide +kernel
set_option maxRecDepth 100000 in
set_option maxHeartbeats 4000000 in
theorem w_X12_byRule_j156 {p : Program} {l : Launch} {e : Env} {R : Room} {s : State} {m : MethodId} {args : Array Value} {below : List Frame} {meth : Method} {c : Code} {dC : Nat → ClassId} {dI : Nat → Nat → Nat} {cs : Nat → ClassId} {ad : Nat → Nat} {A : Nat → Prop} {D0 : Nat → Nat} {S' : SS} {r : Int32} (F : Fx p s m args meth c cX12_byRule 5 RX12 (some .boolean) dC dI cs A) (hR1 : 0 ≤ R.frames) (hR2 : 0 ≤ R.locals) (K19 : Int32 → Int32 → SS → Option (Int32 × SS)) (hK19 : ∀ (v0 : Int32) (v1 : Int32) (S : SS), K19 v0 v1 S = some (r, S') → AW p l e R s m args below meth c dC dI cs ad A D0 (some (.int r)) S' 5 19 [(0, .ref (ad 14)), (1, .int v0), (2, .int v1)] [] S) (x1 : Int32) (x2 : Int32) (S : SS) (h : f_X12_byRule_j156 K19 x1 x2 S = some (r, S')) : AW p l e R s m args below meth c dC dI cs ad A D0 (some (.int r)) S' 5 156 [(0, .ref (ad 14)), (1, .int x1), (2, .int x2)] [] S := by
  have hx := F.1.1
  have hb := F.1.2.1
  intro H locs ls w hl
  rw [f_X12_byRule_j156] at h
  refine s_nm h (fun z9 ez9 h => ?_)
  refine lv_iinc (pc := 156) (v := z9) (lv' := [(2, .int z9), (0, .ref (ad 14)), (1, .int x1)]) hx hb dX12_byRule_156 hl (k := 2) rfl (by rw [ez9]; rfl) (by decide) rfl (fun ls hl => ?_)
  refine lv_goto (pc := 159) (tgt := 19) hx hb dX12_byRule_159 (by decide) ?_
  exact hK19 _ _ _ h _ _ _ w (lv_sub hl [1, 2, 0] rfl)
set_option maxRecDepth 100000 in
set_option maxHeartbeats 4000000 in
theorem w_X12_byRule_L102 {p : Program} {l : Launch} {e : Env} {R : Room} {s : State} {m : MethodId} {args : Array Value} {below : List Frame} {meth : Method} {c : Code} {dC : Nat → ClassId} {dI : Nat → Nat → Nat} {cs : Nat → ClassId} {ad : Nat → Nat} {A : Nat → Prop} {D0 : Nat → Nat} {S' : SS} {r : Int32} (F : Fx p s m args meth c cX12_byRule 5 RX12 (some .boolean) dC dI cs A) (hR1 : 2 ≤ R.frames) (hR2 : 46 ≤ R.locals) (K19 : Int32 → Int32 → SS → Option (Int32 × SS)) (hK19 : ∀ (v0 : Int32) (v1 : Int32) (S : SS), K19 v0 v1 S = some (r, S') → AW p l e R s m args below meth c dC dI cs ad A D0 (some (.int r)) S' 5 19 [(0, .ref (ad 14)), (1, .int v0), (2, .int v1)] [] S) : ∀ (n : Nat) (x1 : Int32) (x2 : Int32) (x3 : Int32) (x4 : Int32) (S : SS), f_X12_byRule_L102 K19 n x1 x2 x3 x4 S = some (r, S') → AW p l e R s m args below meth c dC dI cs ad A D0 (some (.int r)) S' 5 102 [(0, .ref (ad 14)), (1, .int x1), (2, .int x2), (3, .int x3), (4, .int x4)] [] S := by
  have hx := F.1.1
  have hb := F.1.2.1
  intro n
  induction n with
  | zero => intro x1 x2 x3 x4 S h; cases h
  | succ n ih =>
    intro x1 x2 x3 x4 S h H locs ls w hl
    rw [f_X12_byRule_L102] at h
    refine lv_aload_n (pc := 102) hx hb dX12_byRule_102 rfl (lv_at hl 0 rfl) ?_
    refine s_getR (pc := 103) F w 124 ds_14 (j := 85) vc_X12 vi_X12 rfl (by decide) kf_X12_189 dX12_byRule_103 ?_
    refine lv_bipush (pc := 106) (v := 10) hx hb dX12_byRule_106 (by decide) ?_
    refine lv_iload (pc := 108) hx hb dX12_byRule_108 (lv_at hl 4 rfl) ?_
    refine lv_imul (pc := 110) hx hb dX12_byRule_110 ?_
    refine lv_aload_n (pc := 111) hx hb dX12_byRule_111 rfl (lv_at hl 0 rfl) ?_
    refine s_getR (pc := 112) F w 125 ds_14 (j := 86) vc_X12 vi_X12 rfl (by decide) kf_X12_192 dX12_byRule_112 ?_
    refine lv_iload (pc := 115) hx hb dX12_byRule_115 (lv_at hl 4 rfl) ?_
    refine s_iald (pc := 117) F w ds_125 h dX12_byRule_117 (fun h => ?_)
    refine lv_iadd (pc := 118) hx hb dX12_byRule_118 ?_
    refine lv_iconst (pc := 119) (v := 1) hx hb dX12_byRule_119 (by decide) ?_
    refine lv_isub (pc := 120) hx hb dX12_byRule_120 ?_
    refine s_iald (pc := 121) F w ds_124 h dX12_byRule_121 (fun h => ?_)
    refine lv_iload_n (pc := 122) hx hb dX12_byRule_122 rfl (lv_at hl 3 rfl) ?_
    refine lv_icmp_eq (pc := 123) (tgt := 144) hx hb dX12_byRule_123 (by decide) (fun q => ?_) (fun q => ?_)
    · have h := ite_t q h
      refine lv_aload_n (pc := 144) hx hb dX12_byRule_144 rfl (lv_at hl 0 rfl) ?_
      refine lv_iload (pc := 145) hx hb dX12_byRule_145 (lv_at hl 4 rfl) ?_
      refine lv_iload_n (pc := 147) hx hb dX12_byRule_147 rfl (lv_at hl 1 rfl) ?_
      obtain ⟨r8, S7, hc, h⟩ := bnd_t h
      refine s_cvi (pc := 148) [.int x4, .int x1] (fun ad => [.ref (ad 14), .int x4, .int x1]) F w (m_X12_carries _ _ _ _ _ hc) rfl rfl hl.1 ds_14 vc_X12 rfl ok_X12_carries rfl kc_X12_carries kl_X12_496 ki_X12_carries kv_X12_carries kn_X12 ⟨Nat.le_trans (by decide) hR1, Nat.le_trans (by decide) hR2⟩ ⟨Nat.zero_le _, Nat.zero_le _⟩ (Nat.le_of_ble_eq_true rfl) dX12_byRule_148 (fun H locs w => ?_)
      refine lv_if_ne (pc := 151) (tgt := 156) hx hb dX12_byRule_151 (by decide) (fun q => ?_) (fun q => ?_)
      · have h := ite_f q h
        exact w_X12_byRule_j156 F (Nat.le_trans (by decide) hR1) (Nat.le_trans (by decide) hR2) _ hK19 _ _ _ h _ _ _ w (lv_sub hl [0, 1, 2] rfl)
      · have h := ite_t q h
        refine lv_iconst (pc := 154) (v := 0) hx hb dX12_byRule_154 (by decide) ?_
        exact s_zretc F w rfl h dX12_byRule_155
    · have h := ite_f q h
      refine lv_aload_n (pc := 126) hx hb dX12_byRule_126 rfl (lv_at hl 0 rfl) ?_
      refine lv_iload (pc := 127) hx hb dX12_byRule_127 (lv_at hl 4 rfl) ?_
      refine lv_aload_n (pc := 129) hx hb dX12_byRule_129 rfl (lv_at hl 0 rfl) ?_
      refine lv_iload_n (pc := 130) hx hb dX12_byRule_130 rfl (lv_at hl 1 rfl) ?_
      refine lv_iload (pc := 131) hx hb dX12_byRule_131 (lv_at hl 4 rfl) ?_
      obtain ⟨r11, S10, hc, h⟩ := bnd_t h
      refine s_cvi (pc := 133) [.int x1, .int x4] (fun ad => [.ref (ad 14), .int x1, .int x4]) F w (m_X12_widest _ _ _ _ _ hc) rfl rfl hl.1 ds_14 vc_X12 rfl ok_X12_widest rfl kc_X12_widest kl_X12_493 ki_X12_widest kv_X12_widest kn_X12 ⟨Nat.le_trans (by decide) hR1, Nat.le_trans (by decide) hR2⟩ ⟨Nat.zero_le _, Nat.zero_le _⟩ (Nat.le_of_ble_eq_true rfl) dX12_byRule_133 (fun H locs w => ?_)
      obtain ⟨r13, S12, hc, h⟩ := bnd_t h
      refine s_cvi (pc := 136) [.int x4, .int r11] (fun ad => [.ref (ad 14), .int x4, .int r11]) F w (m_X12_carries _ _ _ _ _ hc) rfl rfl hl.1 ds_14 vc_X12 rfl ok_X12_carries rfl kc_X12_carries kl_X12_496 ki_X12_carries kv_X12_carries kn_X12 ⟨Nat.le_trans (by decide) hR1, Nat.le_trans (by decide) hR2⟩ ⟨Nat.zero_le _, Nat.zero_le _⟩ (Nat.le_of_ble_eq_true rfl) dX12_byRule_136 (fun H locs w => ?_)
      refine lv_if_ne (pc := 139) (tgt := 102) hx hb dX12_byRule_139 (by decide) (fun q => ?_) (fun q => ?_)
      · have h := ite_f q h
        exact ih _ _ _ _ _ h _ _ _ w (lv_sub hl [0, 1, 2, 3, 4] rfl)
      · have h := ite_t q h
        refine lv_iconst (pc := 142) (v := 0) hx hb dX12_byRule_142 (by decide) ?_
        exact s_zretc F w rfl h dX12_byRule_143
set_option maxRecDepth 100000 in
set_option maxHeartbeats 4000000 in
theorem w_X12_byRule_L69 {p : Program} {l : Launch} {e : Env} {R : Room} {s : State} {m : MethodId} {args : Array Value} {below : List Frame} {meth : Method} {c : Code} {dC : Nat → ClassId} {dI : Nat → Nat → Nat} {cs : Nat → ClassId} {ad : Nat → Nat} {A : Nat → Prop} {D0 : Nat → Nat} {S' : SS} {r : Int32} (F : Fx p s m args meth c cX12_byRule 5 RX12 (some .boolean) dC dI cs A) (hR1 : 2 ≤ R.frames) (hR2 : 46 ≤ R.locals) (K19 : Int32 → Int32 → SS → Option (Int32 × SS)) (hK19 : ∀ (v0 : Int32) (v1 : Int32) (S : SS), K19 v0 v1 S = some (r, S') → AW p l e R s m args below meth c dC dI cs ad A D0 (some (.int r)) S' 5 19 [(0, .ref (ad 14)), (1, .int v0), (2, .int v1)] [] S) : ∀ (n : Nat) (x1 : Int32) (x2 : Int32) (x3 : Int32) (S : SS), f_X12_byRule_L69 K19 n x1 x2 x3 S = some (r, S') → AW p l e R s m args below meth c dC dI cs ad A D0 (some (.int r)) S' 5 69 [(0, .ref (ad 14)), (1, .int x1), (2, .int x2), (3, .int x3)] [] S := by
  have hx := F.1.1
  have hb := F.1.2.1
  intro n
  induction n with
  | zero => intro x1 x2 x3 S h; cases h
  | succ n ih =>
    intro x1 x2 x3 S h H locs ls w hl
    rw [f_X12_byRule_L69] at h
    refine lv_aload_n (pc := 69) hx hb dX12_byRule_69 rfl (lv_at hl 0 rfl) ?_
    refine s_getR (pc := 70) F w 125 ds_14 (j := 86) vc_X12 vi_X12 rfl (by decide) kf_X12_192 dX12_byRule_70 ?_
    refine lv_iload_n (pc := 73) hx hb dX12_byRule_73 rfl (lv_at hl 1 rfl) ?_
    refine s_iald (pc := 74) F w ds_125 h dX12_byRule_74 (fun h => ?_)
    refine lv_iload_n (pc := 75) hx hb dX12_byRule_75 rfl (lv_at hl 2 rfl) ?_
    refine lv_icmp_le (pc := 76) (tgt := 95) hx hb dX12_byRule_76 (by decide) (fun q => ?_) (fun q => ?_)
    · have h := ite_t q h
      refine lv_aload_n (pc := 95) hx hb dX12_byRule_95 rfl (lv_at hl 0 rfl) ?_
      refine lv_iload_n (pc := 96) hx hb dX12_byRule_96 rfl (lv_at hl 3 rfl) ?_
      obtain ⟨r6, S5, hc, h⟩ := bnd_t h
      refine s_cvi (pc := 97) [.int x3] (fun ad => [.ref (ad 14), .int x3]) F w (m_X12_stackOf _ _ _ _ hc) rfl rfl hl.1 ds_14 vc_X12 rfl ok_X12_stackOf rfl kc_X12_stackOf kl_X12_499 ki_X12_stackOf kv_X12_stackOf kn_X12 ⟨Nat.le_trans (by decide) hR1, Nat.le_trans (by decide) hR2⟩ ⟨Nat.zero_le _, Nat.zero_le _⟩ (Nat.le_of_ble_eq_true rfl) dX12_byRule_97 (fun H locs w => ?_)
      refine lv_istore (pc := 100) (lv' := [(4, .int r6), (0, .ref (ad 14)), (1, .int x1), (2, .int x2), (3, .int x3)]) hx hb dX12_byRule_100 hl (by decide) rfl (fun ls hl => ?_)
      exact w_X12_byRule_L102 F (Nat.le_trans (by decide) hR1) (Nat.le_trans (by decide) hR2) _ hK19 _ _ _ _ _ _ h _ _ _ w (lv_sub hl [1, 2, 3, 4, 0] rfl)
    · have h := ite_f q h
      refine lv_aload_n (pc := 79) hx hb dX12_byRule_79 rfl (lv_at hl 0 rfl) ?_
      refine lv_iload_n (pc := 80) hx hb dX12_byRule_80 rfl (lv_at hl 1 rfl) ?_
      refine lv_aload_n (pc := 81) hx hb dX12_byRule_81 rfl (lv_at hl 0 rfl) ?_
      refine lv_iload_n (pc := 82) hx hb dX12_byRule_82 rfl (lv_at hl 1 rfl) ?_
      refine lv_iload_n (pc := 83) hx hb dX12_byRule_83 rfl (lv_at hl 1 rfl) ?_
      obtain ⟨r15, S14, hc, h⟩ := bnd_t h
      refine s_cvi (pc := 84) [.int x1, .int x1] (fun ad => [.ref (ad 14), .int x1, .int x1]) F w (m_X12_widest _ _ _ _ _ hc) rfl rfl hl.1 ds_14 vc_X12 rfl ok_X12_widest rfl kc_X12_widest kl_X12_493 ki_X12_widest kv_X12_widest kn_X12 ⟨Nat.le_trans (by decide) hR1, Nat.le_trans (by decide) hR2⟩ ⟨Nat.zero_le _, Nat.zero_le _⟩ (Nat.le_of_ble_eq_true rfl) dX12_byRule_84 (fun H locs w => ?_)
      obtain ⟨r17, S16, hc, h⟩ := bnd_t h
      refine s_cvi (pc := 87) [.int x1, .int r15] (fun ad => [.ref (ad 14), .int x1, .int r15]) F w (m_X12_carries _ _ _ _ _ hc) rfl rfl hl.1 ds_14 vc_X12 rfl ok_X12_carries rfl kc_X12_carries kl_X12_496 ki_X12_carries kv_X12_carries kn_X12 ⟨Nat.le_trans (by decide) hR1, Nat.le_trans (by decide) hR2⟩ ⟨Nat.zero_le _, Nat.zero_le _⟩ (Nat.le_of_ble_eq_true rfl) dX12_byRule_87 (fun H locs w => ?_)
      refine lv_if_ne (pc := 90) (tgt := 69) hx hb dX12_byRule_90 (by decide) (fun q => ?_) (fun q => ?_)
      · have h := ite_f q h
        exact ih _ _ _ _ h _ _ _ w (lv_sub hl [0, 1, 2, 3] rfl)
      · have h := ite_t q h
        refine lv_iconst (pc := 93) (v := 0) hx hb dX12_byRule_93 (by decide) ?_
        exact s_zretc F w rfl h dX12_byRule_94
set_option maxRecDepth 100000 in
set_option maxHeartbeats 4000000 in
theorem w_X12_byRule_L19 {p : Program} {l : Launch} {e : Env} {R : Room} {s : State} {m : MethodId} {args : Array Value} {below : List Frame} {meth : Method} {c : Code} {dC : Nat → ClassId} {dI : Nat → Nat → Nat} {cs : Nat → ClassId} {ad : Nat → Nat} {A : Nat → Prop} {D0 : Nat → Nat} {S' : SS} {r : Int32} (F : Fx p s m args meth c cX12_byRule 5 RX12 (some .boolean) dC dI cs A) (hR1 : 2 ≤ R.frames) (hR2 : 46 ≤ R.locals) (K12 : Int32 → SS → Option (Int32 × SS)) (hK12 : ∀ (v0 : Int32) (S : SS), K12 v0 S = some (r, S') → AW p l e R s m args below meth c dC dI cs ad A D0 (some (.int r)) S' 5 12 [(0, .ref (ad 14)), (1, .int v0)] [] S) : ∀ (n : Nat) (x1 : Int32) (x2 : Int32) (S : SS), f_X12_byRule_L19 K12 n x1 x2 S = some (r, S') → AW p l e R s m args below meth c dC dI cs ad A D0 (some (.int r)) S' 5 19 [(0, .ref (ad 14)), (1, .int x1), (2, .int x2)] [] S := by
  have hx := F.1.1
  have hb := F.1.2.1
  intro n
  induction n with
  | zero => intro x1 x2 S h; cases h
  | succ n ih =>
    intro x1 x2 S h H locs ls w hl
    rw [f_X12_byRule_L19] at h
    refine lv_iload_n (pc := 19) hx hb dX12_byRule_19 rfl (lv_at hl 2 rfl) ?_
    refine lv_aload_n (pc := 20) hx hb dX12_byRule_20 rfl (lv_at hl 0 rfl) ?_
    refine s_getR (pc := 21) F w 116 ds_14 (j := 74) vc_X12 vi_X12 rfl (by decide) kf_X12_162 dX12_byRule_21 ?_
    refine lv_iload_n (pc := 24) hx hb dX12_byRule_24 rfl (lv_at hl 1 rfl) ?_
    refine s_iald (pc := 25) F w ds_116 h dX12_byRule_25 (fun h => ?_)
    refine lv_icmp_ge (pc := 26) (tgt := 162) hx hb dX12_byRule_26 (by decide) (fun q => ?_) (fun q => ?_)
    · have h := ite_t q h
      refine s_nm h (fun z3 ez3 h => ?_)
      refine lv_iinc (pc := 162) (v := z3) (lv' := [(1, .int z3), (0, .ref (ad 14)), (2, .int x2)]) hx hb dX12_byRule_162 hl (k := 1) rfl (by rw [ez3]; rfl) (by decide) rfl (fun ls hl => ?_)
      refine lv_goto (pc := 165) (tgt := 12) hx hb dX12_byRule_165 (by decide) ?_
      exact hK12 _ _ h _ _ _ w (lv_sub hl [1, 0] rfl)
    · have h := ite_f q h
      refine lv_aload_n (pc := 29) hx hb dX12_byRule_29 rfl (lv_at hl 0 rfl) ?_
      refine s_getR (pc := 30) F w 117 ds_14 (j := 75) vc_X12 vi_X12 rfl (by decide) kf_X12_165 dX12_byRule_30 ?_
      refine lv_bipush (pc := 33) (v := 10) hx hb dX12_byRule_33 (by decide) ?_
      refine lv_iload_n (pc := 35) hx hb dX12_byRule_35 rfl (lv_at hl 1 rfl) ?_
      refine lv_imul (pc := 36) hx hb dX12_byRule_36 ?_
      refine lv_iload_n (pc := 37) hx hb dX12_byRule_37 rfl (lv_at hl 2 rfl) ?_
      refine lv_iadd (pc := 38) hx hb dX12_byRule_38 ?_
      refine s_iald (pc := 39) F w ds_117 h dX12_byRule_39 (fun h => ?_)
      refine s_nm h (fun z4 ez4 h => ?_)
      rw [← ez4]
      refine lv_istore_n (pc := 40) (lv' := [(3, .int z4), (0, .ref (ad 14)), (1, .int x1), (2, .int x2)]) hx hb dX12_byRule_40 rfl hl (by decide) rfl (fun ls hl => ?_)
      refine lv_aload_n (pc := 41) hx hb dX12_byRule_41 rfl (lv_at hl 1 rfl) ?_
      refine s_getR (pc := 42) F w 125 ds_14 (j := 86) vc_X12 vi_X12 rfl (by decide) kf_X12_192 dX12_byRule_42 ?_
      refine lv_iload_n (pc := 45) hx hb dX12_byRule_45 rfl (lv_at hl 2 rfl) ?_
      refine s_iald (pc := 46) F w ds_125 h dX12_byRule_46 (fun h => ?_)
      refine lv_iload_n (pc := 47) hx hb dX12_byRule_47 rfl (lv_at hl 3 rfl) ?_
      refine lv_icmp_le (pc := 48) (tgt := 69) hx hb dX12_byRule_48 (by decide) (fun q => ?_) (fun q => ?_)
      · have h := ite_t q h
        exact w_X12_byRule_L69 F (Nat.le_trans (by decide) hR1) (Nat.le_trans (by decide) hR2) _ (fun v0 v1 S h => ih v0 v1 S h) _ _ _ _ _ h _ _ _ w (lv_sub hl [1, 2, 3, 0] rfl)
      · have h := ite_f q h
        refine lv_aload_n (pc := 51) hx hb dX12_byRule_51 rfl (lv_at hl 1 rfl) ?_
        refine s_getR (pc := 52) F w 124 ds_14 (j := 85) vc_X12 vi_X12 rfl (by decide) kf_X12_189 dX12_byRule_52 ?_
        refine lv_bipush (pc := 55) (v := 10) hx hb dX12_byRule_55 (by decide) ?_
        refine lv_iload_n (pc := 57) hx hb dX12_byRule_57 rfl (lv_at hl 2 rfl) ?_
        refine lv_imul (pc := 58) hx hb dX12_byRule_58 ?_
        refine lv_iload_n (pc := 59) hx hb dX12_byRule_59 rfl (lv_at hl 3 rfl) ?_
        refine lv_iadd (pc := 60) hx hb dX12_byRule_60 ?_
        refine s_iald (pc := 61) F w ds_124 h dX12_byRule_61 (fun h => ?_)
        refine lv_iload_n (pc := 62) hx hb dX12_byRule_62 rfl (lv_at hl 0 rfl) ?_
        refine lv_icmp_ne (pc := 63) (tgt := 69) hx hb dX12_byRule_63 (by decide) (fun q => ?_) (fun q => ?_)
        · have h := ite_f q h
          exact w_X12_byRule_L69 F (Nat.le_trans (by decide) hR1) (Nat.le_trans (by decide) hR2) _ (fun v0 v1 S h => ih v0 v1 S h) _ _ _ _ _ h _ _ _ w (lv_sub hl [1, 2, 3, 0] rfl)
        · have h := ite_t q h
          refine lv_goto (pc := 66) (tgt := 156) hx hb dX12_byRule_66 (by decide) ?_
          exact w_X12_byRule_j156 F (Nat.le_trans (by decide) hR1) (Nat.le_trans (by decide) hR2) _ (fun v0 v1 S h => ih v0 v1 S h) _ _ _ h _ _ _ w (lv_sub hl [1, 2, 3] rfl)
set_option maxRecDepth 100000 in
set_option maxHeartbeats 4000000 in
theorem w_X12_byRule_L12 {p : Program} {l : Launch} {e : Env} {R : Room} {s : State} {m : MethodId} {args : Array Value} {below : List Frame} {meth : Method} {c : Code} {dC : Nat → ClassId} {dI : Nat → Nat → Nat} {cs : Nat → ClassId} {ad : Nat → Nat} {A : Nat → Prop} {D0 : Nat → Nat} {S' : SS} {r : Int32} (F : Fx p s m args meth c cX12_byRule 5 RX12 (some .boolean) dC dI cs A) (hR1 : 2 ≤ R.frames) (hR2 : 46 ≤ R.locals) : ∀ (n : Nat) (x1 : Int32) (S : SS), f_X12_byRule_L12 n x1 S = some (r, S') → AW p l e R s m args below meth c dC dI cs ad A D0 (some (.int r)) S' 5 12 [(0, .ref (ad 14)), (1, .int x1)] [] S := by
  have hx := F.1.1
  have hb := F.1.2.1
  intro n
  induction n with
  | zero => intro x1 S h; cases h
  | succ n ih =>
    intro x1 S h H locs ls w hl
    rw [f_X12_byRule_L12] at h
    refine lv_iload_n (pc := 12) hx hb dX12_byRule_12 rfl (lv_at hl 1 rfl) ?_
    refine lv_iconst (pc := 13) (v := 4) hx hb dX12_byRule_13 (by decide) ?_
    refine lv_icmp_ge (pc := 14) (tgt := 168) hx hb dX12_byRule_14 (by decide) (fun q => ?_) (fun q => ?_)
    · have h := ite_t q h
      refine lv_iconst (pc := 168) (v := 1) hx hb dX12_byRule_168 (by decide) ?_
      exact s_zretc F w rfl h dX12_byRule_169
    · have h := ite_f q h
      refine lv_iconst (pc := 17) (v := 0) hx hb dX12_byRule_17 (by decide) ?_
      refine lv_istore_n (pc := 18) (lv' := [(2, .int (0 : Int32)), (0, .ref (ad 14)), (1, .int x1)]) hx hb dX12_byRule_18 rfl hl (by decide) rfl (fun ls hl => ?_)
      exact w_X12_byRule_L19 F (Nat.le_trans (by decide) hR1) (Nat.le_trans (by decide) hR2) _ (fun v0 S h => ih v0 S h) _ _ _ _ h _ _ _ w (lv_sub hl [1, 2, 0] rfl)
set_option maxRecDepth 100000 in
set_option maxHeartbeats 4000000 in
theorem m_X12_byRule  (S S' : SS) (r : Int32) (h : f_X12_byRule  S = some (r, S')) : MT yX12_byRule cX12_byRule 5 (some .boolean) 2 46 (fun ad => [.ref (ad 14)]) S (some (.int r)) S' := by
  refine MT.of RX12 (fun ad => [(0, .ref (ad 14))]) (by decide) rfl (fun _ => Nat.le_of_ble_eq_true rfl) (fun _ => rfl) ?_
  intro p l e R s m args below meth c dC dI cs ad A hR1 hR2 F H locs ls w hl
  have hx := F.1.1
  have hb := F.1.2.1
  rw [f_X12_byRule] at h
  refine lv_aload_n (pc := 0) hx hb dX12_byRule_0 rfl (lv_at hl 0 rfl) ?_
  refine lv_iconst (pc := 1) (v := 0) hx hb dX12_byRule_1 (by decide) ?_
  refine s_putI (pc := 2) F w ds_14 vc_X12 vi_X12 tyX12_ok nmX12 (j := 77) rfl (by decide) kf_X12_463 rfl pd_I h dX12_byRule_2 (fun S1 H locs h w => ?_)
  refine lv_aload_n (pc := 5) hx hb dX12_byRule_5 rfl (lv_at hl 0 rfl) ?_
  refine lv_iconst (pc := 6) (v := 0) hx hb dX12_byRule_6 (by decide) ?_
  obtain ⟨S2, hc, h⟩ := bndv_t h
  refine s_cvv (pc := 7) [.int (0 : Int32)] (fun ad => [.ref (ad 14), .int (0 : Int32)]) F w (m_X12_take _ _ _ hc) rfl rfl hl.1 ds_14 vc_X12 rfl ok_X12_take rfl kc_X12_take kl_X12_472 ki_X12_take kv_X12_take kn_X12 ⟨Nat.le_trans (by decide) hR1, Nat.le_trans (by decide) hR2⟩ ⟨Nat.zero_le _, Nat.zero_le _⟩ (Nat.le_of_ble_eq_true rfl) dX12_byRule_7 (fun H locs w => ?_)
  refine lv_iconst (pc := 10) (v := 0) hx hb dX12_byRule_10 (by decide) ?_
  refine lv_istore_n (pc := 11) (lv' := [(1, .int (0 : Int32)), (0, .ref (ad 14))]) hx hb dX12_byRule_11 rfl hl (by decide) rfl (fun ls hl => ?_)
  exact w_X12_byRule_L12 F (Nat.le_trans (by decide) hR1) (Nat.le_trans (by decide) hR2) _ _ _ h _ _ _ w (lv_sub hl [1, 0] rfl)
def f_X12_plan_j76  (x2 : Int32) (y0 : Int32) (S : SS) : Option (Int32 × SS) :=
    wr S 14 76 y0 (fun S14 =>
    if x2 = 0 then
      some ((-4 : Int32), S14)
    else
      some (S14.1 14 77, S14))
def f_X12_plan_j62  (x2 : Int32) (y0 : Int32) (S : SS) : Option (Int32 × SS) :=
    wr S 14 77 y0 (fun S13 =>
    if x2 = 0 then
      f_X12_plan_j76 x2 (-4 : Int32) S13
    else
      f_X12_plan_j76 x2 (1 : Int32) S13)
def f_X12_plan_j33  (x1 : Int32) (S : SS) : Option (Int32 × SS) :=
    wr S 14 76 (-4 : Int32) (fun S3 =>
    if x1 = (1 : Int32) then
      bnd (f_X12_byRule  S3) (fun r12 S11 =>
      if r12 = 0 then
        f_X12_plan_j62 r12 (0 : Int32) S11
      else
        f_X12_plan_j62 r12 (S11.1 14 77) S11)
    else
      bndv (f_X12_measure  S3) (fun S4 =>
      bndv (f_X12_take (0 : Int32) S4) (fun S5 =>
      bnd (f_X12_code  S5) (fun r7 S6 =>
      wr S6 14 77 (0 : Int32) (fun S8 =>
      grd (inb r7 25920) (
      if 0 ≤ (S8.1 122 r7.toNatClampNeg) then
        bndv (f_X12_wander r7 S8) (fun S9 =>
        wr S9 14 76 (0 : Int32) (fun S10 =>
        some (S10.1 14 77, S10)))
      else
        some ((-4 : Int32), S8)))))))
def f_X12_plan (a1 : Int32) (S : SS) : Option (Int32 × SS) :=
  if a1 < 0 then
    some ((-1 : Int32), S)
  else
    if (1 : Int32) < a1 then
      some ((-1 : Int32), S)
    else
      bnd (f_X12_areSame  S) (fun r2 S1 =>
      if r2 = 0 then
        some ((-1 : Int32), S1)
      else
        if a1 = 0 then
          bnd (f_X12_sumOf_Model_startMany  S1) (fun r16 S15 =>
          if r16 ≤ (5 : Int32) then
            f_X12_plan_j33 a1 S15
          else
            some ((-1 : Int32), S15))
        else
          f_X12_plan_j33 a1 S1)
theorem dX12_plan_0 : decode cX12_plan 0 = .ok (.iload_n 1, 1) := by decide +kernel
theorem dX12_plan_1 : decode cX12_plan 1 = .ok (.ifCond .lt 30, 3) := by decide +kernel
theorem dX12_plan_4 : decode cX12_plan 4 = .ok (.iload_n 1, 1) := by decide +kernel
theorem dX12_plan_5 : decode cX12_plan 5 = .ok (.iconst 1, 1) := by decide +kernel
theorem dX12_plan_6 : decode cX12_plan 6 = .ok (.if_icmp .gt 25, 3) := by decide +kernel
theorem dX12_plan_9 : decode cX12_plan 9 = .ok (.aload_n 0, 1) := by decide +kernel
theorem dX12_plan_10 : decode cX12_plan 10 = .ok (.invokevirtual 502, 3) := by decide +kernel
theorem dX12_plan_13 : decode cX12_plan 13 = .ok (.ifCond .eq 18, 3) := by decide +kernel
theorem dX12_plan_16 : decode cX12_plan 16 = .ok (.iload_n 1, 1) := by decide +kernel
theorem dX12_plan_17 : decode cX12_plan 17 = .ok (.ifCond .ne 16, 3) := by decide +kernel
theorem dX12_plan_20 : decode cX12_plan 20 = .ok (.aload_n 0, 1) := by decide +kernel
theorem dX12_plan_21 : decode cX12_plan 21 = .ok (.getfield 156, 3) := by decide +kernel
theorem dX12_plan_24 : decode cX12_plan 24 = .ok (.invokestatic 459, 3) := by decide +kernel
theorem dX12_plan_27 : decode cX12_plan 27 = .ok (.iconst 5, 1) := by decide +kernel
theorem dX12_plan_28 : decode cX12_plan 28 = .ok (.if_icmp .le 5, 3) := by decide +kernel
theorem dX12_plan_31 : decode cX12_plan 31 = .ok (.iconst (-1), 1) := by decide +kernel
theorem dX12_plan_32 : decode cX12_plan 32 = .ok (.ireturn, 1) := by decide +kernel
theorem dX12_plan_33 : decode cX12_plan 33 = .ok (.aload_n 0, 1) := by decide +kernel
theorem dX12_plan_34 : decode cX12_plan 34 = .ok (.bipush (-4), 2) := by decide +kernel
theorem dX12_plan_36 : decode cX12_plan 36 = .ok (.putfield 168, 3) := by decide +kernel
theorem dX12_plan_39 : decode cX12_plan 39 = .ok (.iload_n 1, 1) := by decide +kernel
theorem dX12_plan_40 : decode cX12_plan 40 = .ok (.iconst 1, 1) := by decide +kernel
theorem dX12_plan_41 : decode cX12_plan 41 = .ok (.if_icmp .ne 52, 3) := by decide +kernel
theorem dX12_plan_44 : decode cX12_plan 44 = .ok (.aload_n 0, 1) := by decide +kernel
theorem dX12_plan_45 : decode cX12_plan 45 = .ok (.invokevirtual 506, 3) := by decide +kernel
theorem dX12_plan_48 : decode cX12_plan 48 = .ok (.istore_n 2, 1) := by decide +kernel
theorem dX12_plan_49 : decode cX12_plan 49 = .ok (.aload_n 0, 1) := by decide +kernel
theorem dX12_plan_50 : decode cX12_plan 50 = .ok (.iload_n 2, 1) := by decide +kernel
theorem dX12_plan_51 : decode cX12_plan 51 = .ok (.ifCond .eq 10, 3) := by decide +kernel
theorem dX12_plan_54 : decode cX12_plan 54 = .ok (.aload_n 0, 1) := by decide +kernel
theorem dX12_plan_55 : decode cX12_plan 55 = .ok (.getfield 463, 3) := by decide +kernel
theorem dX12_plan_58 : decode cX12_plan 58 = .ok (.goto 4, 3) := by decide +kernel
theorem dX12_plan_61 : decode cX12_plan 61 = .ok (.iconst 0, 1) := by decide +kernel
theorem dX12_plan_62 : decode cX12_plan 62 = .ok (.putfield 463, 3) := by decide +kernel
theorem dX12_plan_65 : decode cX12_plan 65 = .ok (.aload_n 0, 1) := by decide +kernel
theorem dX12_plan_66 : decode cX12_plan 66 = .ok (.iload_n 2, 1) := by decide +kernel
theorem dX12_plan_67 : decode cX12_plan 67 = .ok (.ifCond .eq 7, 3) := by decide +kernel
theorem dX12_plan_70 : decode cX12_plan 70 = .ok (.iconst 1, 1) := by decide +kernel
theorem dX12_plan_71 : decode cX12_plan 71 = .ok (.goto 5, 3) := by decide +kernel
theorem dX12_plan_74 : decode cX12_plan 74 = .ok (.bipush (-4), 2) := by decide +kernel
theorem dX12_plan_76 : decode cX12_plan 76 = .ok (.putfield 168, 3) := by decide +kernel
theorem dX12_plan_79 : decode cX12_plan 79 = .ok (.iload_n 2, 1) := by decide +kernel
theorem dX12_plan_80 : decode cX12_plan 80 = .ok (.ifCond .eq 10, 3) := by decide +kernel
theorem dX12_plan_83 : decode cX12_plan 83 = .ok (.aload_n 0, 1) := by decide +kernel
theorem dX12_plan_84 : decode cX12_plan 84 = .ok (.getfield 463, 3) := by decide +kernel
theorem dX12_plan_87 : decode cX12_plan 87 = .ok (.goto 5, 3) := by decide +kernel
theorem dX12_plan_90 : decode cX12_plan 90 = .ok (.bipush (-4), 2) := by decide +kernel
theorem dX12_plan_92 : decode cX12_plan 92 = .ok (.ireturn, 1) := by decide +kernel
theorem dX12_plan_93 : decode cX12_plan 93 = .ok (.aload_n 0, 1) := by decide +kernel
theorem dX12_plan_94 : decode cX12_plan 94 = .ok (.invokevirtual 509, 3) := by decide +kernel
theorem dX12_plan_97 : decode cX12_plan 97 = .ok (.aload_n 0, 1) := by decide +kernel
theorem dX12_plan_98 : decode cX12_plan 98 = .ok (.iconst 0, 1) := by decide +kernel
theorem dX12_plan_99 : decode cX12_plan 99 = .ok (.invokevirtual 472, 3) := by decide +kernel
theorem dX12_plan_102 : decode cX12_plan 102 = .ok (.aload_n 0, 1) := by decide +kernel
theorem dX12_plan_103 : decode cX12_plan 103 = .ok (.invokevirtual 476, 3) := by decide +kernel
theorem dX12_plan_106 : decode cX12_plan 106 = .ok (.istore_n 2, 1) := by decide +kernel
theorem dX12_plan_107 : decode cX12_plan 107 = .ok (.aload_n 0, 1) := by decide +kernel
theorem dX12_plan_108 : decode cX12_plan 108 = .ok (.iconst 0, 1) := by decide +kernel
theorem dX12_plan_109 : decode cX12_plan 109 = .ok (.putfield 463, 3) := by decide +kernel
theorem dX12_plan_112 : decode cX12_plan 112 = .ok (.aload_n 0, 1) := by decide +kernel
theorem dX12_plan_113 : decode cX12_plan 113 = .ok (.getfield 183, 3) := by decide +kernel
theorem dX12_plan_116 : decode cX12_plan 116 = .ok (.iload_n 2, 1) := by decide +kernel
theorem dX12_plan_117 : decode cX12_plan 117 = .ok (.iaload, 1) := by decide +kernel
theorem dX12_plan_118 : decode cX12_plan 118 = .ok (.ifCond .ge 6, 3) := by decide +kernel
theorem dX12_plan_121 : decode cX12_plan 121 = .ok (.bipush (-4), 2) := by decide +kernel
theorem dX12_plan_123 : decode cX12_plan 123 = .ok (.ireturn, 1) := by decide +kernel
theorem dX12_plan_124 : decode cX12_plan 124 = .ok (.aload_n 0, 1) := by decide +kernel
theorem dX12_plan_125 : decode cX12_plan 125 = .ok (.iload_n 2, 1) := by decide +kernel
theorem dX12_plan_126 : decode cX12_plan 126 = .ok (.invokevirtual 512, 3) := by decide +kernel
theorem dX12_plan_129 : decode cX12_plan 129 = .ok (.aload_n 0, 1) := by decide +kernel
theorem dX12_plan_130 : decode cX12_plan 130 = .ok (.iconst 0, 1) := by decide +kernel
theorem dX12_plan_131 : decode cX12_plan 131 = .ok (.putfield 168, 3) := by decide +kernel
theorem dX12_plan_134 : decode cX12_plan 134 = .ok (.aload_n 0, 1) := by decide +kernel
theorem dX12_plan_135 : decode cX12_plan 135 = .ok (.getfield 463, 3) := by decide +kernel
theorem dX12_plan_138 : decode cX12_plan 138 = .ok (.ireturn, 1) := by decide +kernel
set_option maxRecDepth 100000 in
set_option maxHeartbeats 4000000 in
theorem w_X12_plan_j76 {p : Program} {l : Launch} {e : Env} {R : Room} {s : State} {m : MethodId} {args : Array Value} {below : List Frame} {meth : Method} {c : Code} {dC : Nat → ClassId} {dI : Nat → Nat → Nat} {cs : Nat → ClassId} {ad : Nat → Nat} {A : Nat → Prop} {D0 : Nat → Nat} {S' : SS} {r : Int32} (F : Fx p s m args meth c cX12_plan 3 RX12 (some .int) dC dI cs A) (hR1 : 0 ≤ R.frames) (hR2 : 0 ≤ R.locals) (x2 : Int32) (y0 : Int32) (S : SS) (h : f_X12_plan_j76 x2 y0 S = some (r, S')) : AW p l e R s m args below meth c dC dI cs ad A D0 (some (.int r)) S' 3 76 [(0, .ref (ad 14)), (2, .int x2)] [.int y0, .ref (ad 14)] S := by
  have hx := F.1.1
  have hb := F.1.2.1
  intro H locs ls w hl
  rw [f_X12_plan_j76] at h
  refine s_putI (pc := 76) F w ds_14 vc_X12 vi_X12 tyX12_ok nmX12 (j := 76) rfl (by decide) kf_X12_168 rfl pd_I h dX12_plan_76 (fun S14 H locs h w => ?_)
  refine lv_iload_n (pc := 79) hx hb dX12_plan_79 rfl (lv_at hl 1 rfl) ?_
  refine lv_if_eq (pc := 80) (tgt := 90) hx hb dX12_plan_80 (by decide) (fun q => ?_) (fun q => ?_)
  · have h := ite_t q h
    refine lv_bipush (pc := 90) (v := -4) hx hb dX12_plan_90 (by decide) ?_
    exact s_iret F w h dX12_plan_92
  · have h := ite_f q h
    refine lv_aload_n (pc := 83) hx hb dX12_plan_83 rfl (lv_at hl 0 rfl) ?_
    refine s_getI (pc := 84) F w ds_14 (j := 77) vc_X12 vi_X12 rfl (by decide) kf_X12_463 dX12_plan_84 ?_
    refine lv_goto (pc := 87) (tgt := 92) hx hb dX12_plan_87 (by decide) ?_
    exact s_iret F w h dX12_plan_92
set_option maxRecDepth 100000 in
set_option maxHeartbeats 4000000 in
theorem w_X12_plan_j62 {p : Program} {l : Launch} {e : Env} {R : Room} {s : State} {m : MethodId} {args : Array Value} {below : List Frame} {meth : Method} {c : Code} {dC : Nat → ClassId} {dI : Nat → Nat → Nat} {cs : Nat → ClassId} {ad : Nat → Nat} {A : Nat → Prop} {D0 : Nat → Nat} {S' : SS} {r : Int32} (F : Fx p s m args meth c cX12_plan 3 RX12 (some .int) dC dI cs A) (hR1 : 0 ≤ R.frames) (hR2 : 0 ≤ R.locals) (x2 : Int32) (y0 : Int32) (S : SS) (h : f_X12_plan_j62 x2 y0 S = some (r, S')) : AW p l e R s m args below meth c dC dI cs ad A D0 (some (.int r)) S' 3 62 [(0, .ref (ad 14)), (2, .int x2)] [.int y0, .ref (ad 14)] S := by
  have hx := F.1.1
  have hb := F.1.2.1
  intro H locs ls w hl
  rw [f_X12_plan_j62] at h
  refine s_putI (pc := 62) F w ds_14 vc_X12 vi_X12 tyX12_ok nmX12 (j := 77) rfl (by decide) kf_X12_463 rfl pd_I h dX12_plan_62 (fun S13 H locs h w => ?_)
  refine lv_aload_n (pc := 65) hx hb dX12_plan_65 rfl (lv_at hl 0 rfl) ?_
  refine lv_iload_n (pc := 66) hx hb dX12_plan_66 rfl (lv_at hl 1 rfl) ?_
  refine lv_if_eq (pc := 67) (tgt := 74) hx hb dX12_plan_67 (by decide) (fun q => ?_) (fun q => ?_)
  · have h := ite_t q h
    refine lv_bipush (pc := 74) (v := -4) hx hb dX12_plan_74 (by decide) ?_
    exact w_X12_plan_j76 F (Nat.le_trans (by decide) hR1) (Nat.le_trans (by decide) hR2) _ _ _ h _ _ _ w (lv_sub hl [0, 1] rfl)
  · have h := ite_f q h
    refine lv_iconst (pc := 70) (v := 1) hx hb dX12_plan_70 (by decide) ?_
    refine lv_goto (pc := 71) (tgt := 76) hx hb dX12_plan_71 (by decide) ?_
    exact w_X12_plan_j76 F (Nat.le_trans (by decide) hR1) (Nat.le_trans (by decide) hR2) _ _ _ h _ _ _ w (lv_sub hl [0, 1] rfl)
set_option maxRecDepth 100000 in
set_option maxHeartbeats 4000000 in
theorem w_X12_plan_j33 {p : Program} {l : Launch} {e : Env} {R : Room} {s : State} {m : MethodId} {args : Array Value} {below : List Frame} {meth : Method} {c : Code} {dC : Nat → ClassId} {dI : Nat → Nat → Nat} {cs : Nat → ClassId} {ad : Nat → Nat} {A : Nat → Prop} {D0 : Nat → Nat} {S' : SS} {r : Int32} (F : Fx p s m args meth c cX12_plan 3 RX12 (some .int) dC dI cs A) (hR1 : 4 ≤ R.frames) (hR2 : 94 ≤ R.locals) (x1 : Int32) (S : SS) (h : f_X12_plan_j33 x1 S = some (r, S')) : AW p l e R s m args below meth c dC dI cs ad A D0 (some (.int r)) S' 3 33 [(0, .ref (ad 14)), (1, .int x1)] [] S := by
  have hx := F.1.1
  have hb := F.1.2.1
  intro H locs ls w hl
  rw [f_X12_plan_j33] at h
  refine lv_aload_n (pc := 33) hx hb dX12_plan_33 rfl (lv_at hl 0 rfl) ?_
  refine lv_bipush (pc := 34) (v := -4) hx hb dX12_plan_34 (by decide) ?_
  refine s_putI (pc := 36) F w ds_14 vc_X12 vi_X12 tyX12_ok nmX12 (j := 76) rfl (by decide) kf_X12_168 rfl pd_I h dX12_plan_36 (fun S3 H locs h w => ?_)
  refine lv_iload_n (pc := 39) hx hb dX12_plan_39 rfl (lv_at hl 1 rfl) ?_
  refine lv_iconst (pc := 40) (v := 1) hx hb dX12_plan_40 (by decide) ?_
  refine lv_icmp_ne (pc := 41) (tgt := 93) hx hb dX12_plan_41 (by decide) (fun q => ?_) (fun q => ?_)
  · have h := ite_f q h
    refine lv_aload_n (pc := 93) hx hb dX12_plan_93 rfl (lv_at hl 0 rfl) ?_
    obtain ⟨S4, hc, h⟩ := bndv_t h
    refine s_cvv (pc := 94) [] (fun ad => [.ref (ad 14)]) F w (m_X12_measure  _ _ hc) rfl rfl hl.1 ds_14 vc_X12 rfl ok_X12_measure rfl kc_X12_measure kl_X12_509 ki_X12_measure kv_X12_measure kn_X12 ⟨Nat.le_trans (by decide) hR1, Nat.le_trans (by decide) hR2⟩ ⟨Nat.zero_le _, Nat.zero_le _⟩ (Nat.le_of_ble_eq_true rfl) dX12_plan_94 (fun H locs w => ?_)
    refine lv_aload_n (pc := 97) hx hb dX12_plan_97 rfl (lv_at hl 0 rfl) ?_
    refine lv_iconst (pc := 98) (v := 0) hx hb dX12_plan_98 (by decide) ?_
    obtain ⟨S5, hc, h⟩ := bndv_t h
    refine s_cvv (pc := 99) [.int (0 : Int32)] (fun ad => [.ref (ad 14), .int (0 : Int32)]) F w (m_X12_take _ _ _ hc) rfl rfl hl.1 ds_14 vc_X12 rfl ok_X12_take rfl kc_X12_take kl_X12_472 ki_X12_take kv_X12_take kn_X12 ⟨Nat.le_trans (by decide) hR1, Nat.le_trans (by decide) hR2⟩ ⟨Nat.zero_le _, Nat.zero_le _⟩ (Nat.le_of_ble_eq_true rfl) dX12_plan_99 (fun H locs w => ?_)
    refine lv_aload_n (pc := 102) hx hb dX12_plan_102 rfl (lv_at hl 0 rfl) ?_
    obtain ⟨r7, S6, hc, h⟩ := bnd_t h
    refine s_cvi (pc := 103) [] (fun ad => [.ref (ad 14)]) F w (m_X12_code  _ _ _ hc) rfl rfl hl.1 ds_14 vc_X12 rfl ok_X12_code rfl kc_X12_code kl_X12_476 ki_X12_code kv_X12_code kn_X12 ⟨Nat.le_trans (by decide) hR1, Nat.le_trans (by decide) hR2⟩ ⟨Nat.zero_le _, Nat.zero_le _⟩ (Nat.le_of_ble_eq_true rfl) dX12_plan_103 (fun H locs w => ?_)
    refine lv_istore_n (pc := 106) (lv' := [(2, .int r7), (0, .ref (ad 14)), (1, .int x1)]) hx hb dX12_plan_106 rfl hl (by decide) rfl (fun ls hl => ?_)
    refine lv_aload_n (pc := 107) hx hb dX12_plan_107 rfl (lv_at hl 1 rfl) ?_
    refine lv_iconst (pc := 108) (v := 0) hx hb dX12_plan_108 (by decide) ?_
    refine s_putI (pc := 109) F w ds_14 vc_X12 vi_X12 tyX12_ok nmX12 (j := 77) rfl (by decide) kf_X12_463 rfl pd_I h dX12_plan_109 (fun S8 H locs h w => ?_)
    refine lv_aload_n (pc := 112) hx hb dX12_plan_112 rfl (lv_at hl 1 rfl) ?_
    refine s_getR (pc := 113) F w 122 ds_14 (j := 83) vc_X12 vi_X12 rfl (by decide) kf_X12_183 dX12_plan_113 ?_
    refine lv_iload_n (pc := 116) hx hb dX12_plan_116 rfl (lv_at hl 0 rfl) ?_
    refine s_iald (pc := 117) F w ds_122 h dX12_plan_117 (fun h => ?_)
    refine lv_if_ge (pc := 118) (tgt := 124) hx hb dX12_plan_118 (by decide) (fun q => ?_) (fun q => ?_)
    · have h := ite_t q h
      refine lv_aload_n (pc := 124) hx hb dX12_plan_124 rfl (lv_at hl 1 rfl) ?_
      refine lv_iload_n (pc := 125) hx hb dX12_plan_125 rfl (lv_at hl 0 rfl) ?_
      obtain ⟨S9, hc, h⟩ := bndv_t h
      refine s_cvv (pc := 126) [.int r7] (fun ad => [.ref (ad 14), .int r7]) F w (m_X12_wander _ _ _ hc) rfl rfl hl.1 ds_14 vc_X12 rfl ok_X12_wander rfl kc_X12_wander kl_X12_512 ki_X12_wander kv_X12_wander kn_X12 ⟨Nat.le_trans (by decide) hR1, Nat.le_trans (by decide) hR2⟩ ⟨Nat.zero_le _, Nat.zero_le _⟩ (Nat.le_of_ble_eq_true rfl) dX12_plan_126 (fun H locs w => ?_)
      refine lv_aload_n (pc := 129) hx hb dX12_plan_129 rfl (lv_at hl 1 rfl) ?_
      refine lv_iconst (pc := 130) (v := 0) hx hb dX12_plan_130 (by decide) ?_
      refine s_putI (pc := 131) F w ds_14 vc_X12 vi_X12 tyX12_ok nmX12 (j := 76) rfl (by decide) kf_X12_168 rfl pd_I h dX12_plan_131 (fun S10 H locs h w => ?_)
      refine lv_aload_n (pc := 134) hx hb dX12_plan_134 rfl (lv_at hl 1 rfl) ?_
      refine s_getI (pc := 135) F w ds_14 (j := 77) vc_X12 vi_X12 rfl (by decide) kf_X12_463 dX12_plan_135 ?_
      exact s_iret F w h dX12_plan_138
    · have h := ite_f q h
      refine lv_bipush (pc := 121) (v := -4) hx hb dX12_plan_121 (by decide) ?_
      exact s_iret F w h dX12_plan_123
  · have h := ite_t q h
    refine lv_aload_n (pc := 44) hx hb dX12_plan_44 rfl (lv_at hl 0 rfl) ?_
    obtain ⟨r12, S11, hc, h⟩ := bnd_t h
    refine s_cvi (pc := 45) [] (fun ad => [.ref (ad 14)]) F w (m_X12_byRule  _ _ _ hc) rfl rfl hl.1 ds_14 vc_X12 rfl ok_X12_byRule rfl kc_X12_byRule kl_X12_506 ki_X12_byRule kv_X12_byRule kn_X12 ⟨Nat.le_trans (by decide) hR1, Nat.le_trans (by decide) hR2⟩ ⟨Nat.zero_le _, Nat.zero_le _⟩ (Nat.le_of_ble_eq_true rfl) dX12_plan_45 (fun H locs w => ?_)
    refine lv_istore_n (pc := 48) (lv' := [(2, .int r12), (0, .ref (ad 14)), (1, .int x1)]) hx hb dX12_plan_48 rfl hl (by decide) rfl (fun ls hl => ?_)
    refine lv_aload_n (pc := 49) hx hb dX12_plan_49 rfl (lv_at hl 1 rfl) ?_
    refine lv_iload_n (pc := 50) hx hb dX12_plan_50 rfl (lv_at hl 0 rfl) ?_
    refine lv_if_eq (pc := 51) (tgt := 61) hx hb dX12_plan_51 (by decide) (fun q => ?_) (fun q => ?_)
    · have h := ite_t q h
      refine lv_iconst (pc := 61) (v := 0) hx hb dX12_plan_61 (by decide) ?_
      exact w_X12_plan_j62 F (Nat.le_trans (by decide) hR1) (Nat.le_trans (by decide) hR2) _ _ _ h _ _ _ w (lv_sub hl [1, 0] rfl)
    · have h := ite_f q h
      refine lv_aload_n (pc := 54) hx hb dX12_plan_54 rfl (lv_at hl 1 rfl) ?_
      refine s_getI (pc := 55) F w ds_14 (j := 77) vc_X12 vi_X12 rfl (by decide) kf_X12_463 dX12_plan_55 ?_
      refine lv_goto (pc := 58) (tgt := 62) hx hb dX12_plan_58 (by decide) ?_
      exact w_X12_plan_j62 F (Nat.le_trans (by decide) hR1) (Nat.le_trans (by decide) hR2) _ _ _ h _ _ _ w (lv_sub hl [1, 0] rfl)
set_option maxRecDepth 100000 in
set_option maxHeartbeats 4000000 in
theorem m_X12_plan (a1 : Int32) (S S' : SS) (r : Int32) (h : f_X12_plan a1 S = some (r, S')) : MT yX12_plan cX12_plan 3 (some .int) 4 94 (fun ad => [.ref (ad 14), .int a1]) S (some (.int r)) S' := by
  refine MT.of RX12 (fun ad => [(0, .ref (ad 14)), (1, .int a1)]) (by decide) rfl (fun _ => Nat.le_of_ble_eq_true rfl) (fun _ => rfl) ?_
  intro p l e R s m args below meth c dC dI cs ad A hR1 hR2 F H locs ls w hl
  have hx := F.1.1
  have hb := F.1.2.1
  rw [f_X12_plan] at h
  refine lv_iload_n (pc := 0) hx hb dX12_plan_0 rfl (lv_at hl 1 rfl) ?_
  refine lv_if_lt (pc := 1) (tgt := 31) hx hb dX12_plan_1 (by decide) (fun q => ?_) (fun q => ?_)
  · have h := ite_t q h
    refine lv_iconst (pc := 31) (v := -1) hx hb dX12_plan_31 (by decide) ?_
    exact s_iret F w h dX12_plan_32
  · have h := ite_f q h
    refine lv_iload_n (pc := 4) hx hb dX12_plan_4 rfl (lv_at hl 1 rfl) ?_
    refine lv_iconst (pc := 5) (v := 1) hx hb dX12_plan_5 (by decide) ?_
    refine lv_icmp_gt (pc := 6) (tgt := 31) hx hb dX12_plan_6 (by decide) (fun q => ?_) (fun q => ?_)
    · have h := ite_t q h
      refine lv_iconst (pc := 31) (v := -1) hx hb dX12_plan_31 (by decide) ?_
      exact s_iret F w h dX12_plan_32
    · have h := ite_f q h
      refine lv_aload_n (pc := 9) hx hb dX12_plan_9 rfl (lv_at hl 0 rfl) ?_
      obtain ⟨r2, S1, hc, h⟩ := bnd_t h
      refine s_cvi (pc := 10) [] (fun ad => [.ref (ad 14)]) F w (m_X12_areSame  _ _ _ hc) rfl rfl hl.1 ds_14 vc_X12 rfl ok_X12_areSame rfl kc_X12_areSame kl_X12_502 ki_X12_areSame kv_X12_areSame kn_X12 ⟨Nat.le_trans (by decide) hR1, Nat.le_trans (by decide) hR2⟩ ⟨Nat.zero_le _, Nat.zero_le _⟩ (Nat.le_of_ble_eq_true rfl) dX12_plan_10 (fun H locs w => ?_)
      refine lv_if_eq (pc := 13) (tgt := 31) hx hb dX12_plan_13 (by decide) (fun q => ?_) (fun q => ?_)
      · have h := ite_t q h
        refine lv_iconst (pc := 31) (v := -1) hx hb dX12_plan_31 (by decide) ?_
        exact s_iret F w h dX12_plan_32
      · have h := ite_f q h
        refine lv_iload_n (pc := 16) hx hb dX12_plan_16 rfl (lv_at hl 1 rfl) ?_
        refine lv_if_ne (pc := 17) (tgt := 33) hx hb dX12_plan_17 (by decide) (fun q => ?_) (fun q => ?_)
        · have h := ite_f q h
          exact w_X12_plan_j33 F (Nat.le_trans (by decide) hR1) (Nat.le_trans (by decide) hR2) _ _ h _ _ _ w (lv_sub hl [0, 1] rfl)
        · have h := ite_t q h
          refine lv_aload_n (pc := 20) hx hb dX12_plan_20 rfl (lv_at hl 0 rfl) ?_
          refine s_getR (pc := 21) F w 114 ds_14 (j := 72) vc_X12 vi_X12 rfl (by decide) kf_X12_156 dX12_plan_21 ?_
          obtain ⟨r16, S15, hc, h⟩ := bnd_t h
          refine s_csi (pc := 24) [.ref (ad 114)] (fun ad => [.ref (ad 114)]) F w (m_X12_sumOf_Model_startMany  _ _ _ hc) rfl rfl hl.1 ok_X12_sumOf rfl kc_X12_sumOf kl_X12_459 ks_X12_sumOf kn_X12 ⟨Nat.le_trans (by decide) hR1, Nat.le_trans (by decide) hR2⟩ ⟨Nat.zero_le _, Nat.zero_le _⟩ (Nat.le_of_ble_eq_true rfl) dX12_plan_24 (fun H locs w => ?_)
          refine lv_iconst (pc := 27) (v := 5) hx hb dX12_plan_27 (by decide) ?_
          refine lv_icmp_le (pc := 28) (tgt := 33) hx hb dX12_plan_28 (by decide) (fun q => ?_) (fun q => ?_)
          · have h := ite_t q h
            exact w_X12_plan_j33 F (Nat.le_trans (by decide) hR1) (Nat.le_trans (by decide) hR2) _ _ h _ _ _ w (lv_sub hl [0, 1] rfl)
          · have h := ite_f q h
            refine lv_iconst (pc := 31) (v := -1) hx hb dX12_plan_31 (by decide) ?_
            exact s_iret F w h dX12_plan_32
def f_X3_moveAt (a1 : Int32) (a2 : Int32) (S : SS) : Option (Int32 × SS) :=
  if a1 < 0 then
    some ((-4 : Int32), S)
  else
    if (S.1 9 7) ≤ a1 then
      some ((-4 : Int32), S)
    else
      if a1 < (128 : Int32) then
        if a2 = (0 : Int32) then
          grd (inb a1 128) (
          some ((S.1 47 a1.toNatClampNeg) >>> ((6 : Int32) &&& 31), S))
        else
        if a2 = (1 : Int32) then
          grd (inb a1 128) (
          some (((S.1 47 a1.toNatClampNeg) >>> ((4 : Int32) &&& 31)) &&& (3 : Int32), S))
        else
        grd (inb a1 128) (
        some ((S.1 47 a1.toNatClampNeg) &&& (15 : Int32), S))
      else
        some ((-4 : Int32), S)
theorem dX3_moveAt_0 : decode cX3_moveAt 0 = .ok (.iload_n 1, 1) := by decide +kernel
theorem dX3_moveAt_1 : decode cX3_moveAt 1 = .ok (.ifCond .lt 18, 3) := by decide +kernel
theorem dX3_moveAt_4 : decode cX3_moveAt 4 = .ok (.iload_n 1, 1) := by decide +kernel
theorem dX3_moveAt_5 : decode cX3_moveAt 5 = .ok (.aload_n 0, 1) := by decide +kernel
theorem dX3_moveAt_6 : decode cX3_moveAt 6 = .ok (.getfield 41, 3) := by decide +kernel
theorem dX3_moveAt_9 : decode cX3_moveAt 9 = .ok (.if_icmp .ge 10, 3) := by decide +kernel
theorem dX3_moveAt_12 : decode cX3_moveAt 12 = .ok (.iload_n 1, 1) := by decide +kernel
theorem dX3_moveAt_13 : decode cX3_moveAt 13 = .ok (.sipush 128, 3) := by decide +kernel
theorem dX3_moveAt_16 : decode cX3_moveAt 16 = .ok (.if_icmp .lt 6, 3) := by decide +kernel
theorem dX3_moveAt_19 : decode cX3_moveAt 19 = .ok (.bipush (-4), 2) := by decide +kernel
theorem dX3_moveAt_21 : decode cX3_moveAt 21 = .ok (.ireturn, 1) := by decide +kernel
theorem dX3_moveAt_22 : decode cX3_moveAt 22 = .ok (.iload_n 2, 1) := by decide +kernel
theorem dX3_moveAt_23 : decode cX3_moveAt 23 = .ok (.lookupswitch 46 #[(0, 25), (1, 35)], 25) := by decide +kernel
theorem dX3_moveAt_48 : decode cX3_moveAt 48 = .ok (.aload_n 0, 1) := by decide +kernel
theorem dX3_moveAt_49 : decode cX3_moveAt 49 = .ok (.getfield 35, 3) := by decide +kernel
theorem dX3_moveAt_52 : decode cX3_moveAt 52 = .ok (.iload_n 1, 1) := by decide +kernel
theorem dX3_moveAt_53 : decode cX3_moveAt 53 = .ok (.iaload, 1) := by decide +kernel
theorem dX3_moveAt_54 : decode cX3_moveAt 54 = .ok (.bipush 6, 2) := by decide +kernel
theorem dX3_moveAt_56 : decode cX3_moveAt 56 = .ok (.ishr, 1) := by decide +kernel
theorem dX3_moveAt_57 : decode cX3_moveAt 57 = .ok (.ireturn, 1) := by decide +kernel
theorem dX3_moveAt_58 : decode cX3_moveAt 58 = .ok (.aload_n 0, 1) := by decide +kernel
theorem dX3_moveAt_59 : decode cX3_moveAt 59 = .ok (.getfield 35, 3) := by decide +kernel
theorem dX3_moveAt_62 : decode cX3_moveAt 62 = .ok (.iload_n 1, 1) := by decide +kernel
theorem dX3_moveAt_63 : decode cX3_moveAt 63 = .ok (.iaload, 1) := by decide +kernel
theorem dX3_moveAt_64 : decode cX3_moveAt 64 = .ok (.iconst 4, 1) := by decide +kernel
theorem dX3_moveAt_65 : decode cX3_moveAt 65 = .ok (.ishr, 1) := by decide +kernel
theorem dX3_moveAt_66 : decode cX3_moveAt 66 = .ok (.iconst 3, 1) := by decide +kernel
theorem dX3_moveAt_67 : decode cX3_moveAt 67 = .ok (.iand, 1) := by decide +kernel
theorem dX3_moveAt_68 : decode cX3_moveAt 68 = .ok (.ireturn, 1) := by decide +kernel
theorem dX3_moveAt_69 : decode cX3_moveAt 69 = .ok (.aload_n 0, 1) := by decide +kernel
theorem dX3_moveAt_70 : decode cX3_moveAt 70 = .ok (.getfield 35, 3) := by decide +kernel
theorem dX3_moveAt_73 : decode cX3_moveAt 73 = .ok (.iload_n 1, 1) := by decide +kernel
theorem dX3_moveAt_74 : decode cX3_moveAt 74 = .ok (.iaload, 1) := by decide +kernel
theorem dX3_moveAt_75 : decode cX3_moveAt 75 = .ok (.bipush 15, 2) := by decide +kernel
theorem dX3_moveAt_77 : decode cX3_moveAt 77 = .ok (.iand, 1) := by decide +kernel
theorem dX3_moveAt_78 : decode cX3_moveAt 78 = .ok (.ireturn, 1) := by decide +kernel
set_option maxRecDepth 100000 in
set_option maxHeartbeats 4000000 in
theorem m_X3_moveAt (a1 : Int32) (a2 : Int32) (S S' : SS) (r : Int32) (h : f_X3_moveAt a1 a2 S = some (r, S')) : MT yX3_moveAt cX3_moveAt 3 (some .int) 0 0 (fun ad => [.ref (ad 9), .int a1, .int a2]) S (some (.int r)) S' := by
  refine MT.of RX3 (fun ad => [(0, .ref (ad 9)), (1, .int a1), (2, .int a2)]) (by decide) rfl (fun _ => Nat.le_of_ble_eq_true rfl) (fun _ => rfl) ?_
  intro p l e R s m args below meth c dC dI cs ad A hR1 hR2 F H locs ls w hl
  have hx := F.1.1
  have hb := F.1.2.1
  rw [f_X3_moveAt] at h
  refine lv_iload_n (pc := 0) hx hb dX3_moveAt_0 rfl (lv_at hl 1 rfl) ?_
  refine lv_if_lt (pc := 1) (tgt := 19) hx hb dX3_moveAt_1 (by decide) (fun q => ?_) (fun q => ?_)
  · have h := ite_t q h
    refine lv_bipush (pc := 19) (v := -4) hx hb dX3_moveAt_19 (by decide) ?_
    exact s_iret F w h dX3_moveAt_21
  · have h := ite_f q h
    refine lv_iload_n (pc := 4) hx hb dX3_moveAt_4 rfl (lv_at hl 1 rfl) ?_
    refine lv_aload_n (pc := 5) hx hb dX3_moveAt_5 rfl (lv_at hl 0 rfl) ?_
    refine s_getI (pc := 6) F w ds_9 (j := 7) vc_X3 vi_X3 rfl (by decide) kf_X3_41 dX3_moveAt_6 ?_
    refine lv_icmp_ge (pc := 9) (tgt := 19) hx hb dX3_moveAt_9 (by decide) (fun q => ?_) (fun q => ?_)
    · have h := ite_t q h
      refine lv_bipush (pc := 19) (v := -4) hx hb dX3_moveAt_19 (by decide) ?_
      exact s_iret F w h dX3_moveAt_21
    · have h := ite_f q h
      refine lv_iload_n (pc := 12) hx hb dX3_moveAt_12 rfl (lv_at hl 1 rfl) ?_
      refine lv_sipush (pc := 13) (v := 128) hx hb dX3_moveAt_13 (by decide) ?_
      refine lv_icmp_lt (pc := 16) (tgt := 22) hx hb dX3_moveAt_16 (by decide) (fun q => ?_) (fun q => ?_)
      · have h := ite_t q h
        refine lv_iload_n (pc := 22) hx hb dX3_moveAt_22 rfl (lv_at hl 2 rfl) ?_
        rcases Decidable.em (a2 = (0 : Int32)) with q0 | q0
        · refine lv_lookup (pc := 23) (tgt := 48) (off := 25) hx hb dX3_moveAt_23 (by decide) (by rw [q0]; decide) (by decide) ?_
          have h := ite_t q0 h
          refine lv_aload_n (pc := 48) hx hb dX3_moveAt_48 rfl (lv_at hl 0 rfl) ?_
          refine s_getR (pc := 49) F w 47 ds_9 (j := 5) vc_X3 vi_X3 rfl (by decide) kf_X3_35 dX3_moveAt_49 ?_
          refine lv_iload_n (pc := 52) hx hb dX3_moveAt_52 rfl (lv_at hl 1 rfl) ?_
          refine s_iald (pc := 53) F w ds_47 h dX3_moveAt_53 (fun h => ?_)
          refine lv_bipush (pc := 54) (v := 6) hx hb dX3_moveAt_54 (by decide) ?_
          refine lv_ishr (pc := 56) hx hb dX3_moveAt_56 ?_
          exact s_iret F w h dX3_moveAt_57
        have h := ite_f q0 h
        rcases Decidable.em (a2 = (1 : Int32)) with q1 | q1
        · refine lv_lookup (pc := 23) (tgt := 58) (off := 35) hx hb dX3_moveAt_23 (by decide) (by rw [q1]; decide) (by decide) ?_
          have h := ite_t q1 h
          refine lv_aload_n (pc := 58) hx hb dX3_moveAt_58 rfl (lv_at hl 0 rfl) ?_
          refine s_getR (pc := 59) F w 47 ds_9 (j := 5) vc_X3 vi_X3 rfl (by decide) kf_X3_35 dX3_moveAt_59 ?_
          refine lv_iload_n (pc := 62) hx hb dX3_moveAt_62 rfl (lv_at hl 1 rfl) ?_
          refine s_iald (pc := 63) F w ds_47 h dX3_moveAt_63 (fun h => ?_)
          refine lv_iconst (pc := 64) (v := 4) hx hb dX3_moveAt_64 (by decide) ?_
          refine lv_ishr (pc := 65) hx hb dX3_moveAt_65 ?_
          refine lv_iconst (pc := 66) (v := 3) hx hb dX3_moveAt_66 (by decide) ?_
          refine lv_iand (pc := 67) hx hb dX3_moveAt_67 ?_
          exact s_iret F w h dX3_moveAt_68
        have h := ite_f q1 h
        refine lv_lookup (pc := 23) (tgt := 69) (off := 46) hx hb dX3_moveAt_23 (by decide) (by show Op.lookupswitch.offset [(0, 25), (1, 35)] 46 _ = _; rw [lv_osw q0 (by decide), lv_osw q1 (by decide)]; rfl) (by decide) ?_
        refine lv_aload_n (pc := 69) hx hb dX3_moveAt_69 rfl (lv_at hl 0 rfl) ?_
        refine s_getR (pc := 70) F w 47 ds_9 (j := 5) vc_X3 vi_X3 rfl (by decide) kf_X3_35 dX3_moveAt_70 ?_
        refine lv_iload_n (pc := 73) hx hb dX3_moveAt_73 rfl (lv_at hl 1 rfl) ?_
        refine s_iald (pc := 74) F w ds_47 h dX3_moveAt_74 (fun h => ?_)
        refine lv_bipush (pc := 75) (v := 15) hx hb dX3_moveAt_75 (by decide) ?_
        refine lv_iand (pc := 77) hx hb dX3_moveAt_77 ?_
        exact s_iret F w h dX3_moveAt_78
      · have h := ite_f q h
        refine lv_bipush (pc := 19) (v := -4) hx hb dX3_moveAt_19 (by decide) ?_
        exact s_iret F w h dX3_moveAt_21
def f_X11_move (a1 : Int32) (a2 : Int32) (S : SS) : Option (Int32 × SS) :=
  if a1 < 0 then
    some ((-1 : Int32), S)
  else
    bnd (f_X11_isNot a2 (0 : Int32) (2 : Int32) S) (fun r2 S1 =>
    if r2 = 0 then
      bnd (f_X3_moveAt a1 a2 S1) (fun r4 S3 =>
      some (r4, S3))
    else
      some ((-1 : Int32), S1))
theorem dX11_move_0 : decode cX11_move 0 = .ok (.iload_n 1, 1) := by decide +kernel
theorem dX11_move_1 : decode cX11_move 1 = .ok (.ifCond .lt 12, 3) := by decide +kernel
theorem dX11_move_4 : decode cX11_move 4 = .ok (.iload_n 2, 1) := by decide +kernel
theorem dX11_move_5 : decode cX11_move 5 = .ok (.iconst 0, 1) := by decide +kernel
theorem dX11_move_6 : decode cX11_move 6 = .ok (.iconst 2, 1) := by decide +kernel
theorem dX11_move_7 : decode cX11_move 7 = .ok (.invokestatic 108, 3) := by decide +kernel
theorem dX11_move_10 : decode cX11_move 10 = .ok (.ifCond .eq 5, 3) := by decide +kernel
theorem dX11_move_13 : decode cX11_move 13 = .ok (.iconst (-1), 1) := by decide +kernel
theorem dX11_move_14 : decode cX11_move 14 = .ok (.ireturn, 1) := by decide +kernel
theorem dX11_move_15 : decode cX11_move 15 = .ok (.aload_n 0, 1) := by decide +kernel
theorem dX11_move_16 : decode cX11_move 16 = .ok (.getfield 74, 3) := by decide +kernel
theorem dX11_move_19 : decode cX11_move 19 = .ok (.iload_n 1, 1) := by decide +kernel
theorem dX11_move_20 : decode cX11_move 20 = .ok (.iload_n 2, 1) := by decide +kernel
theorem dX11_move_21 : decode cX11_move 21 = .ok (.invokevirtual 441, 3) := by decide +kernel
theorem dX11_move_24 : decode cX11_move 24 = .ok (.ireturn, 1) := by decide +kernel
set_option maxRecDepth 100000 in
set_option maxHeartbeats 4000000 in
theorem m_X11_move (a1 : Int32) (a2 : Int32) (S S' : SS) (r : Int32) (h : f_X11_move a1 a2 S = some (r, S')) : MT yX11_move cX11_move 3 (some .int) 1 22 (fun ad => [.ref (ad 0), .int a1, .int a2]) S (some (.int r)) S' := by
  refine MT.of RX11 (fun ad => [(0, .ref (ad 0)), (1, .int a1), (2, .int a2)]) (by decide) rfl (fun _ => Nat.le_of_ble_eq_true rfl) (fun _ => rfl) ?_
  intro p l e R s m args below meth c dC dI cs ad A hR1 hR2 F H locs ls w hl
  have hx := F.1.1
  have hb := F.1.2.1
  rw [f_X11_move] at h
  refine lv_iload_n (pc := 0) hx hb dX11_move_0 rfl (lv_at hl 1 rfl) ?_
  refine lv_if_lt (pc := 1) (tgt := 13) hx hb dX11_move_1 (by decide) (fun q => ?_) (fun q => ?_)
  · have h := ite_t q h
    refine lv_iconst (pc := 13) (v := -1) hx hb dX11_move_13 (by decide) ?_
    exact s_iret F w h dX11_move_14
  · have h := ite_f q h
    refine lv_iload_n (pc := 4) hx hb dX11_move_4 rfl (lv_at hl 2 rfl) ?_
    refine lv_iconst (pc := 5) (v := 0) hx hb dX11_move_5 (by decide) ?_
    refine lv_iconst (pc := 6) (v := 2) hx hb dX11_move_6 (by decide) ?_
    obtain ⟨r2, S1, hc, h⟩ := bnd_t h
    refine s_csi (pc := 7) [.int a2, .int (0 : Int32), .int (2 : Int32)] (fun ad => [.int a2, .int (0 : Int32), .int (2 : Int32)]) F w (m_X11_isNot _ _ _ _ _ _ hc) rfl rfl hl.1 ok_X11_isNot rfl kc_X11_isNot kl_X11_108 ks_X11_isNot kn_X11 ⟨Nat.le_trans (by decide) hR1, Nat.le_trans (by decide) hR2⟩ ⟨Nat.zero_le _, Nat.zero_le _⟩ (Nat.le_of_ble_eq_true rfl) dX11_move_7 (fun H locs w => ?_)
    refine lv_if_eq (pc := 10) (tgt := 15) hx hb dX11_move_10 (by decide) (fun q => ?_) (fun q => ?_)
    · have h := ite_t q h
      refine lv_aload_n (pc := 15) hx hb dX11_move_15 rfl (lv_at hl 0 rfl) ?_
      refine s_getR (pc := 16) F w 9 ds_0 (j := 8) vc_X11 vi_X11 rfl (by decide) kf_X11_74 dX11_move_16 ?_
      refine lv_iload_n (pc := 19) hx hb dX11_move_19 rfl (lv_at hl 1 rfl) ?_
      refine lv_iload_n (pc := 20) hx hb dX11_move_20 rfl (lv_at hl 2 rfl) ?_
      obtain ⟨r4, S3, hc, h⟩ := bnd_t h
      refine s_cvi (pc := 21) [.int a1, .int a2] (fun ad => [.ref (ad 9), .int a1, .int a2]) F w (m_X3_moveAt _ _ _ _ _ hc) rfl rfl hl.1 ds_9 vc_X3 rfl ok_X3_moveAt rfl kc_X3_moveAt kl_X11_441 ki_X3_moveAt kv_X3_moveAt kn_X3 ⟨Nat.le_trans (by decide) hR1, Nat.le_trans (by decide) hR2⟩ ⟨Nat.zero_le _, Nat.zero_le _⟩ (Nat.le_of_ble_eq_true rfl) dX11_move_21 (fun H locs w => ?_)
      exact s_iret F w h dX11_move_24
    · have h := ite_f q h
      refine lv_iconst (pc := 13) (v := -1) hx hb dX11_move_13 (by decide) ?_
      exact s_iret F w h dX11_move_14
def f_X12_move (a1 : Int32) (a2 : Int32) (S : SS) : Option (Int32 × SS) :=
  if a1 < 0 then
    some ((-1 : Int32), S)
  else
    if a2 < 0 then
      some ((-1 : Int32), S)
    else
      if a2 ≤ (2 : Int32) then
        if (S.1 14 76) = (-4 : Int32) then
          some ((-4 : Int32), S)
        else
          if a1 < (S.1 14 77) then
            if a2 = 0 then
              grd (inb a1 400) (
              some (S.1 118 a1.toNatClampNeg, S))
            else
              if a2 = (1 : Int32) then
                grd (inb a1 400) (
                some (S.1 119 a1.toNatClampNeg, S))
              else
                grd (inb a1 400) (
                some (S.1 120 a1.toNatClampNeg, S))
          else
            some ((-4 : Int32), S)
      else
        some ((-1 : Int32), S)
theorem dX12_move_0 : decode cX12_move 0 = .ok (.iload_n 1, 1) := by decide +kernel
theorem dX12_move_1 : decode cX12_move 1 = .ok (.ifCond .lt 12, 3) := by decide +kernel
theorem dX12_move_4 : decode cX12_move 4 = .ok (.iload_n 2, 1) := by decide +kernel
theorem dX12_move_5 : decode cX12_move 5 = .ok (.ifCond .lt 8, 3) := by decide +kernel
theorem dX12_move_8 : decode cX12_move 8 = .ok (.iload_n 2, 1) := by decide +kernel
theorem dX12_move_9 : decode cX12_move 9 = .ok (.iconst 2, 1) := by decide +kernel
theorem dX12_move_10 : decode cX12_move 10 = .ok (.if_icmp .le 5, 3) := by decide +kernel
theorem dX12_move_13 : decode cX12_move 13 = .ok (.iconst (-1), 1) := by decide +kernel
theorem dX12_move_14 : decode cX12_move 14 = .ok (.ireturn, 1) := by decide +kernel
theorem dX12_move_15 : decode cX12_move 15 = .ok (.aload_n 0, 1) := by decide +kernel
theorem dX12_move_16 : decode cX12_move 16 = .ok (.getfield 168, 3) := by decide +kernel
theorem dX12_move_19 : decode cX12_move 19 = .ok (.bipush (-4), 2) := by decide +kernel
theorem dX12_move_21 : decode cX12_move 21 = .ok (.if_icmp .eq 11, 3) := by decide +kernel
theorem dX12_move_24 : decode cX12_move 24 = .ok (.iload_n 1, 1) := by decide +kernel
theorem dX12_move_25 : decode cX12_move 25 = .ok (.aload_n 0, 1) := by decide +kernel
theorem dX12_move_26 : decode cX12_move 26 = .ok (.getfield 463, 3) := by decide +kernel
theorem dX12_move_29 : decode cX12_move 29 = .ok (.if_icmp .lt 6, 3) := by decide +kernel
theorem dX12_move_32 : decode cX12_move 32 = .ok (.bipush (-4), 2) := by decide +kernel
theorem dX12_move_34 : decode cX12_move 34 = .ok (.ireturn, 1) := by decide +kernel
theorem dX12_move_35 : decode cX12_move 35 = .ok (.iload_n 2, 1) := by decide +kernel
theorem dX12_move_36 : decode cX12_move 36 = .ok (.ifCond .ne 12, 3) := by decide +kernel
theorem dX12_move_39 : decode cX12_move 39 = .ok (.aload_n 0, 1) := by decide +kernel
theorem dX12_move_40 : decode cX12_move 40 = .ok (.getfield 171, 3) := by decide +kernel
theorem dX12_move_43 : decode cX12_move 43 = .ok (.iload_n 1, 1) := by decide +kernel
theorem dX12_move_44 : decode cX12_move 44 = .ok (.iaload, 1) := by decide +kernel
theorem dX12_move_45 : decode cX12_move 45 = .ok (.goto 23, 3) := by decide +kernel
theorem dX12_move_48 : decode cX12_move 48 = .ok (.iload_n 2, 1) := by decide +kernel
theorem dX12_move_49 : decode cX12_move 49 = .ok (.iconst 1, 1) := by decide +kernel
theorem dX12_move_50 : decode cX12_move 50 = .ok (.if_icmp .ne 12, 3) := by decide +kernel
theorem dX12_move_53 : decode cX12_move 53 = .ok (.aload_n 0, 1) := by decide +kernel
theorem dX12_move_54 : decode cX12_move 54 = .ok (.getfield 174, 3) := by decide +kernel
theorem dX12_move_57 : decode cX12_move 57 = .ok (.iload_n 1, 1) := by decide +kernel
theorem dX12_move_58 : decode cX12_move 58 = .ok (.iaload, 1) := by decide +kernel
theorem dX12_move_59 : decode cX12_move 59 = .ok (.goto 9, 3) := by decide +kernel
theorem dX12_move_62 : decode cX12_move 62 = .ok (.aload_n 0, 1) := by decide +kernel
theorem dX12_move_63 : decode cX12_move 63 = .ok (.getfield 177, 3) := by decide +kernel
theorem dX12_move_66 : decode cX12_move 66 = .ok (.iload_n 1, 1) := by decide +kernel
theorem dX12_move_67 : decode cX12_move 67 = .ok (.iaload, 1) := by decide +kernel
theorem dX12_move_68 : decode cX12_move 68 = .ok (.ireturn, 1) := by decide +kernel
set_option maxRecDepth 100000 in
set_option maxHeartbeats 4000000 in
theorem m_X12_move (a1 : Int32) (a2 : Int32) (S S' : SS) (r : Int32) (h : f_X12_move a1 a2 S = some (r, S')) : MT yX12_move cX12_move 3 (some .int) 0 0 (fun ad => [.ref (ad 14), .int a1, .int a2]) S (some (.int r)) S' := by
  refine MT.of RX12 (fun ad => [(0, .ref (ad 14)), (1, .int a1), (2, .int a2)]) (by decide) rfl (fun _ => Nat.le_of_ble_eq_true rfl) (fun _ => rfl) ?_
  intro p l e R s m args below meth c dC dI cs ad A hR1 hR2 F H locs ls w hl
  have hx := F.1.1
  have hb := F.1.2.1
  rw [f_X12_move] at h
  refine lv_iload_n (pc := 0) hx hb dX12_move_0 rfl (lv_at hl 1 rfl) ?_
  refine lv_if_lt (pc := 1) (tgt := 13) hx hb dX12_move_1 (by decide) (fun q => ?_) (fun q => ?_)
  · have h := ite_t q h
    refine lv_iconst (pc := 13) (v := -1) hx hb dX12_move_13 (by decide) ?_
    exact s_iret F w h dX12_move_14
  · have h := ite_f q h
    refine lv_iload_n (pc := 4) hx hb dX12_move_4 rfl (lv_at hl 2 rfl) ?_
    refine lv_if_lt (pc := 5) (tgt := 13) hx hb dX12_move_5 (by decide) (fun q => ?_) (fun q => ?_)
    · have h := ite_t q h
      refine lv_iconst (pc := 13) (v := -1) hx hb dX12_move_13 (by decide) ?_
      exact s_iret F w h dX12_move_14
    · have h := ite_f q h
      refine lv_iload_n (pc := 8) hx hb dX12_move_8 rfl (lv_at hl 2 rfl) ?_
      refine lv_iconst (pc := 9) (v := 2) hx hb dX12_move_9 (by decide) ?_
      refine lv_icmp_le (pc := 10) (tgt := 15) hx hb dX12_move_10 (by decide) (fun q => ?_) (fun q => ?_)
      · have h := ite_t q h
        refine lv_aload_n (pc := 15) hx hb dX12_move_15 rfl (lv_at hl 0 rfl) ?_
        refine s_getI (pc := 16) F w ds_14 (j := 76) vc_X12 vi_X12 rfl (by decide) kf_X12_168 dX12_move_16 ?_
        refine lv_bipush (pc := 19) (v := -4) hx hb dX12_move_19 (by decide) ?_
        refine lv_icmp_eq (pc := 21) (tgt := 32) hx hb dX12_move_21 (by decide) (fun q => ?_) (fun q => ?_)
        · have h := ite_t q h
          refine lv_bipush (pc := 32) (v := -4) hx hb dX12_move_32 (by decide) ?_
          exact s_iret F w h dX12_move_34
        · have h := ite_f q h
          refine lv_iload_n (pc := 24) hx hb dX12_move_24 rfl (lv_at hl 1 rfl) ?_
          refine lv_aload_n (pc := 25) hx hb dX12_move_25 rfl (lv_at hl 0 rfl) ?_
          refine s_getI (pc := 26) F w ds_14 (j := 77) vc_X12 vi_X12 rfl (by decide) kf_X12_463 dX12_move_26 ?_
          refine lv_icmp_lt (pc := 29) (tgt := 35) hx hb dX12_move_29 (by decide) (fun q => ?_) (fun q => ?_)
          · have h := ite_t q h
            refine lv_iload_n (pc := 35) hx hb dX12_move_35 rfl (lv_at hl 2 rfl) ?_
            refine lv_if_ne (pc := 36) (tgt := 48) hx hb dX12_move_36 (by decide) (fun q => ?_) (fun q => ?_)
            · have h := ite_f q h
              refine lv_iload_n (pc := 48) hx hb dX12_move_48 rfl (lv_at hl 2 rfl) ?_
              refine lv_iconst (pc := 49) (v := 1) hx hb dX12_move_49 (by decide) ?_
              refine lv_icmp_ne (pc := 50) (tgt := 62) hx hb dX12_move_50 (by decide) (fun q => ?_) (fun q => ?_)
              · have h := ite_f q h
                refine lv_aload_n (pc := 62) hx hb dX12_move_62 rfl (lv_at hl 0 rfl) ?_
                refine s_getR (pc := 63) F w 120 ds_14 (j := 80) vc_X12 vi_X12 rfl (by decide) kf_X12_177 dX12_move_63 ?_
                refine lv_iload_n (pc := 66) hx hb dX12_move_66 rfl (lv_at hl 1 rfl) ?_
                refine s_iald (pc := 67) F w ds_120 h dX12_move_67 (fun h => ?_)
                exact s_iret F w h dX12_move_68
              · have h := ite_t q h
                refine lv_aload_n (pc := 53) hx hb dX12_move_53 rfl (lv_at hl 0 rfl) ?_
                refine s_getR (pc := 54) F w 119 ds_14 (j := 79) vc_X12 vi_X12 rfl (by decide) kf_X12_174 dX12_move_54 ?_
                refine lv_iload_n (pc := 57) hx hb dX12_move_57 rfl (lv_at hl 1 rfl) ?_
                refine s_iald (pc := 58) F w ds_119 h dX12_move_58 (fun h => ?_)
                refine lv_goto (pc := 59) (tgt := 68) hx hb dX12_move_59 (by decide) ?_
                exact s_iret F w h dX12_move_68
            · have h := ite_t q h
              refine lv_aload_n (pc := 39) hx hb dX12_move_39 rfl (lv_at hl 0 rfl) ?_
              refine s_getR (pc := 40) F w 118 ds_14 (j := 78) vc_X12 vi_X12 rfl (by decide) kf_X12_171 dX12_move_40 ?_
              refine lv_iload_n (pc := 43) hx hb dX12_move_43 rfl (lv_at hl 1 rfl) ?_
              refine s_iald (pc := 44) F w ds_118 h dX12_move_44 (fun h => ?_)
              refine lv_goto (pc := 45) (tgt := 68) hx hb dX12_move_45 (by decide) ?_
              exact s_iret F w h dX12_move_68
          · have h := ite_f q h
            refine lv_bipush (pc := 32) (v := -4) hx hb dX12_move_32 (by decide) ?_
            exact s_iret F w h dX12_move_34
      · have h := ite_f q h
        refine lv_iconst (pc := 13) (v := -1) hx hb dX12_move_13 (by decide) ?_
        exact s_iret F w h dX12_move_14
def f_X7_members_goal_L11 (K4 : Int32 → Int32 → SS → Option (Int32 × SS)) : Nat → Int32 → Int32 → Int32 → SS → Option (Int32 × SS)
  | 0, _, _, _, _ => none
  | n + 1, x1, x2, x3, S =>
    grd (inb x2 4) (
    if (S.1 65 x2.toNatClampNeg) ≤ x3 then
      nm (x2 + (1 : Int32)) (fun z1 =>
      K4 x1 z1 S)
    else
      bnd (f_X7_wagonAt_goal x2 x3 S) (fun r3 S2 =>
      nm (x1 ||| ((1 : Int32) <<< (r3 &&& 31))) (fun z4 =>
      nm (x3 + (1 : Int32)) (fun z5 =>
      f_X7_members_goal_L11 K4 n z4 x2 z5 S2))))
def f_X7_members_goal_L4  : Nat → Int32 → Int32 → SS → Option (Int32 × SS)
  | 0, _, _, _ => none
  | n + 1, x1, x2, S =>
    if (4 : Int32) ≤ x2 then
      some (x1, S)
    else
      f_X7_members_goal_L11 (fun v0 v1 S => f_X7_members_goal_L4 n v0 v1 S) NF x1 x2 (0 : Int32) S
def f_X7_members_goal  (S : SS) : Option (Int32 × SS) :=
  f_X7_members_goal_L4 NF (0 : Int32) (0 : Int32) S
set_option maxRecDepth 100000 in
set_option maxHeartbeats 4000000 in
theorem w_X7_members_goal_L11 {p : Program} {l : Launch} {e : Env} {R : Room} {s : State} {m : MethodId} {args : Array Value} {below : List Frame} {meth : Method} {c : Code} {dC : Nat → ClassId} {dI : Nat → Nat → Nat} {cs : Nat → ClassId} {ad : Nat → Nat} {A : Nat → Prop} {D0 : Nat → Nat} {S' : SS} {r : Int32} (F : Fx p s m args meth c cX7_members 4 RX7 (some .int) dC dI cs A) (hR1 : 1 ≤ R.frames) (hR2 : 23 ≤ R.locals) (K4 : Int32 → Int32 → SS → Option (Int32 × SS)) (hK4 : ∀ (v0 : Int32) (v1 : Int32) (S : SS), K4 v0 v1 S = some (r, S') → AW p l e R s m args below meth c dC dI cs ad A D0 (some (.int r)) S' 4 4 [(0, .ref (ad 12)), (1, .int v0), (2, .int v1)] [] S) : ∀ (n : Nat) (x1 : Int32) (x2 : Int32) (x3 : Int32) (S : SS), f_X7_members_goal_L11 K4 n x1 x2 x3 S = some (r, S') → AW p l e R s m args below meth c dC dI cs ad A D0 (some (.int r)) S' 4 11 [(0, .ref (ad 12)), (1, .int x1), (2, .int x2), (3, .int x3)] [] S := by
  have hx := F.1.1
  have hb := F.1.2.1
  intro n
  induction n with
  | zero => intro x1 x2 x3 S h; cases h
  | succ n ih =>
    intro x1 x2 x3 S h H locs ls w hl
    rw [f_X7_members_goal_L11] at h
    refine lv_iload_n (pc := 11) hx hb dX7_members_11 rfl (lv_at hl 3 rfl) ?_
    refine lv_aload_n (pc := 12) hx hb dX7_members_12 rfl (lv_at hl 0 rfl) ?_
    refine s_getR (pc := 13) F w 65 ds_12 (j := 1) vc_X7 vi_X7 rfl (by decide) kf_X7_15 dX7_members_13 ?_
    refine lv_iload_n (pc := 16) hx hb dX7_members_16 rfl (lv_at hl 2 rfl) ?_
    refine s_iald (pc := 17) F w ds_65 h dX7_members_17 (fun h => ?_)
    refine lv_icmp_ge (pc := 18) (tgt := 38) hx hb dX7_members_18 (by decide) (fun q => ?_) (fun q => ?_)
    · have h := ite_t q h
      refine s_nm h (fun z1 ez1 h => ?_)
      refine lv_iinc (pc := 38) (v := z1) (lv' := [(2, .int z1), (0, .ref (ad 12)), (1, .int x1), (3, .int x3)]) hx hb dX7_members_38 hl (k := 2) rfl (by rw [ez1]; rfl) (by decide) rfl (fun ls hl => ?_)
      refine lv_goto (pc := 41) (tgt := 4) hx hb dX7_members_41 (by decide) ?_
      exact hK4 _ _ _ h _ _ _ w (lv_sub hl [1, 2, 0] rfl)
    · have h := ite_f q h
      refine lv_iload_n (pc := 21) hx hb dX7_members_21 rfl (lv_at hl 1 rfl) ?_
      refine lv_iconst (pc := 22) (v := 1) hx hb dX7_members_22 (by decide) ?_
      refine lv_aload_n (pc := 23) hx hb dX7_members_23 rfl (lv_at hl 0 rfl) ?_
      refine lv_iload_n (pc := 24) hx hb dX7_members_24 rfl (lv_at hl 2 rfl) ?_
      refine lv_iload_n (pc := 25) hx hb dX7_members_25 rfl (lv_at hl 3 rfl) ?_
      obtain ⟨r3, S2, hc, h⟩ := bnd_t h
      refine s_cvi (pc := 26) [.int x2, .int x3] (fun ad => [.ref (ad 12), .int x2, .int x3]) F w (m_X7_wagonAt_goal _ _ _ _ _ hc) rfl rfl hl.1 ds_12 vc_X7 rfl ok_X7_wagonAt rfl kc_X7_wagonAt kl_X7_34 ki_X7_wagonAt kv_X7_wagonAt kn_X7 ⟨Nat.le_trans (by decide) hR1, Nat.le_trans (by decide) hR2⟩ ⟨Nat.zero_le _, Nat.zero_le _⟩ (Nat.le_of_ble_eq_true rfl) dX7_members_26 (fun H locs w => ?_)
      refine lv_ishl (pc := 29) hx hb dX7_members_29 ?_
      refine lv_ior (pc := 30) hx hb dX7_members_30 ?_
      refine s_nm h (fun z4 ez4 h => ?_)
      rw [← ez4]
      refine lv_istore_n (pc := 31) (lv' := [(1, .int z4), (0, .ref (ad 12)), (2, .int x2), (3, .int x3)]) hx hb dX7_members_31 rfl hl (by decide) rfl (fun ls hl => ?_)
      refine s_nm h (fun z5 ez5 h => ?_)
      refine lv_iinc (pc := 32) (v := z5) (lv' := [(3, .int z5), (1, .int z4), (0, .ref (ad 12)), (2, .int x2)]) hx hb dX7_members_32 hl (k := 3) rfl (by rw [ez5]; rfl) (by decide) rfl (fun ls hl => ?_)
      refine lv_goto (pc := 35) (tgt := 11) hx hb dX7_members_35 (by decide) ?_
      exact ih _ _ _ _ h _ _ _ w (lv_sub hl [2, 1, 3, 0] rfl)
set_option maxRecDepth 100000 in
set_option maxHeartbeats 4000000 in
theorem w_X7_members_goal_L4 {p : Program} {l : Launch} {e : Env} {R : Room} {s : State} {m : MethodId} {args : Array Value} {below : List Frame} {meth : Method} {c : Code} {dC : Nat → ClassId} {dI : Nat → Nat → Nat} {cs : Nat → ClassId} {ad : Nat → Nat} {A : Nat → Prop} {D0 : Nat → Nat} {S' : SS} {r : Int32} (F : Fx p s m args meth c cX7_members 4 RX7 (some .int) dC dI cs A) (hR1 : 1 ≤ R.frames) (hR2 : 23 ≤ R.locals) : ∀ (n : Nat) (x1 : Int32) (x2 : Int32) (S : SS), f_X7_members_goal_L4 n x1 x2 S = some (r, S') → AW p l e R s m args below meth c dC dI cs ad A D0 (some (.int r)) S' 4 4 [(0, .ref (ad 12)), (1, .int x1), (2, .int x2)] [] S := by
  have hx := F.1.1
  have hb := F.1.2.1
  intro n
  induction n with
  | zero => intro x1 x2 S h; cases h
  | succ n ih =>
    intro x1 x2 S h H locs ls w hl
    rw [f_X7_members_goal_L4] at h
    refine lv_iload_n (pc := 4) hx hb dX7_members_4 rfl (lv_at hl 2 rfl) ?_
    refine lv_iconst (pc := 5) (v := 4) hx hb dX7_members_5 (by decide) ?_
    refine lv_icmp_ge (pc := 6) (tgt := 44) hx hb dX7_members_6 (by decide) (fun q => ?_) (fun q => ?_)
    · have h := ite_t q h
      refine lv_iload_n (pc := 44) hx hb dX7_members_44 rfl (lv_at hl 1 rfl) ?_
      exact s_iret F w h dX7_members_45
    · have h := ite_f q h
      refine lv_iconst (pc := 9) (v := 0) hx hb dX7_members_9 (by decide) ?_
      refine lv_istore_n (pc := 10) (lv' := [(3, .int (0 : Int32)), (0, .ref (ad 12)), (1, .int x1), (2, .int x2)]) hx hb dX7_members_10 rfl hl (by decide) rfl (fun ls hl => ?_)
      exact w_X7_members_goal_L11 F (Nat.le_trans (by decide) hR1) (Nat.le_trans (by decide) hR2) _ (fun v0 v1 S h => ih v0 v1 S h) _ _ _ _ _ h _ _ _ w (lv_sub hl [1, 2, 3, 0] rfl)
set_option maxRecDepth 100000 in
set_option maxHeartbeats 4000000 in
theorem m_X7_members_goal  (S S' : SS) (r : Int32) (h : f_X7_members_goal  S = some (r, S')) : MT yX7_members cX7_members 4 (some .int) 1 23 (fun ad => [.ref (ad 12)]) S (some (.int r)) S' := by
  refine MT.of RX7 (fun ad => [(0, .ref (ad 12))]) (by decide) rfl (fun _ => Nat.le_of_ble_eq_true rfl) (fun _ => rfl) ?_
  intro p l e R s m args below meth c dC dI cs ad A hR1 hR2 F H locs ls w hl
  have hx := F.1.1
  have hb := F.1.2.1
  rw [f_X7_members_goal] at h
  refine lv_iconst (pc := 0) (v := 0) hx hb dX7_members_0 (by decide) ?_
  refine lv_istore_n (pc := 1) (lv' := [(1, .int (0 : Int32)), (0, .ref (ad 12))]) hx hb dX7_members_1 rfl hl (by decide) rfl (fun ls hl => ?_)
  refine lv_iconst (pc := 2) (v := 0) hx hb dX7_members_2 (by decide) ?_
  refine lv_istore_n (pc := 3) (lv' := [(2, .int (0 : Int32)), (1, .int (0 : Int32)), (0, .ref (ad 12))]) hx hb dX7_members_3 rfl hl (by decide) rfl (fun ls hl => ?_)
  exact w_X7_members_goal_L4 F (Nat.le_trans (by decide) hR1) (Nat.le_trans (by decide) hR2) _ _ _ _ h _ _ _ w (lv_sub hl [2, 1, 0] rfl)
def f_X3_haveSameWagons  (S : SS) : Option (Int32 × SS) :=
  bnd (f_X7_members_start  S) (fun r2 S1 =>
  bnd (f_X7_members_goal  S1) (fun r4 S3 =>
  if r2 = r4 then
    some ((1 : Int32), S3)
  else
    some ((0 : Int32), S3)))
theorem dX3_haveSameWagons_0 : decode cX3_haveSameWagons 0 = .ok (.aload_n 0, 1) := by decide +kernel
theorem dX3_haveSameWagons_1 : decode cX3_haveSameWagons 1 = .ok (.getfield 12, 3) := by decide +kernel
theorem dX3_haveSameWagons_4 : decode cX3_haveSameWagons 4 = .ok (.invokevirtual 65, 3) := by decide +kernel
theorem dX3_haveSameWagons_7 : decode cX3_haveSameWagons 7 = .ok (.aload_n 0, 1) := by decide +kernel
theorem dX3_haveSameWagons_8 : decode cX3_haveSameWagons 8 = .ok (.getfield 18, 3) := by decide +kernel
theorem dX3_haveSameWagons_11 : decode cX3_haveSameWagons 11 = .ok (.invokevirtual 65, 3) := by decide +kernel
theorem dX3_haveSameWagons_14 : decode cX3_haveSameWagons 14 = .ok (.if_icmp .ne 7, 3) := by decide +kernel
theorem dX3_haveSameWagons_17 : decode cX3_haveSameWagons 17 = .ok (.iconst 1, 1) := by decide +kernel
theorem dX3_haveSameWagons_18 : decode cX3_haveSameWagons 18 = .ok (.goto 4, 3) := by decide +kernel
theorem dX3_haveSameWagons_21 : decode cX3_haveSameWagons 21 = .ok (.iconst 0, 1) := by decide +kernel
theorem dX3_haveSameWagons_22 : decode cX3_haveSameWagons 22 = .ok (.ireturn, 1) := by decide +kernel
set_option maxRecDepth 100000 in
set_option maxHeartbeats 4000000 in
theorem m_X3_haveSameWagons  (S S' : SS) (r : Int32) (h : f_X3_haveSameWagons  S = some (r, S')) : MT yX3_haveSameWagons cX3_haveSameWagons 1 (some .boolean) 2 46 (fun ad => [.ref (ad 9)]) S (some (.int r)) S' := by
  refine MT.of RX3 (fun ad => [(0, .ref (ad 9))]) (by decide) rfl (fun _ => Nat.le_of_ble_eq_true rfl) (fun _ => rfl) ?_
  intro p l e R s m args below meth c dC dI cs ad A hR1 hR2 F H locs ls w hl
  have hx := F.1.1
  have hb := F.1.2.1
  rw [f_X3_haveSameWagons] at h
  refine lv_aload_n (pc := 0) hx hb dX3_haveSameWagons_0 rfl (lv_at hl 0 rfl) ?_
  refine s_getR (pc := 1) F w 11 ds_9 (j := 0) vc_X3 vi_X3 rfl (by decide) kf_X3_12 dX3_haveSameWagons_1 ?_
  obtain ⟨r2, S1, hc, h⟩ := bnd_t h
  refine s_cvi (pc := 4) [] (fun ad => [.ref (ad 11)]) F w (m_X7_members_start  _ _ _ hc) rfl rfl hl.1 ds_11 vc_X7 rfl ok_X7_members rfl kc_X7_members kl_X3_65 ki_X7_members kv_X7_members kn_X7 ⟨Nat.le_trans (by decide) hR1, Nat.le_trans (by decide) hR2⟩ ⟨Nat.zero_le _, Nat.zero_le _⟩ (Nat.le_of_ble_eq_true rfl) dX3_haveSameWagons_4 (fun H locs w => ?_)
  refine lv_aload_n (pc := 7) hx hb dX3_haveSameWagons_7 rfl (lv_at hl 0 rfl) ?_
  refine s_getR (pc := 8) F w 12 ds_9 (j := 1) vc_X3 vi_X3 rfl (by decide) kf_X3_18 dX3_haveSameWagons_8 ?_
  obtain ⟨r4, S3, hc, h⟩ := bnd_t h
  refine s_cvi (pc := 11) [] (fun ad => [.ref (ad 12)]) F w (m_X7_members_goal  _ _ _ hc) rfl rfl hl.1 ds_12 vc_X7 rfl ok_X7_members rfl kc_X7_members kl_X3_65 ki_X7_members kv_X7_members kn_X7 ⟨Nat.le_trans (by decide) hR1, Nat.le_trans (by decide) hR2⟩ ⟨Nat.zero_le _, Nat.zero_le _⟩ (Nat.le_of_ble_eq_true rfl) dX3_haveSameWagons_11 (fun H locs w => ?_)
  refine lv_icmp_ne (pc := 14) (tgt := 21) hx hb dX3_haveSameWagons_14 (by decide) (fun q => ?_) (fun q => ?_)
  · have h := ite_f q h
    refine lv_iconst (pc := 21) (v := 0) hx hb dX3_haveSameWagons_21 (by decide) ?_
    exact s_zretc F w rfl h dX3_haveSameWagons_22
  · have h := ite_t q h
    refine lv_iconst (pc := 17) (v := 1) hx hb dX3_haveSameWagons_17 (by decide) ?_
    refine lv_goto (pc := 18) (tgt := 22) hx hb dX3_haveSameWagons_18 (by decide) ?_
    exact s_zretc F w rfl h dX3_haveSameWagons_22
def f_X7_below_start (a1 : Int32) (S : SS) : Option (Int32 × SS) :=
  bnd (f_X7_stackOf_start a1 S) (fun r2 S1 =>
  bnd (f_X7_placeOn_start r2 a1 S1) (fun r4 S3 =>
  if r4 ≤ 0 then
    some ((10 : Int32) + r2, S3)
  else
    bnd (f_X7_wagonAt_start r2 (r4 - (1 : Int32)) S3) (fun r6 S5 =>
    some (r6, S5))))
theorem dX7_below_0 : decode cX7_below 0 = .ok (.aload_n 0, 1) := by decide +kernel
theorem dX7_below_1 : decode cX7_below 1 = .ok (.iload_n 1, 1) := by decide +kernel
theorem dX7_below_2 : decode cX7_below 2 = .ok (.invokevirtual 41, 3) := by decide +kernel
theorem dX7_below_5 : decode cX7_below 5 = .ok (.istore_n 2, 1) := by decide +kernel
theorem dX7_below_6 : decode cX7_below 6 = .ok (.aload_n 0, 1) := by decide +kernel
theorem dX7_below_7 : decode cX7_below 7 = .ok (.iload_n 2, 1) := by decide +kernel
theorem dX7_below_8 : decode cX7_below 8 = .ok (.iload_n 1, 1) := by decide +kernel
theorem dX7_below_9 : decode cX7_below 9 = .ok (.invokevirtual 38, 3) := by decide +kernel
theorem dX7_below_12 : decode cX7_below 12 = .ok (.istore_n 3, 1) := by decide +kernel
theorem dX7_below_13 : decode cX7_below 13 = .ok (.iload_n 3, 1) := by decide +kernel
theorem dX7_below_14 : decode cX7_below 14 = .ok (.ifCond .le 14, 3) := by decide +kernel
theorem dX7_below_17 : decode cX7_below 17 = .ok (.aload_n 0, 1) := by decide +kernel
theorem dX7_below_18 : decode cX7_below 18 = .ok (.iload_n 2, 1) := by decide +kernel
theorem dX7_below_19 : decode cX7_below 19 = .ok (.iload_n 3, 1) := by decide +kernel
theorem dX7_below_20 : decode cX7_below 20 = .ok (.iconst 1, 1) := by decide +kernel
theorem dX7_below_21 : decode cX7_below 21 = .ok (.isub, 1) := by decide +kernel
theorem dX7_below_22 : decode cX7_below 22 = .ok (.invokevirtual 34, 3) := by decide +kernel
theorem dX7_below_25 : decode cX7_below 25 = .ok (.goto 7, 3) := by decide +kernel
theorem dX7_below_28 : decode cX7_below 28 = .ok (.bipush 10, 2) := by decide +kernel
theorem dX7_below_30 : decode cX7_below 30 = .ok (.iload_n 2, 1) := by decide +kernel
theorem dX7_below_31 : decode cX7_below 31 = .ok (.iadd, 1) := by decide +kernel
theorem dX7_below_32 : decode cX7_below 32 = .ok (.ireturn, 1) := by decide +kernel
set_option maxRecDepth 100000 in
set_option maxHeartbeats 4000000 in
theorem m_X7_below_start (a1 : Int32) (S S' : SS) (r : Int32) (h : f_X7_below_start a1 S = some (r, S')) : MT yX7_below cX7_below 4 (some .int) 3 68 (fun ad => [.ref (ad 11), .int a1]) S (some (.int r)) S' := by
  refine MT.of RX7 (fun ad => [(0, .ref (ad 11)), (1, .int a1)]) (by decide) rfl (fun _ => Nat.le_of_ble_eq_true rfl) (fun _ => rfl) ?_
  intro p l e R s m args below meth c dC dI cs ad A hR1 hR2 F H locs ls w hl
  have hx := F.1.1
  have hb := F.1.2.1
  rw [f_X7_below_start] at h
  refine lv_aload_n (pc := 0) hx hb dX7_below_0 rfl (lv_at hl 0 rfl) ?_
  refine lv_iload_n (pc := 1) hx hb dX7_below_1 rfl (lv_at hl 1 rfl) ?_
  obtain ⟨r2, S1, hc, h⟩ := bnd_t h
  refine s_cvi (pc := 2) [.int a1] (fun ad => [.ref (ad 11), .int a1]) F w (m_X7_stackOf_start _ _ _ _ hc) rfl rfl hl.1 ds_11 vc_X7 rfl ok_X7_stackOf rfl kc_X7_stackOf kl_X7_41 ki_X7_stackOf kv_X7_stackOf kn_X7 ⟨Nat.le_trans (by decide) hR1, Nat.le_trans (by decide) hR2⟩ ⟨Nat.zero_le _, Nat.zero_le _⟩ (Nat.le_of_ble_eq_true rfl) dX7_below_2 (fun H locs w => ?_)
  refine lv_istore_n (pc := 5) (lv' := [(2, .int r2), (0, .ref (ad 11)), (1, .int a1)]) hx hb dX7_below_5 rfl hl (by decide) rfl (fun ls hl => ?_)
  refine lv_aload_n (pc := 6) hx hb dX7_below_6 rfl (lv_at hl 1 rfl) ?_
  refine lv_iload_n (pc := 7) hx hb dX7_below_7 rfl (lv_at hl 0 rfl) ?_
  refine lv_iload_n (pc := 8) hx hb dX7_below_8 rfl (lv_at hl 2 rfl) ?_
  obtain ⟨r4, S3, hc, h⟩ := bnd_t h
  refine s_cvi (pc := 9) [.int r2, .int a1] (fun ad => [.ref (ad 11), .int r2, .int a1]) F w (m_X7_placeOn_start _ _ _ _ _ hc) rfl rfl hl.1 ds_11 vc_X7 rfl ok_X7_placeOn rfl kc_X7_placeOn kl_X7_38 ki_X7_placeOn kv_X7_placeOn kn_X7 ⟨Nat.le_trans (by decide) hR1, Nat.le_trans (by decide) hR2⟩ ⟨Nat.zero_le _, Nat.zero_le _⟩ (Nat.le_of_ble_eq_true rfl) dX7_below_9 (fun H locs w => ?_)
  refine lv_istore_n (pc := 12) (lv' := [(3, .int r4), (2, .int r2), (0, .ref (ad 11)), (1, .int a1)]) hx hb dX7_below_12 rfl hl (by decide) rfl (fun ls hl => ?_)
  refine lv_iload_n (pc := 13) hx hb dX7_below_13 rfl (lv_at hl 0 rfl) ?_
  refine lv_if_le (pc := 14) (tgt := 28) hx hb dX7_below_14 (by decide) (fun q => ?_) (fun q => ?_)
  · have h := ite_t q h
    refine lv_bipush (pc := 28) (v := 10) hx hb dX7_below_28 (by decide) ?_
    refine lv_iload_n (pc := 30) hx hb dX7_below_30 rfl (lv_at hl 1 rfl) ?_
    refine lv_iadd (pc := 31) hx hb dX7_below_31 ?_
    exact s_iret F w h dX7_below_32
  · have h := ite_f q h
    refine lv_aload_n (pc := 17) hx hb dX7_below_17 rfl (lv_at hl 2 rfl) ?_
    refine lv_iload_n (pc := 18) hx hb dX7_below_18 rfl (lv_at hl 1 rfl) ?_
    refine lv_iload_n (pc := 19) hx hb dX7_below_19 rfl (lv_at hl 0 rfl) ?_
    refine lv_iconst (pc := 20) (v := 1) hx hb dX7_below_20 (by decide) ?_
    refine lv_isub (pc := 21) hx hb dX7_below_21 ?_
    obtain ⟨r6, S5, hc, h⟩ := bnd_t h
    refine s_cvi (pc := 22) [.int r2, .int (r4 - (1 : Int32))] (fun ad => [.ref (ad 11), .int r2, .int (r4 - (1 : Int32))]) F w (m_X7_wagonAt_start _ _ _ _ _ hc) rfl rfl hl.1 ds_11 vc_X7 rfl ok_X7_wagonAt rfl kc_X7_wagonAt kl_X7_34 ki_X7_wagonAt kv_X7_wagonAt kn_X7 ⟨Nat.le_trans (by decide) hR1, Nat.le_trans (by decide) hR2⟩ ⟨Nat.zero_le _, Nat.zero_le _⟩ (Nat.le_of_ble_eq_true rfl) dX7_below_22 (fun H locs w => ?_)
    refine lv_goto (pc := 25) (tgt := 32) hx hb dX7_below_25 (by decide) ?_
    exact s_iret F w h dX7_below_32
def f_X7_below_goal (a1 : Int32) (S : SS) : Option (Int32 × SS) :=
  bnd (f_X7_stackOf_goal a1 S) (fun r2 S1 =>
  bnd (f_X7_placeOn_goal r2 a1 S1) (fun r4 S3 =>
  if r4 ≤ 0 then
    some ((10 : Int32) + r2, S3)
  else
    bnd (f_X7_wagonAt_goal r2 (r4 - (1 : Int32)) S3) (fun r6 S5 =>
    some (r6, S5))))
set_option maxRecDepth 100000 in
set_option maxHeartbeats 4000000 in
theorem m_X7_below_goal (a1 : Int32) (S S' : SS) (r : Int32) (h : f_X7_below_goal a1 S = some (r, S')) : MT yX7_below cX7_below 4 (some .int) 3 68 (fun ad => [.ref (ad 12), .int a1]) S (some (.int r)) S' := by
  refine MT.of RX7 (fun ad => [(0, .ref (ad 12)), (1, .int a1)]) (by decide) rfl (fun _ => Nat.le_of_ble_eq_true rfl) (fun _ => rfl) ?_
  intro p l e R s m args below meth c dC dI cs ad A hR1 hR2 F H locs ls w hl
  have hx := F.1.1
  have hb := F.1.2.1
  rw [f_X7_below_goal] at h
  refine lv_aload_n (pc := 0) hx hb dX7_below_0 rfl (lv_at hl 0 rfl) ?_
  refine lv_iload_n (pc := 1) hx hb dX7_below_1 rfl (lv_at hl 1 rfl) ?_
  obtain ⟨r2, S1, hc, h⟩ := bnd_t h
  refine s_cvi (pc := 2) [.int a1] (fun ad => [.ref (ad 12), .int a1]) F w (m_X7_stackOf_goal _ _ _ _ hc) rfl rfl hl.1 ds_12 vc_X7 rfl ok_X7_stackOf rfl kc_X7_stackOf kl_X7_41 ki_X7_stackOf kv_X7_stackOf kn_X7 ⟨Nat.le_trans (by decide) hR1, Nat.le_trans (by decide) hR2⟩ ⟨Nat.zero_le _, Nat.zero_le _⟩ (Nat.le_of_ble_eq_true rfl) dX7_below_2 (fun H locs w => ?_)
  refine lv_istore_n (pc := 5) (lv' := [(2, .int r2), (0, .ref (ad 12)), (1, .int a1)]) hx hb dX7_below_5 rfl hl (by decide) rfl (fun ls hl => ?_)
  refine lv_aload_n (pc := 6) hx hb dX7_below_6 rfl (lv_at hl 1 rfl) ?_
  refine lv_iload_n (pc := 7) hx hb dX7_below_7 rfl (lv_at hl 0 rfl) ?_
  refine lv_iload_n (pc := 8) hx hb dX7_below_8 rfl (lv_at hl 2 rfl) ?_
  obtain ⟨r4, S3, hc, h⟩ := bnd_t h
  refine s_cvi (pc := 9) [.int r2, .int a1] (fun ad => [.ref (ad 12), .int r2, .int a1]) F w (m_X7_placeOn_goal _ _ _ _ _ hc) rfl rfl hl.1 ds_12 vc_X7 rfl ok_X7_placeOn rfl kc_X7_placeOn kl_X7_38 ki_X7_placeOn kv_X7_placeOn kn_X7 ⟨Nat.le_trans (by decide) hR1, Nat.le_trans (by decide) hR2⟩ ⟨Nat.zero_le _, Nat.zero_le _⟩ (Nat.le_of_ble_eq_true rfl) dX7_below_9 (fun H locs w => ?_)
  refine lv_istore_n (pc := 12) (lv' := [(3, .int r4), (2, .int r2), (0, .ref (ad 12)), (1, .int a1)]) hx hb dX7_below_12 rfl hl (by decide) rfl (fun ls hl => ?_)
  refine lv_iload_n (pc := 13) hx hb dX7_below_13 rfl (lv_at hl 0 rfl) ?_
  refine lv_if_le (pc := 14) (tgt := 28) hx hb dX7_below_14 (by decide) (fun q => ?_) (fun q => ?_)
  · have h := ite_t q h
    refine lv_bipush (pc := 28) (v := 10) hx hb dX7_below_28 (by decide) ?_
    refine lv_iload_n (pc := 30) hx hb dX7_below_30 rfl (lv_at hl 1 rfl) ?_
    refine lv_iadd (pc := 31) hx hb dX7_below_31 ?_
    exact s_iret F w h dX7_below_32
  · have h := ite_f q h
    refine lv_aload_n (pc := 17) hx hb dX7_below_17 rfl (lv_at hl 2 rfl) ?_
    refine lv_iload_n (pc := 18) hx hb dX7_below_18 rfl (lv_at hl 1 rfl) ?_
    refine lv_iload_n (pc := 19) hx hb dX7_below_19 rfl (lv_at hl 0 rfl) ?_
    refine lv_iconst (pc := 20) (v := 1) hx hb dX7_below_20 (by decide) ?_
    refine lv_isub (pc := 21) hx hb dX7_below_21 ?_
    obtain ⟨r6, S5, hc, h⟩ := bnd_t h
    refine s_cvi (pc := 22) [.int r2, .int (r4 - (1 : Int32))] (fun ad => [.ref (ad 12), .int r2, .int (r4 - (1 : Int32))]) F w (m_X7_wagonAt_goal _ _ _ _ _ hc) rfl rfl hl.1 ds_12 vc_X7 rfl ok_X7_wagonAt rfl kc_X7_wagonAt kl_X7_34 ki_X7_wagonAt kv_X7_wagonAt kn_X7 ⟨Nat.le_trans (by decide) hR1, Nat.le_trans (by decide) hR2⟩ ⟨Nat.zero_le _, Nat.zero_le _⟩ (Nat.le_of_ble_eq_true rfl) dX7_below_22 (fun H locs w => ?_)
    refine lv_goto (pc := 25) (tgt := 32) hx hb dX7_below_25 (by decide) ?_
    exact s_iret F w h dX7_below_32
def f_X3_countMoved_j49 (K12 : Int32 → Int32 → Int32 → SS → Option (Int32 × SS)) (x1 : Int32) (x2 : Int32) (x3 : Int32) (S : SS) : Option (Int32 × SS) :=
    nm (x3 + (1 : Int32)) (fun z3 =>
    K12 x1 x2 z3 S)
def f_X3_countMoved_L12  : Nat → Int32 → Int32 → Int32 → SS → Option (Int32 × SS)
  | 0, _, _, _, _ => none
  | n + 1, x1, x2, x3, S =>
    if (10 : Int32) ≤ x3 then
      some (x2, S)
    else
      if ((x1 >>> (x3 &&& 31)) &&& (1 : Int32)) = (1 : Int32) then
        bnd (f_X7_below_start x3 S) (fun r5 S4 =>
        bnd (f_X7_below_goal x3 S4) (fun r7 S6 =>
        if r5 = r7 then
          f_X3_countMoved_j49 (fun v0 v1 v2 S => f_X3_countMoved_L12 n v0 v1 v2 S) x1 x2 x3 S6
        else
          nm (x2 + (1 : Int32)) (fun z8 =>
          f_X3_countMoved_j49 (fun v0 v1 v2 S => f_X3_countMoved_L12 n v0 v1 v2 S) x1 z8 x3 S6)))
      else
        f_X3_countMoved_j49 (fun v0 v1 v2 S => f_X3_countMoved_L12 n v0 v1 v2 S) x1 x2 x3 S
def f_X3_countMoved  (S : SS) : Option (Int32 × SS) :=
  bnd (f_X7_members_start  S) (fun r2 S1 =>
  f_X3_countMoved_L12 NF r2 (0 : Int32) (0 : Int32) S1)
theorem dX3_countMoved_0 : decode cX3_countMoved 0 = .ok (.aload_n 0, 1) := by decide +kernel
theorem dX3_countMoved_1 : decode cX3_countMoved 1 = .ok (.getfield 12, 3) := by decide +kernel
theorem dX3_countMoved_4 : decode cX3_countMoved 4 = .ok (.invokevirtual 65, 3) := by decide +kernel
theorem dX3_countMoved_7 : decode cX3_countMoved 7 = .ok (.istore_n 1, 1) := by decide +kernel
theorem dX3_countMoved_8 : decode cX3_countMoved 8 = .ok (.iconst 0, 1) := by decide +kernel
theorem dX3_countMoved_9 : decode cX3_countMoved 9 = .ok (.istore_n 2, 1) := by decide +kernel
theorem dX3_countMoved_10 : decode cX3_countMoved 10 = .ok (.iconst 0, 1) := by decide +kernel
theorem dX3_countMoved_11 : decode cX3_countMoved 11 = .ok (.istore_n 3, 1) := by decide +kernel
theorem dX3_countMoved_12 : decode cX3_countMoved 12 = .ok (.iload_n 3, 1) := by decide +kernel
theorem dX3_countMoved_13 : decode cX3_countMoved 13 = .ok (.bipush 10, 2) := by decide +kernel
theorem dX3_countMoved_15 : decode cX3_countMoved 15 = .ok (.if_icmp .ge 40, 3) := by decide +kernel
theorem dX3_countMoved_18 : decode cX3_countMoved 18 = .ok (.iload_n 1, 1) := by decide +kernel
theorem dX3_countMoved_19 : decode cX3_countMoved 19 = .ok (.iload_n 3, 1) := by decide +kernel
theorem dX3_countMoved_20 : decode cX3_countMoved 20 = .ok (.ishr, 1) := by decide +kernel
theorem dX3_countMoved_21 : decode cX3_countMoved 21 = .ok (.iconst 1, 1) := by decide +kernel
theorem dX3_countMoved_22 : decode cX3_countMoved 22 = .ok (.iand, 1) := by decide +kernel
theorem dX3_countMoved_23 : decode cX3_countMoved 23 = .ok (.iconst 1, 1) := by decide +kernel
theorem dX3_countMoved_24 : decode cX3_countMoved 24 = .ok (.if_icmp .ne 25, 3) := by decide +kernel
theorem dX3_countMoved_27 : decode cX3_countMoved 27 = .ok (.aload_n 0, 1) := by decide +kernel
theorem dX3_countMoved_28 : decode cX3_countMoved 28 = .ok (.getfield 12, 3) := by decide +kernel
theorem dX3_countMoved_31 : decode cX3_countMoved 31 = .ok (.iload_n 3, 1) := by decide +kernel
theorem dX3_countMoved_32 : decode cX3_countMoved 32 = .ok (.invokevirtual 80, 3) := by decide +kernel
theorem dX3_countMoved_35 : decode cX3_countMoved 35 = .ok (.aload_n 0, 1) := by decide +kernel
theorem dX3_countMoved_36 : decode cX3_countMoved 36 = .ok (.getfield 18, 3) := by decide +kernel
theorem dX3_countMoved_39 : decode cX3_countMoved 39 = .ok (.iload_n 3, 1) := by decide +kernel
theorem dX3_countMoved_40 : decode cX3_countMoved 40 = .ok (.invokevirtual 80, 3) := by decide +kernel
theorem dX3_countMoved_43 : decode cX3_countMoved 43 = .ok (.if_icmp .eq 6, 3) := by decide +kernel
theorem dX3_countMoved_46 : decode cX3_countMoved 46 = .ok (.iinc 2 1, 3) := by decide +kernel
theorem dX3_countMoved_49 : decode cX3_countMoved 49 = .ok (.iinc 3 1, 3) := by decide +kernel
theorem dX3_countMoved_52 : decode cX3_countMoved 52 = .ok (.goto (-40), 3) := by decide +kernel
theorem dX3_countMoved_55 : decode cX3_countMoved 55 = .ok (.iload_n 2, 1) := by decide +kernel
theorem dX3_countMoved_56 : decode cX3_countMoved 56 = .ok (.ireturn, 1) := by decide +kernel
set_option maxRecDepth 100000 in
set_option maxHeartbeats 4000000 in
theorem w_X3_countMoved_j49 {p : Program} {l : Launch} {e : Env} {R : Room} {s : State} {m : MethodId} {args : Array Value} {below : List Frame} {meth : Method} {c : Code} {dC : Nat → ClassId} {dI : Nat → Nat → Nat} {cs : Nat → ClassId} {ad : Nat → Nat} {A : Nat → Prop} {D0 : Nat → Nat} {S' : SS} {r : Int32} (F : Fx p s m args meth c cX3_countMoved 4 RX3 (some .int) dC dI cs A) (hR1 : 0 ≤ R.frames) (hR2 : 0 ≤ R.locals) (K12 : Int32 → Int32 → Int32 → SS → Option (Int32 × SS)) (hK12 : ∀ (v0 : Int32) (v1 : Int32) (v2 : Int32) (S : SS), K12 v0 v1 v2 S = some (r, S') → AW p l e R s m args below meth c dC dI cs ad A D0 (some (.int r)) S' 4 12 [(0, .ref (ad 9)), (1, .int v0), (2, .int v1), (3, .int v2)] [] S) (x1 : Int32) (x2 : Int32) (x3 : Int32) (S : SS) (h : f_X3_countMoved_j49 K12 x1 x2 x3 S = some (r, S')) : AW p l e R s m args below meth c dC dI cs ad A D0 (some (.int r)) S' 4 49 [(0, .ref (ad 9)), (1, .int x1), (2, .int x2), (3, .int x3)] [] S := by
  have hx := F.1.1
  have hb := F.1.2.1
  intro H locs ls w hl
  rw [f_X3_countMoved_j49] at h
  refine s_nm h (fun z3 ez3 h => ?_)
  refine lv_iinc (pc := 49) (v := z3) (lv' := [(3, .int z3), (0, .ref (ad 9)), (1, .int x1), (2, .int x2)]) hx hb dX3_countMoved_49 hl (k := 3) rfl (by rw [ez3]; rfl) (by decide) rfl (fun ls hl => ?_)
  refine lv_goto (pc := 52) (tgt := 12) hx hb dX3_countMoved_52 (by decide) ?_
  exact hK12 _ _ _ _ h _ _ _ w (lv_sub hl [1, 2, 3, 0] rfl)
set_option maxRecDepth 100000 in
set_option maxHeartbeats 4000000 in
theorem w_X3_countMoved_L12 {p : Program} {l : Launch} {e : Env} {R : Room} {s : State} {m : MethodId} {args : Array Value} {below : List Frame} {meth : Method} {c : Code} {dC : Nat → ClassId} {dI : Nat → Nat → Nat} {cs : Nat → ClassId} {ad : Nat → Nat} {A : Nat → Prop} {D0 : Nat → Nat} {S' : SS} {r : Int32} (F : Fx p s m args meth c cX3_countMoved 4 RX3 (some .int) dC dI cs A) (hR1 : 4 ≤ R.frames) (hR2 : 91 ≤ R.locals) : ∀ (n : Nat) (x1 : Int32) (x2 : Int32) (x3 : Int32) (S : SS), f_X3_countMoved_L12 n x1 x2 x3 S = some (r, S') → AW p l e R s m args below meth c dC dI cs ad A D0 (some (.int r)) S' 4 12 [(0, .ref (ad 9)), (1, .int x1), (2, .int x2), (3, .int x3)] [] S := by
  have hx := F.1.1
  have hb := F.1.2.1
  intro n
  induction n with
  | zero => intro x1 x2 x3 S h; cases h
  | succ n ih =>
    intro x1 x2 x3 S h H locs ls w hl
    rw [f_X3_countMoved_L12] at h
    refine lv_iload_n (pc := 12) hx hb dX3_countMoved_12 rfl (lv_at hl 3 rfl) ?_
    refine lv_bipush (pc := 13) (v := 10) hx hb dX3_countMoved_13 (by decide) ?_
    refine lv_icmp_ge (pc := 15) (tgt := 55) hx hb dX3_countMoved_15 (by decide) (fun q => ?_) (fun q => ?_)
    · have h := ite_t q h
      refine lv_iload_n (pc := 55) hx hb dX3_countMoved_55 rfl (lv_at hl 2 rfl) ?_
      exact s_iret F w h dX3_countMoved_56
    · have h := ite_f q h
      refine lv_iload_n (pc := 18) hx hb dX3_countMoved_18 rfl (lv_at hl 1 rfl) ?_
      refine lv_iload_n (pc := 19) hx hb dX3_countMoved_19 rfl (lv_at hl 3 rfl) ?_
      refine lv_ishr (pc := 20) hx hb dX3_countMoved_20 ?_
      refine lv_iconst (pc := 21) (v := 1) hx hb dX3_countMoved_21 (by decide) ?_
      refine lv_iand (pc := 22) hx hb dX3_countMoved_22 ?_
      refine lv_iconst (pc := 23) (v := 1) hx hb dX3_countMoved_23 (by decide) ?_
      refine lv_icmp_ne (pc := 24) (tgt := 49) hx hb dX3_countMoved_24 (by decide) (fun q => ?_) (fun q => ?_)
      · have h := ite_f q h
        exact w_X3_countMoved_j49 F (Nat.le_trans (by decide) hR1) (Nat.le_trans (by decide) hR2) _ (fun v0 v1 v2 S h => ih v0 v1 v2 S h) _ _ _ _ h _ _ _ w (lv_sub hl [0, 1, 2, 3] rfl)
      · have h := ite_t q h
        refine lv_aload_n (pc := 27) hx hb dX3_countMoved_27 rfl (lv_at hl 0 rfl) ?_
        refine s_getR (pc := 28) F w 11 ds_9 (j := 0) vc_X3 vi_X3 rfl (by decide) kf_X3_12 dX3_countMoved_28 ?_
        refine lv_iload_n (pc := 31) hx hb dX3_countMoved_31 rfl (lv_at hl 3 rfl) ?_
        obtain ⟨r5, S4, hc, h⟩ := bnd_t h
        refine s_cvi (pc := 32) [.int x3] (fun ad => [.ref (ad 11), .int x3]) F w (m_X7_below_start _ _ _ _ hc) rfl rfl hl.1 ds_11 vc_X7 rfl ok_X7_below rfl kc_X7_below kl_X3_80 ki_X7_below kv_X7_below kn_X7 ⟨Nat.le_trans (by decide) hR1, Nat.le_trans (by decide) hR2⟩ ⟨Nat.zero_le _, Nat.zero_le _⟩ (Nat.le_of_ble_eq_true rfl) dX3_countMoved_32 (fun H locs w => ?_)
        refine lv_aload_n (pc := 35) hx hb dX3_countMoved_35 rfl (lv_at hl 0 rfl) ?_
        refine s_getR (pc := 36) F w 12 ds_9 (j := 1) vc_X3 vi_X3 rfl (by decide) kf_X3_18 dX3_countMoved_36 ?_
        refine lv_iload_n (pc := 39) hx hb dX3_countMoved_39 rfl (lv_at hl 3 rfl) ?_
        obtain ⟨r7, S6, hc, h⟩ := bnd_t h
        refine s_cvi (pc := 40) [.int x3] (fun ad => [.ref (ad 12), .int x3]) F w (m_X7_below_goal _ _ _ _ hc) rfl rfl hl.1 ds_12 vc_X7 rfl ok_X7_below rfl kc_X7_below kl_X3_80 ki_X7_below kv_X7_below kn_X7 ⟨Nat.le_trans (by decide) hR1, Nat.le_trans (by decide) hR2⟩ ⟨Nat.zero_le _, Nat.zero_le _⟩ (Nat.le_of_ble_eq_true rfl) dX3_countMoved_40 (fun H locs w => ?_)
        refine lv_icmp_eq (pc := 43) (tgt := 49) hx hb dX3_countMoved_43 (by decide) (fun q => ?_) (fun q => ?_)
        · have h := ite_t q h
          exact w_X3_countMoved_j49 F (Nat.le_trans (by decide) hR1) (Nat.le_trans (by decide) hR2) _ (fun v0 v1 v2 S h => ih v0 v1 v2 S h) _ _ _ _ h _ _ _ w (lv_sub hl [0, 1, 2, 3] rfl)
        · have h := ite_f q h
          refine s_nm h (fun z8 ez8 h => ?_)
          refine lv_iinc (pc := 46) (v := z8) (lv' := [(2, .int z8), (0, .ref (ad 9)), (1, .int x1), (3, .int x3)]) hx hb dX3_countMoved_46 hl (k := 2) rfl (by rw [ez8]; rfl) (by decide) rfl (fun ls hl => ?_)
          exact w_X3_countMoved_j49 F (Nat.le_trans (by decide) hR1) (Nat.le_trans (by decide) hR2) _ (fun v0 v1 v2 S h => ih v0 v1 v2 S h) _ _ _ _ h _ _ _ w (lv_sub hl [1, 2, 0, 3] rfl)
set_option maxRecDepth 100000 in
set_option maxHeartbeats 4000000 in
theorem m_X3_countMoved  (S S' : SS) (r : Int32) (h : f_X3_countMoved  S = some (r, S')) : MT yX3_countMoved cX3_countMoved 4 (some .int) 4 91 (fun ad => [.ref (ad 9)]) S (some (.int r)) S' := by
  refine MT.of RX3 (fun ad => [(0, .ref (ad 9))]) (by decide) rfl (fun _ => Nat.le_of_ble_eq_true rfl) (fun _ => rfl) ?_
  intro p l e R s m args below meth c dC dI cs ad A hR1 hR2 F H locs ls w hl
  have hx := F.1.1
  have hb := F.1.2.1
  rw [f_X3_countMoved] at h
  refine lv_aload_n (pc := 0) hx hb dX3_countMoved_0 rfl (lv_at hl 0 rfl) ?_
  refine s_getR (pc := 1) F w 11 ds_9 (j := 0) vc_X3 vi_X3 rfl (by decide) kf_X3_12 dX3_countMoved_1 ?_
  obtain ⟨r2, S1, hc, h⟩ := bnd_t h
  refine s_cvi (pc := 4) [] (fun ad => [.ref (ad 11)]) F w (m_X7_members_start  _ _ _ hc) rfl rfl hl.1 ds_11 vc_X7 rfl ok_X7_members rfl kc_X7_members kl_X3_65 ki_X7_members kv_X7_members kn_X7 ⟨Nat.le_trans (by decide) hR1, Nat.le_trans (by decide) hR2⟩ ⟨Nat.zero_le _, Nat.zero_le _⟩ (Nat.le_of_ble_eq_true rfl) dX3_countMoved_4 (fun H locs w => ?_)
  refine lv_istore_n (pc := 7) (lv' := [(1, .int r2), (0, .ref (ad 9))]) hx hb dX3_countMoved_7 rfl hl (by decide) rfl (fun ls hl => ?_)
  refine lv_iconst (pc := 8) (v := 0) hx hb dX3_countMoved_8 (by decide) ?_
  refine lv_istore_n (pc := 9) (lv' := [(2, .int (0 : Int32)), (1, .int r2), (0, .ref (ad 9))]) hx hb dX3_countMoved_9 rfl hl (by decide) rfl (fun ls hl => ?_)
  refine lv_iconst (pc := 10) (v := 0) hx hb dX3_countMoved_10 (by decide) ?_
  refine lv_istore_n (pc := 11) (lv' := [(3, .int (0 : Int32)), (2, .int (0 : Int32)), (1, .int r2), (0, .ref (ad 9))]) hx hb dX3_countMoved_11 rfl hl (by decide) rfl (fun ls hl => ?_)
  exact w_X3_countMoved_L12 F (Nat.le_trans (by decide) hR1) (Nat.le_trans (by decide) hR2) _ _ _ _ _ h _ _ _ w (lv_sub hl [3, 2, 1, 0] rfl)
def f_X11_bound  (S : SS) : Option (Int32 × SS) :=
  bnd (f_X3_haveSameWagons  S) (fun r2 S1 =>
  if r2 = 0 then
    some ((-1 : Int32), S1)
  else
    bnd (f_X3_countMoved  S1) (fun r4 S3 =>
    some (r4, S3)))
theorem dX11_bound_0 : decode cX11_bound 0 = .ok (.aload_n 0, 1) := by decide +kernel
theorem dX11_bound_1 : decode cX11_bound 1 = .ok (.getfield 74, 3) := by decide +kernel
theorem dX11_bound_4 : decode cX11_bound 4 = .ok (.invokevirtual 428, 3) := by decide +kernel
theorem dX11_bound_7 : decode cX11_bound 7 = .ok (.ifCond .eq 13, 3) := by decide +kernel
theorem dX11_bound_10 : decode cX11_bound 10 = .ok (.aload_n 0, 1) := by decide +kernel
theorem dX11_bound_11 : decode cX11_bound 11 = .ok (.getfield 74, 3) := by decide +kernel
theorem dX11_bound_14 : decode cX11_bound 14 = .ok (.invokevirtual 444, 3) := by decide +kernel
theorem dX11_bound_17 : decode cX11_bound 17 = .ok (.goto 4, 3) := by decide +kernel
theorem dX11_bound_20 : decode cX11_bound 20 = .ok (.iconst (-1), 1) := by decide +kernel
theorem dX11_bound_21 : decode cX11_bound 21 = .ok (.ireturn, 1) := by decide +kernel
set_option maxRecDepth 100000 in
set_option maxHeartbeats 4000000 in
theorem m_X11_bound  (S S' : SS) (r : Int32) (h : f_X11_bound  S = some (r, S')) : MT yX11_bound cX11_bound 1 (some .int) 5 114 (fun ad => [.ref (ad 0)]) S (some (.int r)) S' := by
  refine MT.of RX11 (fun ad => [(0, .ref (ad 0))]) (by decide) rfl (fun _ => Nat.le_of_ble_eq_true rfl) (fun _ => rfl) ?_
  intro p l e R s m args below meth c dC dI cs ad A hR1 hR2 F H locs ls w hl
  have hx := F.1.1
  have hb := F.1.2.1
  rw [f_X11_bound] at h
  refine lv_aload_n (pc := 0) hx hb dX11_bound_0 rfl (lv_at hl 0 rfl) ?_
  refine s_getR (pc := 1) F w 9 ds_0 (j := 8) vc_X11 vi_X11 rfl (by decide) kf_X11_74 dX11_bound_1 ?_
  obtain ⟨r2, S1, hc, h⟩ := bnd_t h
  refine s_cvi (pc := 4) [] (fun ad => [.ref (ad 9)]) F w (m_X3_haveSameWagons  _ _ _ hc) rfl rfl hl.1 ds_9 vc_X3 rfl ok_X3_haveSameWagons rfl kc_X3_haveSameWagons kl_X11_428 ki_X3_haveSameWagons kv_X3_haveSameWagons kn_X3 ⟨Nat.le_trans (by decide) hR1, Nat.le_trans (by decide) hR2⟩ ⟨Nat.zero_le _, Nat.zero_le _⟩ (Nat.le_of_ble_eq_true rfl) dX11_bound_4 (fun H locs w => ?_)
  refine lv_if_eq (pc := 7) (tgt := 20) hx hb dX11_bound_7 (by decide) (fun q => ?_) (fun q => ?_)
  · have h := ite_t q h
    refine lv_iconst (pc := 20) (v := -1) hx hb dX11_bound_20 (by decide) ?_
    exact s_iret F w h dX11_bound_21
  · have h := ite_f q h
    refine lv_aload_n (pc := 10) hx hb dX11_bound_10 rfl (lv_at hl 0 rfl) ?_
    refine s_getR (pc := 11) F w 9 ds_0 (j := 8) vc_X11 vi_X11 rfl (by decide) kf_X11_74 dX11_bound_11 ?_
    obtain ⟨r4, S3, hc, h⟩ := bnd_t h
    refine s_cvi (pc := 14) [] (fun ad => [.ref (ad 9)]) F w (m_X3_countMoved  _ _ _ hc) rfl rfl hl.1 ds_9 vc_X3 rfl ok_X3_countMoved rfl kc_X3_countMoved kl_X11_444 ki_X3_countMoved kv_X3_countMoved kn_X3 ⟨Nat.le_trans (by decide) hR1, Nat.le_trans (by decide) hR2⟩ ⟨Nat.zero_le _, Nat.zero_le _⟩ (Nat.le_of_ble_eq_true rfl) dX11_bound_14 (fun H locs w => ?_)
    refine lv_goto (pc := 17) (tgt := 21) hx hb dX11_bound_17 (by decide) ?_
    exact s_iret F w h dX11_bound_21
def f_X12_under_Model_startMany_Model_startOn_j64 (K15 : Int32 → Int32 → Int32 → Int32 → SS → Option (Int32 × SS)) (x2 : Int32) (x3 : Int32) (x4 : Int32) (x5 : Int32) (S : SS) : Option (Int32 × SS) :=
    nm (x5 + (1 : Int32)) (fun z2 =>
    K15 x2 x3 x4 z2 S)
def f_X12_under_Model_startMany_Model_startOn_j63 (K15 : Int32 → Int32 → Int32 → Int32 → SS → Option (Int32 × SS)) (x2 : Int32) (x4 : Int32) (x5 : Int32) (y0 : Int32) (S : SS) : Option (Int32 × SS) :=
    f_X12_under_Model_startMany_Model_startOn_j64 K15 x2 y0 x4 x5 S
def f_X12_under_Model_startMany_Model_startOn_L15 (K6 : Int32 → Int32 → Int32 → SS → Option (Int32 × SS)) : Nat → Int32 → Int32 → Int32 → Int32 → SS → Option (Int32 × SS)
  | 0, _, _, _, _, _ => none
  | n + 1, x2, x3, x4, x5, S =>
    grd (inb x4 4) (
    if (S.1 114 x4.toNatClampNeg) ≤ x5 then
      nm (x4 + (1 : Int32)) (fun z1 =>
      K6 x2 x3 z1 S)
    else
      grd (inb (((10 : Int32) * x4) + x5) 40) (
      if (S.1 115 (((10 : Int32) * x4) + x5).toNatClampNeg) = x2 then
        if x5 = 0 then
          f_X12_under_Model_startMany_Model_startOn_j63 (fun v0 v1 v2 v3 S => f_X12_under_Model_startMany_Model_startOn_L15 K6 n v0 v1 v2 v3 S) x2 x4 x5 ((100 : Int32) + x4) S
        else
          grd (inb ((((10 : Int32) * x4) + x5) - (1 : Int32)) 40) (
          f_X12_under_Model_startMany_Model_startOn_j63 (fun v0 v1 v2 v3 S => f_X12_under_Model_startMany_Model_startOn_L15 K6 n v0 v1 v2 v3 S) x2 x4 x5 (S.1 115 ((((10 : Int32) * x4) + x5) - (1 : Int32)).toNatClampNeg) S)
      else
        f_X12_under_Model_startMany_Model_startOn_j64 (fun v0 v1 v2 v3 S => f_X12_under_Model_startMany_Model_startOn_L15 K6 n v0 v1 v2 v3 S) x2 x3 x4 x5 S))
def f_X12_under_Model_startMany_Model_startOn_L6  : Nat → Int32 → Int32 → Int32 → SS → Option (Int32 × SS)
  | 0, _, _, _, _ => none
  | n + 1, x2, x3, x4, S =>
    if (4 : Int32) ≤ x4 then
      some (x3, S)
    else
      f_X12_under_Model_startMany_Model_startOn_L15 (fun v0 v1 v2 S => f_X12_under_Model_startMany_Model_startOn_L6 n v0 v1 v2 S) NF x2 x3 x4 (0 : Int32) S
def f_X12_under_Model_startMany_Model_startOn (a2 : Int32) (S : SS) : Option (Int32 × SS) :=
  f_X12_under_Model_startMany_Model_startOn_L6 NF a2 (-4 : Int32) (0 : Int32) S
theorem dX12_under_0 : decode cX12_under 0 = .ok (.bipush (-4), 2) := by decide +kernel
theorem dX12_under_2 : decode cX12_under 2 = .ok (.istore_n 3, 1) := by decide +kernel
theorem dX12_under_3 : decode cX12_under 3 = .ok (.iconst 0, 1) := by decide +kernel
theorem dX12_under_4 : decode cX12_under 4 = .ok (.istore 4, 2) := by decide +kernel
theorem dX12_under_6 : decode cX12_under 6 = .ok (.iload 4, 2) := by decide +kernel
theorem dX12_under_8 : decode cX12_under 8 = .ok (.iconst 4, 1) := by decide +kernel
theorem dX12_under_9 : decode cX12_under 9 = .ok (.if_icmp .ge 67, 3) := by decide +kernel
theorem dX12_under_12 : decode cX12_under 12 = .ok (.iconst 0, 1) := by decide +kernel
theorem dX12_under_13 : decode cX12_under 13 = .ok (.istore 5, 2) := by decide +kernel
theorem dX12_under_15 : decode cX12_under 15 = .ok (.iload 5, 2) := by decide +kernel
theorem dX12_under_17 : decode cX12_under 17 = .ok (.aload_n 0, 1) := by decide +kernel
theorem dX12_under_18 : decode cX12_under 18 = .ok (.iload 4, 2) := by decide +kernel
theorem dX12_under_20 : decode cX12_under 20 = .ok (.iaload, 1) := by decide +kernel
theorem dX12_under_21 : decode cX12_under 21 = .ok (.if_icmp .ge 49, 3) := by decide +kernel
theorem dX12_under_24 : decode cX12_under 24 = .ok (.aload_n 1, 1) := by decide +kernel
theorem dX12_under_25 : decode cX12_under 25 = .ok (.bipush 10, 2) := by decide +kernel
theorem dX12_under_27 : decode cX12_under 27 = .ok (.iload 4, 2) := by decide +kernel
theorem dX12_under_29 : decode cX12_under 29 = .ok (.imul, 1) := by decide +kernel
theorem dX12_under_30 : decode cX12_under 30 = .ok (.iload 5, 2) := by decide +kernel
theorem dX12_under_32 : decode cX12_under 32 = .ok (.iadd, 1) := by decide +kernel
theorem dX12_under_33 : decode cX12_under 33 = .ok (.iaload, 1) := by decide +kernel
theorem dX12_under_34 : decode cX12_under 34 = .ok (.iload_n 2, 1) := by decide +kernel
theorem dX12_under_35 : decode cX12_under 35 = .ok (.if_icmp .ne 29, 3) := by decide +kernel
theorem dX12_under_38 : decode cX12_under 38 = .ok (.iload 5, 2) := by decide +kernel
theorem dX12_under_40 : decode cX12_under 40 = .ok (.ifCond .ne 11, 3) := by decide +kernel
theorem dX12_under_43 : decode cX12_under 43 = .ok (.bipush 100, 2) := by decide +kernel
theorem dX12_under_45 : decode cX12_under 45 = .ok (.iload 4, 2) := by decide +kernel
theorem dX12_under_47 : decode cX12_under 47 = .ok (.iadd, 1) := by decide +kernel
theorem dX12_under_48 : decode cX12_under 48 = .ok (.goto 15, 3) := by decide +kernel
theorem dX12_under_51 : decode cX12_under 51 = .ok (.aload_n 1, 1) := by decide +kernel
theorem dX12_under_52 : decode cX12_under 52 = .ok (.bipush 10, 2) := by decide +kernel
theorem dX12_under_54 : decode cX12_under 54 = .ok (.iload 4, 2) := by decide +kernel
theorem dX12_under_56 : decode cX12_under 56 = .ok (.imul, 1) := by decide +kernel
theorem dX12_under_57 : decode cX12_under 57 = .ok (.iload 5, 2) := by decide +kernel
theorem dX12_under_59 : decode cX12_under 59 = .ok (.iadd, 1) := by decide +kernel
theorem dX12_under_60 : decode cX12_under 60 = .ok (.iconst 1, 1) := by decide +kernel
theorem dX12_under_61 : decode cX12_under 61 = .ok (.isub, 1) := by decide +kernel
theorem dX12_under_62 : decode cX12_under 62 = .ok (.iaload, 1) := by decide +kernel
theorem dX12_under_63 : decode cX12_under 63 = .ok (.istore_n 3, 1) := by decide +kernel
theorem dX12_under_64 : decode cX12_under 64 = .ok (.iinc 5 1, 3) := by decide +kernel
theorem dX12_under_67 : decode cX12_under 67 = .ok (.goto (-52), 3) := by decide +kernel
theorem dX12_under_70 : decode cX12_under 70 = .ok (.iinc 4 1, 3) := by decide +kernel
theorem dX12_under_73 : decode cX12_under 73 = .ok (.goto (-67), 3) := by decide +kernel
theorem dX12_under_76 : decode cX12_under 76 = .ok (.iload_n 3, 1) := by decide +kernel
theorem dX12_under_77 : decode cX12_under 77 = .ok (.ireturn, 1) := by decide +kernel
set_option maxRecDepth 100000 in
set_option maxHeartbeats 4000000 in
theorem w_X12_under_Model_startMany_Model_startOn_j64 {p : Program} {l : Launch} {e : Env} {R : Room} {s : State} {m : MethodId} {args : Array Value} {below : List Frame} {meth : Method} {c : Code} {dC : Nat → ClassId} {dI : Nat → Nat → Nat} {cs : Nat → ClassId} {ad : Nat → Nat} {A : Nat → Prop} {D0 : Nat → Nat} {S' : SS} {r : Int32} (F : Fx p s m args meth c cX12_under 6 RX12 (some .int) dC dI cs A) (hR1 : 0 ≤ R.frames) (hR2 : 0 ≤ R.locals) (K15 : Int32 → Int32 → Int32 → Int32 → SS → Option (Int32 × SS)) (hK15 : ∀ (v0 : Int32) (v1 : Int32) (v2 : Int32) (v3 : Int32) (S : SS), K15 v0 v1 v2 v3 S = some (r, S') → AW p l e R s m args below meth c dC dI cs ad A D0 (some (.int r)) S' 6 15 [(0, .ref (ad 114)), (1, .ref (ad 115)), (2, .int v0), (3, .int v1), (4, .int v2), (5, .int v3)] [] S) (x2 : Int32) (x3 : Int32) (x4 : Int32) (x5 : Int32) (S : SS) (h : f_X12_under_Model_startMany_Model_startOn_j64 K15 x2 x3 x4 x5 S = some (r, S')) : AW p l e R s m args below meth c dC dI cs ad A D0 (some (.int r)) S' 6 64 [(0, .ref (ad 114)), (1, .ref (ad 115)), (2, .int x2), (3, .int x3), (4, .int x4), (5, .int x5)] [] S := by
  have hx := F.1.1
  have hb := F.1.2.1
  intro H locs ls w hl
  rw [f_X12_under_Model_startMany_Model_startOn_j64] at h
  refine s_nm h (fun z2 ez2 h => ?_)
  refine lv_iinc (pc := 64) (v := z2) (lv' := [(5, .int z2), (0, .ref (ad 114)), (1, .ref (ad 115)), (2, .int x2), (3, .int x3), (4, .int x4)]) hx hb dX12_under_64 hl (k := 5) rfl (by rw [ez2]; rfl) (by decide) rfl (fun ls hl => ?_)
  refine lv_goto (pc := 67) (tgt := 15) hx hb dX12_under_67 (by decide) ?_
  exact hK15 _ _ _ _ _ h _ _ _ w (lv_sub hl [1, 2, 3, 4, 5, 0] rfl)
set_option maxRecDepth 100000 in
set_option maxHeartbeats 4000000 in
theorem w_X12_under_Model_startMany_Model_startOn_j63 {p : Program} {l : Launch} {e : Env} {R : Room} {s : State} {m : MethodId} {args : Array Value} {below : List Frame} {meth : Method} {c : Code} {dC : Nat → ClassId} {dI : Nat → Nat → Nat} {cs : Nat → ClassId} {ad : Nat → Nat} {A : Nat → Prop} {D0 : Nat → Nat} {S' : SS} {r : Int32} (F : Fx p s m args meth c cX12_under 6 RX12 (some .int) dC dI cs A) (hR1 : 0 ≤ R.frames) (hR2 : 0 ≤ R.locals) (K15 : Int32 → Int32 → Int32 → Int32 → SS → Option (Int32 × SS)) (hK15 : ∀ (v0 : Int32) (v1 : Int32) (v2 : Int32) (v3 : Int32) (S : SS), K15 v0 v1 v2 v3 S = some (r, S') → AW p l e R s m args below meth c dC dI cs ad A D0 (some (.int r)) S' 6 15 [(0, .ref (ad 114)), (1, .ref (ad 115)), (2, .int v0), (3, .int v1), (4, .int v2), (5, .int v3)] [] S) (x2 : Int32) (x4 : Int32) (x5 : Int32) (y0 : Int32) (S : SS) (h : f_X12_under_Model_startMany_Model_startOn_j63 K15 x2 x4 x5 y0 S = some (r, S')) : AW p l e R s m args below meth c dC dI cs ad A D0 (some (.int r)) S' 6 63 [(0, .ref (ad 114)), (1, .ref (ad 115)), (2, .int x2), (4, .int x4), (5, .int x5)] [.int y0] S := by
  have hx := F.1.1
  have hb := F.1.2.1
  intro H locs ls w hl
  rw [f_X12_under_Model_startMany_Model_startOn_j63] at h
  refine lv_istore_n (pc := 63) (lv' := [(3, .int y0), (0, .ref (ad 114)), (1, .ref (ad 115)), (2, .int x2), (4, .int x4), (5, .int x5)]) hx hb dX12_under_63 rfl hl (by decide) rfl (fun ls hl => ?_)
  exact w_X12_under_Model_startMany_Model_startOn_j64 F (Nat.le_trans (by decide) hR1) (Nat.le_trans (by decide) hR2) _ hK15 _ _ _ _ _ h _ _ _ w (lv_sub hl [1, 2, 3, 0, 4, 5] rfl)
set_option maxRecDepth 100000 in
set_option maxHeartbeats 4000000 in
theorem w_X12_under_Model_startMany_Model_startOn_L15 {p : Program} {l : Launch} {e : Env} {R : Room} {s : State} {m : MethodId} {args : Array Value} {below : List Frame} {meth : Method} {c : Code} {dC : Nat → ClassId} {dI : Nat → Nat → Nat} {cs : Nat → ClassId} {ad : Nat → Nat} {A : Nat → Prop} {D0 : Nat → Nat} {S' : SS} {r : Int32} (F : Fx p s m args meth c cX12_under 6 RX12 (some .int) dC dI cs A) (hR1 : 0 ≤ R.frames) (hR2 : 0 ≤ R.locals) (K6 : Int32 → Int32 → Int32 → SS → Option (Int32 × SS)) (hK6 : ∀ (v0 : Int32) (v1 : Int32) (v2 : Int32) (S : SS), K6 v0 v1 v2 S = some (r, S') → AW p l e R s m args below meth c dC dI cs ad A D0 (some (.int r)) S' 6 6 [(0, .ref (ad 114)), (1, .ref (ad 115)), (2, .int v0), (3, .int v1), (4, .int v2)] [] S) : ∀ (n : Nat) (x2 : Int32) (x3 : Int32) (x4 : Int32) (x5 : Int32) (S : SS), f_X12_under_Model_startMany_Model_startOn_L15 K6 n x2 x3 x4 x5 S = some (r, S') → AW p l e R s m args below meth c dC dI cs ad A D0 (some (.int r)) S' 6 15 [(0, .ref (ad 114)), (1, .ref (ad 115)), (2, .int x2), (3, .int x3), (4, .int x4), (5, .int x5)] [] S := by
  have hx := F.1.1
  have hb := F.1.2.1
  intro n
  induction n with
  | zero => intro x2 x3 x4 x5 S h; cases h
  | succ n ih =>
    intro x2 x3 x4 x5 S h H locs ls w hl
    rw [f_X12_under_Model_startMany_Model_startOn_L15] at h
    refine lv_iload (pc := 15) hx hb dX12_under_15 (lv_at hl 5 rfl) ?_
    refine lv_aload_n (pc := 17) hx hb dX12_under_17 rfl (lv_at hl 0 rfl) ?_
    refine lv_iload (pc := 18) hx hb dX12_under_18 (lv_at hl 4 rfl) ?_
    refine s_iald (pc := 20) F w ds_114 h dX12_under_20 (fun h => ?_)
    refine lv_icmp_ge (pc := 21) (tgt := 70) hx hb dX12_under_21 (by decide) (fun q => ?_) (fun q => ?_)
    · have h := ite_t q h
      refine s_nm h (fun z1 ez1 h => ?_)
      refine lv_iinc (pc := 70) (v := z1) (lv' := [(4, .int z1), (0, .ref (ad 114)), (1, .ref (ad 115)), (2, .int x2), (3, .int x3), (5, .int x5)]) hx hb dX12_under_70 hl (k := 4) rfl (by rw [ez1]; rfl) (by decide) rfl (fun ls hl => ?_)
      refine lv_goto (pc := 73) (tgt := 6) hx hb dX12_under_73 (by decide) ?_
      exact hK6 _ _ _ _ h _ _ _ w (lv_sub hl [1, 2, 3, 4, 0] rfl)
    · have h := ite_f q h
      refine lv_aload_n (pc := 24) hx hb dX12_under_24 rfl (lv_at hl 1 rfl) ?_
      refine lv_bipush (pc := 25) (v := 10) hx hb dX12_under_25 (by decide) ?_
      refine lv_iload (pc := 27) hx hb dX12_under_27 (lv_at hl 4 rfl) ?_
      refine lv_imul (pc := 29) hx hb dX12_under_29 ?_
      refine lv_iload (pc := 30) hx hb dX12_under_30 (lv_at hl 5 rfl) ?_
      refine lv_iadd (pc := 32) hx hb dX12_under_32 ?_
      refine s_iald (pc := 33) F w ds_115 h dX12_under_33 (fun h => ?_)
      refine lv_iload_n (pc := 34) hx hb dX12_under_34 rfl (lv_at hl 2 rfl) ?_
      refine lv_icmp_ne (pc := 35) (tgt := 64) hx hb dX12_under_35 (by decide) (fun q => ?_) (fun q => ?_)
      · have h := ite_f q h
        exact w_X12_under_Model_startMany_Model_startOn_j64 F (Nat.le_trans (by decide) hR1) (Nat.le_trans (by decide) hR2) _ (fun v0 v1 v2 v3 S h => ih v0 v1 v2 v3 S h) _ _ _ _ _ h _ _ _ w (lv_sub hl [0, 1, 2, 3, 4, 5] rfl)
      · have h := ite_t q h
        refine lv_iload (pc := 38) hx hb dX12_under_38 (lv_at hl 5 rfl) ?_
        refine lv_if_ne (pc := 40) (tgt := 51) hx hb dX12_under_40 (by decide) (fun q => ?_) (fun q => ?_)
        · have h := ite_f q h
          refine lv_aload_n (pc := 51) hx hb dX12_under_51 rfl (lv_at hl 1 rfl) ?_
          refine lv_bipush (pc := 52) (v := 10) hx hb dX12_under_52 (by decide) ?_
          refine lv_iload (pc := 54) hx hb dX12_under_54 (lv_at hl 4 rfl) ?_
          refine lv_imul (pc := 56) hx hb dX12_under_56 ?_
          refine lv_iload (pc := 57) hx hb dX12_under_57 (lv_at hl 5 rfl) ?_
          refine lv_iadd (pc := 59) hx hb dX12_under_59 ?_
          refine lv_iconst (pc := 60) (v := 1) hx hb dX12_under_60 (by decide) ?_
          refine lv_isub (pc := 61) hx hb dX12_under_61 ?_
          refine s_iald (pc := 62) F w ds_115 h dX12_under_62 (fun h => ?_)
          exact w_X12_under_Model_startMany_Model_startOn_j63 F (Nat.le_trans (by decide) hR1) (Nat.le_trans (by decide) hR2) _ (fun v0 v1 v2 v3 S h => ih v0 v1 v2 v3 S h) _ _ _ _ _ h _ _ _ w (lv_sub hl [0, 1, 2, 4, 5] rfl)
        · have h := ite_t q h
          refine lv_bipush (pc := 43) (v := 100) hx hb dX12_under_43 (by decide) ?_
          refine lv_iload (pc := 45) hx hb dX12_under_45 (lv_at hl 4 rfl) ?_
          refine lv_iadd (pc := 47) hx hb dX12_under_47 ?_
          refine lv_goto (pc := 48) (tgt := 63) hx hb dX12_under_48 (by decide) ?_
          exact w_X12_under_Model_startMany_Model_startOn_j63 F (Nat.le_trans (by decide) hR1) (Nat.le_trans (by decide) hR2) _ (fun v0 v1 v2 v3 S h => ih v0 v1 v2 v3 S h) _ _ _ _ _ h _ _ _ w (lv_sub hl [0, 1, 2, 4, 5] rfl)
set_option maxRecDepth 100000 in
set_option maxHeartbeats 4000000 in
theorem w_X12_under_Model_startMany_Model_startOn_L6 {p : Program} {l : Launch} {e : Env} {R : Room} {s : State} {m : MethodId} {args : Array Value} {below : List Frame} {meth : Method} {c : Code} {dC : Nat → ClassId} {dI : Nat → Nat → Nat} {cs : Nat → ClassId} {ad : Nat → Nat} {A : Nat → Prop} {D0 : Nat → Nat} {S' : SS} {r : Int32} (F : Fx p s m args meth c cX12_under 6 RX12 (some .int) dC dI cs A) (hR1 : 0 ≤ R.frames) (hR2 : 0 ≤ R.locals) : ∀ (n : Nat) (x2 : Int32) (x3 : Int32) (x4 : Int32) (S : SS), f_X12_under_Model_startMany_Model_startOn_L6 n x2 x3 x4 S = some (r, S') → AW p l e R s m args below meth c dC dI cs ad A D0 (some (.int r)) S' 6 6 [(0, .ref (ad 114)), (1, .ref (ad 115)), (2, .int x2), (3, .int x3), (4, .int x4)] [] S := by
  have hx := F.1.1
  have hb := F.1.2.1
  intro n
  induction n with
  | zero => intro x2 x3 x4 S h; cases h
  | succ n ih =>
    intro x2 x3 x4 S h H locs ls w hl
    rw [f_X12_under_Model_startMany_Model_startOn_L6] at h
    refine lv_iload (pc := 6) hx hb dX12_under_6 (lv_at hl 4 rfl) ?_
    refine lv_iconst (pc := 8) (v := 4) hx hb dX12_under_8 (by decide) ?_
    refine lv_icmp_ge (pc := 9) (tgt := 76) hx hb dX12_under_9 (by decide) (fun q => ?_) (fun q => ?_)
    · have h := ite_t q h
      refine lv_iload_n (pc := 76) hx hb dX12_under_76 rfl (lv_at hl 3 rfl) ?_
      exact s_iret F w h dX12_under_77
    · have h := ite_f q h
      refine lv_iconst (pc := 12) (v := 0) hx hb dX12_under_12 (by decide) ?_
      refine lv_istore (pc := 13) (lv' := [(5, .int (0 : Int32)), (0, .ref (ad 114)), (1, .ref (ad 115)), (2, .int x2), (3, .int x3), (4, .int x4)]) hx hb dX12_under_13 hl (by decide) rfl (fun ls hl => ?_)
      exact w_X12_under_Model_startMany_Model_startOn_L15 F (Nat.le_trans (by decide) hR1) (Nat.le_trans (by decide) hR2) _ (fun v0 v1 v2 S h => ih v0 v1 v2 S h) _ _ _ _ _ _ h _ _ _ w (lv_sub hl [1, 2, 3, 4, 5, 0] rfl)
set_option maxRecDepth 100000 in
set_option maxHeartbeats 4000000 in
theorem m_X12_under_Model_startMany_Model_startOn (a2 : Int32) (S S' : SS) (r : Int32) (h : f_X12_under_Model_startMany_Model_startOn a2 S = some (r, S')) : MT yX12_under cX12_under 6 (some .int) 0 0 (fun ad => [.ref (ad 114), .ref (ad 115), .int a2]) S (some (.int r)) S' := by
  refine MT.of RX12 (fun ad => [(0, .ref (ad 114)), (1, .ref (ad 115)), (2, .int a2)]) (by decide) rfl (fun _ => Nat.le_of_ble_eq_true rfl) (fun _ => rfl) ?_
  intro p l e R s m args below meth c dC dI cs ad A hR1 hR2 F H locs ls w hl
  have hx := F.1.1
  have hb := F.1.2.1
  rw [f_X12_under_Model_startMany_Model_startOn] at h
  refine lv_bipush (pc := 0) (v := -4) hx hb dX12_under_0 (by decide) ?_
  refine lv_istore_n (pc := 2) (lv' := [(3, .int (-4 : Int32)), (0, .ref (ad 114)), (1, .ref (ad 115)), (2, .int a2)]) hx hb dX12_under_2 rfl hl (by decide) rfl (fun ls hl => ?_)
  refine lv_iconst (pc := 3) (v := 0) hx hb dX12_under_3 (by decide) ?_
  refine lv_istore (pc := 4) (lv' := [(4, .int (0 : Int32)), (3, .int (-4 : Int32)), (0, .ref (ad 114)), (1, .ref (ad 115)), (2, .int a2)]) hx hb dX12_under_4 hl (by decide) rfl (fun ls hl => ?_)
  exact w_X12_under_Model_startMany_Model_startOn_L6 F (Nat.le_trans (by decide) hR1) (Nat.le_trans (by decide) hR2) _ _ _ _ _ h _ _ _ w (lv_sub hl [2, 3, 4, 1, 0] rfl)
