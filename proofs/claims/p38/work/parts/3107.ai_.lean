set_option maxRecDepth 20000 in
set_option maxHeartbeats 4000000 in
theorem t_Yard_engine {a1 : Int32} {a2 : Int32} {a3 : Int32} {a4 : Int32} {S : SS} (hW : WR S) : Ex2 (f_Yard_engine a1 a2 a3 a4 S) (fun r U => WR U ∧ Fr [77, 79, 91] [(62, 2), (62, 3), (62, 4), (62, 5), (62, 6), (63, 1), (64, 6), (64, 7), (68, 5)] S U ∧ True) := by
  have hF : Fr [77, 79, 91] [(62, 2), (62, 3), (62, 4), (62, 5), (62, 6), (63, 1), (64, 6), (64, 7), (68, 5)] S S := Fr.rf
  refine e_eq (f_Yard_engine.eq_1 _ _ _ _ _) ?_
  refine e_bnd ?_
  refine e_eq (f_Yard_isNot.eq_1 _ _ _ _) ?_
  refine e_i (fun q1 => ?_) (fun q1 => ?_)
  · refine e_some ?_
    refine e_f (by decide) ?_
    exact e_some ⟨hW, hF, trivial⟩
  · refine e_i (fun q4 => ?_) (fun q4 => ?_)
    · refine e_some ?_
      refine e_t (by decide) ?_
      refine e_i (fun q6 => ?_) (fun q6 => ?_)
      · refine e_eq (f_Yard_engine_j26.eq_1 _ _ _ _ _ _) ?_
        refine e_t q6 ?_
        refine e_cE (t_Yard_standNew hW) (fun u8 T8 p8 => ?_)
        obtain ⟨hW8, hT8, hr8⟩ := p8
        have hF8 := hF.tr hT8 rfl
        exact e_some ⟨hW8, hF8, trivial⟩
      · refine e_eq (f_Yard_engine_j26.eq_1 _ _ _ _ _ _) ?_
        refine e_f q6 ?_
        refine e_cE (t_Yard_standNew hW) (fun u9 T9 p9 => ?_)
        obtain ⟨hW9, hT9, hr9⟩ := p9
        have hF9 := hF.tr hT9 rfl
        exact e_some ⟨hW9, hF9, trivial⟩
    · refine e_some ?_
      refine e_f (by decide) ?_
      exact e_some ⟨hW, hF, trivial⟩
set_option maxRecDepth 20000 in
set_option maxHeartbeats 4000000 in
theorem t_Bodies_isBarred {a1 : Int32} {a2 : Int32} {S : SS} (hW : WR S) : Ex2 (f_Bodies_isBarred a1 a2 S) (fun r U => WR U ∧ Fr [] [] S U ∧ rg r 0 1) := by
  have hF : Fr [] [] S S := Fr.rf
  refine e_eq (f_Bodies_isBarred.eq_1 _ _ _) ?_
  refine e_bnd ?_
  refine e_eq (f_Yard_isNot.eq_1 _ _ _ _) ?_
  refine e_i (fun q1 => ?_) (fun q1 => ?_)
  · refine e_some ?_
    refine e_f (by decide) ?_
    exact e_some ⟨hW, hF, ((rgl (0) 0 0 rfl).sub rfl)⟩
  · have f3 := nlt_l (rgt _) (rgl (0) 0 0 rfl) q1
    refine e_i (fun q4 => ?_) (fun q4 => ?_)
    · have f5 := le_l f3 (rgl (9) 9 9 rfl) q4
      refine e_some ?_
      refine e_t (by decide) ?_
      refine e_bnd ?_
      refine e_eq (f_Yard_isNot.eq_1 _ _ _ _) ?_
      refine e_i (fun q6 => ?_) (fun q6 => ?_)
      · refine e_some ?_
        refine e_f (by decide) ?_
        exact e_some ⟨hW, hF, ((rgl (0) 0 0 rfl).sub rfl)⟩
      · have f8 := nlt_l (rgt _) (rgl (0) 0 0 rfl) q6
        refine e_i (fun q9 => ?_) (fun q9 => ?_)
        · have f10 := le_l f8 (rgl (9) 9 9 rfl) q9
          refine e_some ?_
          refine e_t (by decide) ?_
          refine e_grd (inb_g (rg_add 0 99 (rg_mul 0 90 (rgl (10) 10 10 rfl) f5 rfl) f10 rfl) rfl) ?_
          refine e_i (fun q11 => ?_) (fun q11 => ?_)
          · exact e_some ⟨hW, hF, ((rgl (0) 0 0 rfl).sub rfl)⟩
          · exact e_some ⟨hW, hF, ((rgl (1) 1 1 rfl).sub rfl)⟩
        · refine e_some ?_
          refine e_f (by decide) ?_
          exact e_some ⟨hW, hF, ((rgl (0) 0 0 rfl).sub rfl)⟩
    · refine e_some ?_
      refine e_f (by decide) ?_
      exact e_some ⟨hW, hF, ((rgl (0) 0 0 rfl).sub rfl)⟩
set_option maxRecDepth 20000 in
set_option maxHeartbeats 4000000 in
theorem t_Bodies_setBarred {a1 : Int32} {a2 : Int32} {a3 : Int32} {S : SS} (hW : WR S) : Ex2 (f_Bodies_setBarred a1 a2 a3 S) (fun r U => WR U ∧ Fr [105] [] S U ∧ rg r 0 1) := by
  have hF : Fr [105] [] S S := Fr.rf
  refine e_eq (f_Bodies_setBarred.eq_1 _ _ _ _) ?_
  refine e_cE (t_Bodies_isBarred hW) (fun u1 T1 p1 => ?_)
  obtain ⟨-, hT1, hr1⟩ := p1
  have eT1 := (fr_nil hT1).symm
  subst eT1
  refine e_bnd ?_
  refine e_eq (f_Yard_isNot.eq_1 _ _ _ _) ?_
  refine e_i (fun q2 => ?_) (fun q2 => ?_)
  · refine e_some ?_
    refine e_f (by decide) ?_
    refine e_grd (isB_g hr1 rfl) ?_
    exact e_some ⟨hW, hF, hr1⟩
  · have f4 := nlt_l (rgt _) (rgl (0) 0 0 rfl) q2
    refine e_i (fun q5 => ?_) (fun q5 => ?_)
    · have f6 := le_l f4 (rgl (9) 9 9 rfl) q5
      refine e_some ?_
      refine e_t (by decide) ?_
      refine e_bnd ?_
      refine e_eq (f_Yard_isNot.eq_1 _ _ _ _) ?_
      refine e_i (fun q7 => ?_) (fun q7 => ?_)
      · refine e_some ?_
        refine e_f (by decide) ?_
        refine e_grd (isB_g hr1 rfl) ?_
        exact e_some ⟨hW, hF, hr1⟩
      · have f9 := nlt_l (rgt _) (rgl (0) 0 0 rfl) q7
        refine e_i (fun q10 => ?_) (fun q10 => ?_)
        · have f11 := le_l f9 (rgl (9) 9 9 rfl) q10
          refine e_some ?_
          refine e_t (by decide) ?_
          refine e_grd (inb_g (rg_add 0 99 (rg_mul 0 90 (rgl (10) 10 10 rfl) f6 rfl) f11 rfl) rfl) ?_
          refine e_wrA (fun T12 eT12 hT12 v12 => ?_)
          have hW12 := wo_105 hW (and1 _) eT12
          have hF12 := hF.tr hT12 rfl
          refine e_grd (inb_g (rg_add 0 99 (rg_mul 0 90 (rgl (10) 10 10 rfl) f11 rfl) f6 rfl) rfl) ?_
          refine e_wrA (fun T14 eT14 hT14 v14 => ?_)
          have hW14 := wo_105 hW12 (and1 _) eT14
          have hF14 := hF12.tr hT14 rfl
          refine e_grd (isB_g hr1 rfl) ?_
          exact e_some ⟨hW14, hF14, hr1⟩
        · refine e_some ?_
          refine e_f (by decide) ?_
          refine e_grd (isB_g hr1 rfl) ?_
          exact e_some ⟨hW, hF, hr1⟩
    · refine e_some ?_
      refine e_f (by decide) ?_
      refine e_grd (isB_g hr1 rfl) ?_
      exact e_some ⟨hW, hF, hr1⟩
set_option maxRecDepth 20000 in
set_option maxHeartbeats 4000000 in
theorem t_Yard_bar {a1 : Int32} {a2 : Int32} {a3 : Int32} {S : SS} (hW : WR S) : Ex2 (f_Yard_bar a1 a2 a3 S) (fun r U => WR U ∧ Fr [105] [(64, 6), (64, 7)] S U ∧ rg r (-1) 1) := by
  have hF : Fr [105] [(64, 6), (64, 7)] S S := Fr.rf
  refine e_eq (f_Yard_bar.eq_1 _ _ _ _) ?_
  refine e_bnd ?_
  refine e_eq (f_Yard_isNot.eq_1 _ _ _ _) ?_
  refine e_i (fun q1 => ?_) (fun q1 => ?_)
  · refine e_some ?_
    refine e_f (by decide) ?_
    exact e_some ⟨hW, hF, ((rgl (-1) (-1) (-1) rfl).sub rfl)⟩
  · refine e_i (fun q4 => ?_) (fun q4 => ?_)
    · refine e_some ?_
      refine e_t (by decide) ?_
      refine e_bnd ?_
      refine e_eq (f_Yard_isNot.eq_1 _ _ _ _) ?_
      refine e_i (fun q6 => ?_) (fun q6 => ?_)
      · refine e_some ?_
        refine e_f (by decide) ?_
        exact e_some ⟨hW, hF, ((rgl (-1) (-1) (-1) rfl).sub rfl)⟩
      · refine e_i (fun q9 => ?_) (fun q9 => ?_)
        · refine e_some ?_
          refine e_t (by decide) ?_
          refine e_cV (t_History_forget hW) (fun T11 p11 => ?_)
          obtain ⟨hW11, hT11⟩ := p11
          have hF11 := hF.tr hT11 rfl
          refine e_cE (t_Bodies_setBarred hW11) (fun u12 T12 p12 => ?_)
          obtain ⟨hW12, hT12, hr12⟩ := p12
          have hF12 := hF11.tr hT12 rfl
          refine e_i (fun q13 => ?_) (fun q13 => ?_)
          · exact e_some ⟨hW12, hF12, ((rgl (0) 0 0 rfl).sub rfl)⟩
          · exact e_some ⟨hW12, hF12, ((rgl (1) 1 1 rfl).sub rfl)⟩
        · refine e_some ?_
          refine e_f (by decide) ?_
          exact e_some ⟨hW, hF, ((rgl (-1) (-1) (-1) rfl).sub rfl)⟩
    · refine e_some ?_
      refine e_f (by decide) ?_
      exact e_some ⟨hW, hF, ((rgl (-1) (-1) (-1) rfl).sub rfl)⟩
set_option maxRecDepth 20000 in
set_option maxHeartbeats 4000000 in
theorem t_Yard_table {a1 : Int32} {a2 : Int32} {S : SS} (hW : WR S) : Ex2 (f_Yard_table a1 a2 S) (fun r U => WR U ∧ Fr [75] [(64, 6), (64, 7)] S U ∧ True) := by
  have hF : Fr [75] [(64, 6), (64, 7)] S S := Fr.rf
  refine e_eq (f_Yard_table.eq_1 _ _ _) ?_
  refine e_bnd ?_
  refine e_eq (f_Yard_isNot.eq_1 _ _ _ _) ?_
  refine e_i (fun q1 => ?_) (fun q1 => ?_)
  · refine e_some ?_
    refine e_f (by decide) ?_
    exact e_some ⟨hW, hF, trivial⟩
  · have f3 := nlt_l (rgt _) (rgl (0) 0 0 rfl) q1
    refine e_i (fun q4 => ?_) (fun q4 => ?_)
    · have f5 := le_l f3 (rgl (7) 7 7 rfl) q4
      refine e_some ?_
      refine e_t (by decide) ?_
      refine e_bnd ?_
      refine e_eq (f_Yard_isNot.eq_1 _ _ _ _) ?_
      refine e_i (fun q6 => ?_) (fun q6 => ?_)
      · refine e_some ?_
        refine e_f (by decide) ?_
        exact e_some ⟨hW, hF, trivial⟩
      · refine e_i (fun q9 => ?_) (fun q9 => ?_)
        · refine e_some ?_
          refine e_t (by decide) ?_
          refine e_cV (t_History_forget hW) (fun T11 p11 => ?_)
          obtain ⟨hW11, hT11⟩ := p11
          have hF11 := hF.tr hT11 rfl
          refine e_grd (inb_g f5 rfl) ?_
          refine e_nmG (fun w12 hw12 => ?_)
          refine e_grd (inb_g f5 rfl) ?_
          refine e_wrA (fun T13 eT13 hT13 v13 => ?_)
          have hW13 := WR.st (k := 75) hW11 trivial rfl eT13
          have hF13 := hF11.tr hT13 rfl
          exact e_some ⟨hW13, hF13, trivial⟩
        · refine e_some ?_
          refine e_f (by decide) ?_
          exact e_some ⟨hW, hF, trivial⟩
    · refine e_some ?_
      refine e_f (by decide) ?_
      exact e_some ⟨hW, hF, trivial⟩
set_option maxRecDepth 20000 in
set_option maxHeartbeats 4000000 in
theorem t_Routes_addRoute {S : SS} (hW : WR S) : Ex2 (f_Routes_addRoute  S) (fun r U => WR U ∧ Fr [] [(67, 8)] S U ∧ rg r (-3) 11) := by
  have hF : Fr [] [(67, 8)] S S := Fr.rf
  refine e_eq (f_Routes_addRoute.eq_1 _) ?_
  refine e_i (fun q1 => ?_) (fun q1 => ?_)
  · have f2 := lt_l 11 (ro_67_8 hW) (rgl (12) 12 12 rfl) q1 rfl
    refine e_wrO (fun T3 eT3 hT3 v3 => ?_)
    have hW3 := wo_67_8 hW ((rg_add 1 12 f2 (rgl (1) 1 1 rfl) rfl).sub rfl) eT3
    have hF3 := hF.tr hT3 rfl
    have f4 := rg_tr (rg_add 1 12 f2 (rgl (1) 1 1 rfl) rfl) v3
    exact e_some ⟨hW3, hF3, ((rg_sb 0 11 f4 (rgl (1) 1 1 rfl) rfl).sub rfl)⟩
  · exact e_some ⟨hW, hF, ((rgl (-3) (-3) (-3) rfl).sub rfl)⟩
set_option maxRecDepth 20000 in
set_option maxHeartbeats 4000000 in
theorem t_Yard_route {S : SS} (hW : WR S) : Ex2 (f_Yard_route  S) (fun r U => WR U ∧ Fr [] [(64, 6), (64, 7), (67, 8)] S U ∧ rg r (-3) 11) := by
  have hF : Fr [] [(64, 6), (64, 7), (67, 8)] S S := Fr.rf
  refine e_eq (f_Yard_route.eq_1 _) ?_
  refine e_i (fun q1 => ?_) (fun q1 => ?_)
  · refine e_cV (t_History_forget hW) (fun T3 p3 => ?_)
    obtain ⟨hW3, hT3⟩ := p3
    have hF3 := hF.tr hT3 rfl
    refine e_cE (t_Routes_addRoute hW3) (fun u5 T5 p5 => ?_)
    obtain ⟨hW5, hT5, hr5⟩ := p5
    have hF5 := hF3.tr hT5 rfl
    exact e_some ⟨hW5, hF5, hr5⟩
  · exact e_some ⟨hW, hF, ((rgl (-3) (-3) (-3) rfl).sub rfl)⟩
set_option maxRecDepth 20000 in
set_option maxHeartbeats 4000000 in
theorem t_Routes_putEntry {a1 : Int32} {a2 : Int32} {a3 : Int32} {a4 : Int32} {S : SS} (hW : WR S) (h0 : rg a1 0 95) : Ew (f_Routes_putEntry a1 a2 a3 a4 S) (fun U => WR U ∧ Fr [100, 101, 102] [] S U) := by
  have hF : Fr [100, 101, 102] [] S S := Fr.rf
  refine v_eq (f_Routes_putEntry.eq_1 _ _ _ _ _) ?_
  refine v_grd (inb_g h0 rfl) ?_
  refine v_wrA (fun T1 eT1 hT1 v1 => ?_)
  have hW1 := WR.st (k := 100) hW trivial rfl eT1
  have hF1 := hF.tr hT1 rfl
  refine v_grd (inb_g h0 rfl) ?_
  refine v_wrA (fun T2 eT2 hT2 v2 => ?_)
  have hW2 := WR.st (k := 101) hW1 trivial rfl eT2
  have hF2 := hF1.tr hT2 rfl
  refine v_grd (inb_g h0 rfl) ?_
  refine v_wrA (fun T3 eT3 hT3 v3 => ?_)
  have hW3 := WR.st (k := 102) hW2 trivial rfl eT3
  have hF3 := hF2.tr hT3 rfl
  exact v_some ⟨hW3, hF3⟩
set_option maxRecDepth 20000 in
set_option maxHeartbeats 4000000 in
theorem t_Routes_isBehind {a1 : Int32} {a2 : Int32} {a3 : Int32} {S : SS} (hW : WR S) (h0 : rg a1 0 95) : Ex2 (f_Routes_isBehind a1 a2 a3 S) (fun r U => WR U ∧ Fr [] [] S U ∧ rg r 0 1) := by
  have hF : Fr [] [] S S := Fr.rf
  refine e_eq (f_Routes_isBehind.eq_1 _ _ _ _) ?_
  refine e_grd (inb_g h0 rfl) ?_
  refine e_i (fun q1 => ?_) (fun q1 => ?_)
  · exact e_some ⟨hW, hF, ((rgl (1) 1 1 rfl).sub rfl)⟩
  · refine e_grd (inb_g h0 rfl) ?_
    refine e_i (fun q4 => ?_) (fun q4 => ?_)
    · refine e_grd (inb_g h0 rfl) ?_
      refine e_i (fun q5 => ?_) (fun q5 => ?_)
      · exact e_some ⟨hW, hF, ((rgl (0) 0 0 rfl).sub rfl)⟩
      · exact e_some ⟨hW, hF, ((rgl (1) 1 1 rfl).sub rfl)⟩
    · exact e_some ⟨hW, hF, ((rgl (0) 0 0 rfl).sub rfl)⟩
set_option maxRecDepth 20000 in
set_option maxHeartbeats 4000000 in
theorem t_Routes_addEntry_L42 {S0 : SS} : ∀ (n : Nat) (x1 : Int32) (x2 : Int32) (x3 : Int32) (x4 : Int32) (x6 : Int32) (x7 : Int32) (S : SS), WR S → Fr [99, 100, 101, 102] [] S0 S → rg x1 0 11 → rg x6 0 88 → rg x7 0 95 → rg (S.1 99 x1.toNatClampNeg) 0 7 → x7.toInt - 0 < (n : Int) → Ex2 (f_Routes_addEntry_L42 n x1 x2 x3 x4 x6 x7 S) (fun r U => WR U ∧ Fr [99, 100, 101, 102] [] S0 U ∧ rg r (-3) 8) := by
  intro n
  induction n with
  | zero =>
    intro x1 x2 x3 x4 x6 x7 S hW hF h0 h4 h5 hx0 hm
    exact dn_0 h5 hm rfl
  | succ n ih =>
    intro x1 x2 x3 x4 x6 x7 S hW hF h0 h4 h5 hx0 hm
    refine e_eq (f_Routes_addEntry_L42.eq_2 _ _ _ _ _ _ _ _) ?_
    refine e_i (fun q1 => ?_) (fun q1 => ?_)
    · have f2 := le_l h5 h4 q1
      refine e_eq (f_Routes_addEntry_j102.eq_1 _ _ _ _ _ _) ?_
      refine e_cV (t_Routes_putEntry hW (f2.sub rfl)) (fun T3 p3 => ?_)
      obtain ⟨hW3, hT3⟩ := p3
      have hF3 := hF.tr hT3 rfl
      have f4 := rg_tr hx0 (hT3.1 99 _ rfl)
      refine e_grd (inb_g h0 rfl) ?_
      refine e_grd (inb_g h0 rfl) ?_
      refine e_wrA (fun T5 eT5 hT5 v5 => ?_)
      have hW5 := wo_99 hW3 ((rg_add 1 8 f4 (rgl (1) 1 1 rfl) rfl).sub rfl) eT5
      have hF5 := hF3.tr hT5 rfl
      have f6 := rg_tr (rg_add 1 8 f4 (rgl (1) 1 1 rfl) rfl) v5
      refine e_grd (inb_g h0 rfl) ?_
      exact e_some ⟨hW5, hF5, (f6.sub rfl)⟩
    · have f7 := nle_l 1 h5 h4 q1 rfl
      refine e_cE (t_Routes_isBehind hW ((rg_sb 0 94 f7 (rgl (1) 1 1 rfl) rfl).sub rfl)) (fun u8 T8 p8 => ?_)
      obtain ⟨-, hT8, hr8⟩ := p8
      have eT8 := (fr_nil hT8).symm
      subst eT8
      refine e_i (fun q9 => ?_) (fun q9 => ?_)
      · refine e_eq (f_Routes_addEntry_j102.eq_1 _ _ _ _ _ _) ?_
        refine e_cV (t_Routes_putEntry hW (f7.sub rfl)) (fun T11 p11 => ?_)
        obtain ⟨hW11, hT11⟩ := p11
        have hF11 := hF.tr hT11 rfl
        have f12 := rg_tr hx0 (hT11.1 99 _ rfl)
        refine e_grd (inb_g h0 rfl) ?_
        refine e_grd (inb_g h0 rfl) ?_
        refine e_wrA (fun T13 eT13 hT13 v13 => ?_)
        have hW13 := wo_99 hW11 ((rg_add 1 8 f12 (rgl (1) 1 1 rfl) rfl).sub rfl) eT13
        have hF13 := hF11.tr hT13 rfl
        have f14 := rg_tr (rg_add 1 8 f12 (rgl (1) 1 1 rfl) rfl) v13
        refine e_grd (inb_g h0 rfl) ?_
        exact e_some ⟨hW13, hF13, (f14.sub rfl)⟩
      · refine e_grd (inb_g (rg_sb 0 94 f7 (rgl (1) 1 1 rfl) rfl) rfl) ?_
        refine e_grd (inb_g (rg_sb 0 94 f7 (rgl (1) 1 1 rfl) rfl) rfl) ?_
        refine e_grd (inb_g (rg_sb 0 94 f7 (rgl (1) 1 1 rfl) rfl) rfl) ?_
        refine e_cV (t_Routes_putEntry hW (f7.sub rfl)) (fun T16 p16 => ?_)
        obtain ⟨hW16, hT16⟩ := p16
        have hF16 := hF.tr hT16 rfl
        have f17 := rg_tr hx0 (hT16.1 99 _ rfl)
        refine e_nmG (fun w18 hw18 => ?_)
        have f19 := rg_tr (rg_add 0 94 f7 (rgl (-1) (-1) (-1) rfl) rfl) hw18
        exact ih _ _ _ _ _ _ _ hW16 hF16 h0 h4 (f19.sub rfl) f17 (dn_sp f7 hw18 hm rfl)
set_option maxRecDepth 20000 in
set_option maxHeartbeats 4000000 in
theorem t_Routes_addEntry {a1 : Int32} {a2 : Int32} {a3 : Int32} {a4 : Int32} {S : SS} (hW : WR S) (h0 : rg a1 0 11) : Ex2 (f_Routes_addEntry a1 a2 a3 a4 S) (fun r U => WR U ∧ Fr [99, 100, 101, 102] [] S U ∧ rg r (-3) 8) := by
  have hF : Fr [99, 100, 101, 102] [] S S := Fr.rf
  refine e_eq (f_Routes_addEntry.eq_1 _ _ _ _ _) ?_
  refine e_bnd ?_
  refine e_eq (f_Routes_entriesOf.eq_1 _ _) ?_
  refine e_f (d_nlt h0 (rgl 0 0 0 rfl) rfl) ?_
  refine e_i (fun q1 => ?_) (fun q1 => ?_)
  · refine e_some ?_
    refine e_f (d_nlt h0 (rgl 0 0 0 rfl) rfl) ?_
    refine e_t q1 ?_
    exact e_some ⟨hW, hF, ((rgl (-3) (-3) (-3) rfl).sub rfl)⟩
  · refine e_grd (inb_g h0 rfl) ?_
    refine e_someG (fun w4 hw4 => ?_)
    have f5 := rg_tr (ro_99 hW _) hw4
    refine e_f (d_nlt h0 (rgl 0 0 0 rfl) rfl) ?_
    refine e_f q1 ?_
    refine e_i (fun q6 => ?_) (fun q6 => ?_)
    · have f7 := lt_l 7 f5 (rgl (8) 8 8 rfl) q6 rfl
      have f8 := rg_tr f7 hw4.symm
      refine e_nmG (fun w9 hw9 => ?_)
      have f10 := rg_tr (rg_mul 0 88 (rgl (8) 8 8 rfl) h0 rfl) hw9
      refine e_nmG (fun w11 hw11 => ?_)
      have f12 := rg_tr (rg_add 0 95 f10 f7 rfl) hw11
      exact t_Routes_addEntry_L42  NF _ _ _ _ _ _ _ hW hF h0 f10 f12 f8 (dn_n f12 rfl)
    · exact e_some ⟨hW, hF, ((rgl (-3) (-3) (-3) rfl).sub rfl)⟩
set_option maxRecDepth 20000 in
set_option maxHeartbeats 4000000 in
theorem t_State_locker {a1 : Int32} {S : SS} (hW : WR S) : Ex2 (f_State_locker a1 S) (fun r U => WR U ∧ Fr [] [] S U ∧ True) := by
  have hF : Fr [] [] S S := Fr.rf
  refine e_eq (f_State_locker.eq_1 _ _) ?_
  refine e_i (fun q1 => ?_) (fun q1 => ?_)
  · exact e_some ⟨hW, hF, trivial⟩
  · have f3 := nlt_l (rgt _) (rgl 0 0 0 rfl) q1
    refine e_i (fun q4 => ?_) (fun q4 => ?_)
    · exact e_some ⟨hW, hF, trivial⟩
    · have f6 := nle_r 39 (rgl (40) 40 40 rfl) f3 q4 rfl
      refine e_grd (inb_g (rg_add 114 153 (rgl (114) 114 114 rfl) f6 rfl) rfl) ?_
      exact e_some ⟨hW, hF, trivial⟩
set_option maxRecDepth 20000 in
set_option maxHeartbeats 4000000 in
theorem t_Routes_lockedBy_L4 {S0 : SS} : ∀ (n : Nat) (x1 : Int32) (x2 : Int32) (x3 : Int32) (S : SS), WR S → Fr [] [] S0 S → rg x3 0 40 → 40 - x3.toInt < (n : Int) → Ex2 (f_Routes_lockedBy_L4 n x1 x2 x3 S) (fun r U => WR U ∧ Fr [] [] S0 U ∧ True) := by
  intro n
  induction n with
  | zero =>
    intro x1 x2 x3 S hW hF h2 hm
    exact up_0 h2 hm rfl
  | succ n ih =>
    intro x1 x2 x3 S hW hF h2 hm
    refine e_eq (f_Routes_lockedBy_L4.eq_2 _ _ _ _ _) ?_
    refine e_i (fun q1 => ?_) (fun q1 => ?_)
    · exact e_some ⟨hW, hF, trivial⟩
    · have f3 := nle_r 39 (ro_66_8 hW) h2 q1 rfl
      refine e_cE (t_State_locker hW) (fun u4 T4 p4 => ?_)
      obtain ⟨-, hT4, hr4⟩ := p4
      have eT4 := (fr_nil hT4).symm
      subst eT4
      refine e_i (fun q5 => ?_) (fun q5 => ?_)
      · refine e_nmG (fun w6 hw6 => ?_)
        refine e_eq (f_Routes_lockedBy_j30.eq_1 _ _ _ _ _) ?_
        refine e_nmG (fun w7 hw7 => ?_)
        have f8 := rg_tr (rg_add 1 40 f3 (rgl (1) 1 1 rfl) rfl) hw7
        exact ih _ _ _ _ hW hF (f8.sub rfl) (up_s f3 hw7 hm rfl)
      · refine e_eq (f_Routes_lockedBy_j30.eq_1 _ _ _ _ _) ?_
        refine e_nmG (fun w9 hw9 => ?_)
        have f10 := rg_tr (rg_add 1 40 f3 (rgl (1) 1 1 rfl) rfl) hw9
        exact ih _ _ _ _ hW hF (f10.sub rfl) (up_s f3 hw9 hm rfl)
set_option maxRecDepth 20000 in
set_option maxHeartbeats 4000000 in
theorem t_Routes_lockedBy {a1 : Int32} {S : SS} (hW : WR S) : Ex2 (f_Routes_lockedBy a1 S) (fun r U => WR U ∧ Fr [] [] S U ∧ True) := by
  have hF : Fr [] [] S S := Fr.rf
  refine e_eq (f_Routes_lockedBy.eq_1 _ _) ?_
  exact t_Routes_lockedBy_L4  NF _ _ _ _ hW hF ((rgl (0) 0 0 rfl).sub rfl) (up_n (rgl (0) 0 0 rfl) rfl)
set_option maxRecDepth 20000 in
set_option maxHeartbeats 4000000 in
theorem t_Routes_lockedFinding {a1 : Int32} {S : SS} (hW : WR S) : Ex2 (f_Routes_lockedFinding a1 S) (fun r U => WR U ∧ Fr [] [(62, 6)] S U ∧ rg r 11 11) := by
  have hF : Fr [] [(62, 6)] S S := Fr.rf
  refine e_eq (f_Routes_lockedFinding.eq_1 _ _) ?_
  refine e_wrO (fun T1 eT1 hT1 v1 => ?_)
  have hW1 := WR.st (k := 62) (i := 6) hW trivial rfl eT1
  have hF1 := hF.tr hT1 rfl
  exact e_some ⟨hW1, hF1, (rgl (11) 11 11 rfl)⟩
set_option maxRecDepth 20000 in
set_option maxHeartbeats 4000000 in
theorem t_Routes_entryFinding_L15 {S0 : SS} : ∀ (n : Nat) (x1 : Int32) (x2 : Int32) (x3 : Int32) (x4 : Int32) (x5 : Int32) (S : SS), WR S → Fr [] [(62, 6)] S0 S → rg x3 0 88 → rg x4 0 8 → rg x5 0 96 → 96 - x5.toInt < (n : Int) → Ex2 (f_Routes_entryFinding_L15 n x1 x2 x3 x4 x5 S) (fun r U => WR U ∧ Fr [] [(62, 6)] S0 U ∧ rg r 0 11) := by
  intro n
  induction n with
  | zero =>
    intro x1 x2 x3 x4 x5 S hW hF h2 h3 h4 hm
    exact up_0 h4 hm rfl
  | succ n ih =>
    intro x1 x2 x3 x4 x5 S hW hF h2 h3 h4 hm
    refine e_eq (f_Routes_entryFinding_L15.eq_2 _ _ _ _ _ _ _) ?_
    refine e_i (fun q1 => ?_) (fun q1 => ?_)
    · refine e_i (fun q2 => ?_) (fun q2 => ?_)
      · refine e_cE (t_Routes_lockedBy hW) (fun u4 T4 p4 => ?_)
        obtain ⟨-, hT4, hr4⟩ := p4
        have eT4 := (fr_nil hT4).symm
        subst eT4
        refine e_i (fun q5 => ?_) (fun q5 => ?_)
        · exact e_some ⟨hW, hF, ((rgl (0) 0 0 rfl).sub rfl)⟩
        · refine e_cE (t_Routes_lockedFinding hW) (fun u7 T7 p7 => ?_)
          obtain ⟨hW7, hT7, hr7⟩ := p7
          have hF7 := hF.tr hT7 rfl
          exact e_some ⟨hW7, hF7, (hr7.sub rfl)⟩
      · exact e_some ⟨hW, hF, ((rgl (9) 9 9 rfl).sub rfl)⟩
    · have f10 := nle_r 95 (rg_add 0 96 h2 h3 rfl) h4 q1 rfl
      refine e_grd (inb_g f10 rfl) ?_
      refine e_i (fun q11 => ?_) (fun q11 => ?_)
      · exact e_some ⟨hW, hF, ((rgl (9) 9 9 rfl).sub rfl)⟩
      · refine e_nmG (fun w12 hw12 => ?_)
        have f13 := rg_tr (rg_add 1 96 f10 (rgl (1) 1 1 rfl) rfl) hw12
        exact ih _ _ _ _ _ _ hW hF h2 h3 (f13.sub rfl) (up_s f10 hw12 hm rfl)
set_option maxRecDepth 20000 in
set_option maxHeartbeats 4000000 in
theorem t_Routes_entryFinding {a1 : Int32} {a2 : Int32} {S : SS} (hW : WR S) (h0 : rg a1 0 11) : Ex2 (f_Routes_entryFinding a1 a2 S) (fun r U => WR U ∧ Fr [] [(62, 6)] S U ∧ rg r 0 11) := by
  have hF : Fr [] [(62, 6)] S S := Fr.rf
  refine e_eq (f_Routes_entryFinding.eq_1 _ _ _) ?_
  refine e_nmG (fun w1 hw1 => ?_)
  have f2 := rg_tr (rg_mul 0 88 (rgl (8) 8 8 rfl) h0 rfl) hw1
  refine e_bnd ?_
  refine e_eq (f_Routes_entriesOf.eq_1 _ _) ?_
  refine e_f (d_nlt h0 (rgl 0 0 0 rfl) rfl) ?_
  refine e_i (fun q3 => ?_) (fun q3 => ?_)
  · refine e_some ?_
    exact t_Routes_entryFinding_L15  NF _ _ _ _ _ _ hW hF f2 ((rgl (0) 0 0 rfl).sub rfl) (f2.sub rfl) (up_n f2 rfl)
  · refine e_grd (inb_g h0 rfl) ?_
    refine e_someG (fun w6 hw6 => ?_)
    have f7 := rg_tr (ro_99 hW _) hw6
    exact t_Routes_entryFinding_L15  NF _ _ _ _ _ _ hW hF f2 f7 (f2.sub rfl) (up_n f2 rfl)
set_option maxRecDepth 20000 in
set_option maxHeartbeats 4000000 in
theorem t_Yard_via {a1 : Int32} {a2 : Int32} {a3 : Int32} {a4 : Int32} {S : SS} (hW : WR S) : Ex2 (f_Yard_via a1 a2 a3 a4 S) (fun r U => WR U ∧ Fr [77, 99, 100, 101, 102] [(62, 2), (62, 3), (62, 4), (62, 5), (62, 6), (64, 6), (64, 7)] S U ∧ rg r (-3) 8) := by
  have hF : Fr [77, 99, 100, 101, 102] [(62, 2), (62, 3), (62, 4), (62, 5), (62, 6), (64, 6), (64, 7)] S S := Fr.rf
  refine e_eq (f_Yard_via.eq_1 _ _ _ _ _) ?_
  refine e_bnd ?_
  refine e_eq (f_Yard_isNot.eq_1 _ _ _ _) ?_
  refine e_i (fun q1 => ?_) (fun q1 => ?_)
  · refine e_some ?_
    refine e_f (by decide) ?_
    exact e_some ⟨hW, hF, ((rgl (-1) (-1) (-1) rfl).sub rfl)⟩
  · refine e_i (fun q4 => ?_) (fun q4 => ?_)
    · refine e_some ?_
      refine e_t (by decide) ?_
      refine e_bnd ?_
      refine e_eq (f_Yard_isNot.eq_1 _ _ _ _) ?_
      refine e_i (fun q6 => ?_) (fun q6 => ?_)
      · refine e_some ?_
        refine e_f (by decide) ?_
        exact e_some ⟨hW, hF, ((rgl (-1) (-1) (-1) rfl).sub rfl)⟩
      · refine e_i (fun q9 => ?_) (fun q9 => ?_)
        · refine e_some ?_
          refine e_t (by decide) ?_
          refine e_cV (t_Report_begin hW) (fun T11 p11 => ?_)
          obtain ⟨hW11, hT11⟩ := p11
          have hF11 := hF.tr hT11 rfl
          refine e_bnd ?_
          refine e_eq (f_Routes_routeFinding.eq_1 _ _) ?_
          refine e_i (fun q12 => ?_) (fun q12 => ?_)
          · refine e_some ?_
            refine e_f (by decide) ?_
            refine e_eq (f_Yard_via_j54.eq_1 _ _ _ _ _ _) ?_
            refine e_f (by decide) ?_
            refine e_eq (f_Yard_via_j70.eq_1 _ _ _ _ _ _) ?_
            refine e_f (by decide) ?_
            refine e_cE (t_Report_found hW11) (fun u14 T14 p14 => ?_)
            obtain ⟨hW14, hT14, hr14⟩ := p14
            have hF14 := hF11.tr hT14 rfl
            exact e_some ⟨hW14, hF14, (hr14.sub rfl)⟩
          · have f15 := nlt_l (rgt _) (rgl 0 0 0 rfl) q12
            refine e_i (fun q16 => ?_) (fun q16 => ?_)
            · have f17 := lt_l 11 f15 (rgl (12) 12 12 rfl) q16 rfl
              refine e_i (fun q18 => ?_) (fun q18 => ?_)
              · refine e_some ?_
                refine e_f (by decide) ?_
                refine e_eq (f_Yard_via_j54.eq_1 _ _ _ _ _ _) ?_
                refine e_f (by decide) ?_
                refine e_eq (f_Yard_via_j70.eq_1 _ _ _ _ _ _) ?_
                refine e_f (by decide) ?_
                refine e_cE (t_Report_found hW11) (fun u20 T20 p20 => ?_)
                obtain ⟨hW20, hT20, hr20⟩ := p20
                have hF20 := hF11.tr hT20 rfl
                exact e_some ⟨hW20, hF20, (hr20.sub rfl)⟩
              · refine e_some ?_
                refine e_t (by decide) ?_
                refine e_bnd ?_
                refine e_eq (f_Layout_pointFinding.eq_1 _ _) ?_
                refine e_i (fun q23 => ?_) (fun q23 => ?_)
                · refine e_some ?_
                  refine e_eq (f_Yard_via_j54.eq_1 _ _ _ _ _ _) ?_
                  refine e_f (by decide) ?_
                  refine e_eq (f_Yard_via_j70.eq_1 _ _ _ _ _ _) ?_
                  refine e_f (by decide) ?_
                  refine e_cE (t_Report_found hW11) (fun u25 T25 p25 => ?_)
                  obtain ⟨hW25, hT25, hr25⟩ := p25
                  have hF25 := hF11.tr hT25 rfl
                  exact e_some ⟨hW25, hF25, (hr25.sub rfl)⟩
                · refine e_i (fun q28 => ?_) (fun q28 => ?_)
                  · refine e_i (fun q30 => ?_) (fun q30 => ?_)
                    · refine e_some ?_
                      refine e_eq (f_Yard_via_j54.eq_1 _ _ _ _ _ _) ?_
                      refine e_f (by decide) ?_
                      refine e_eq (f_Yard_via_j70.eq_1 _ _ _ _ _ _) ?_
                      refine e_f (by decide) ?_
                      refine e_cE (t_Report_found hW11) (fun u32 T32 p32 => ?_)
                      obtain ⟨hW32, hT32, hr32⟩ := p32
                      have hF32 := hF11.tr hT32 rfl
                      exact e_some ⟨hW32, hF32, (hr32.sub rfl)⟩
                    · refine e_some ?_
                      refine e_eq (f_Yard_via_j54.eq_1 _ _ _ _ _ _) ?_
                      refine e_t (by decide) ?_
                      refine e_cE (t_Routes_entryFinding hW11 f17) (fun u36 T36 p36 => ?_)
                      obtain ⟨hW36, hT36, hr36⟩ := p36
                      have hF36 := hF11.tr hT36 rfl
                      refine e_eq (f_Yard_via_j70.eq_1 _ _ _ _ _ _) ?_
                      refine e_i (fun q39 => ?_) (fun q39 => ?_)
                      · refine e_cV (t_History_forget hW36) (fun T41 p41 => ?_)
                        obtain ⟨hW41, hT41⟩ := p41
                        have hF41 := hF36.tr hT41 rfl
                        refine e_cE (t_Routes_addEntry hW41 f17) (fun u44 T44 p44 => ?_)
                        obtain ⟨hW44, hT44, hr44⟩ := p44
                        have hF44 := hF41.tr hT44 rfl
                        exact e_some ⟨hW44, hF44, hr44⟩
                      · refine e_cE (t_Report_found hW36) (fun u48 T48 p48 => ?_)
                        obtain ⟨hW48, hT48, hr48⟩ := p48
                        have hF48 := hF36.tr hT48 rfl
                        exact e_some ⟨hW48, hF48, (hr48.sub rfl)⟩
                  · refine e_some ?_
                    refine e_eq (f_Yard_via_j54.eq_1 _ _ _ _ _ _) ?_
                    refine e_f (by decide) ?_
                    refine e_eq (f_Yard_via_j70.eq_1 _ _ _ _ _ _) ?_
                    refine e_f (by decide) ?_
                    refine e_cE (t_Report_found hW11) (fun u52 T52 p52 => ?_)
                    obtain ⟨hW52, hT52, hr52⟩ := p52
                    have hF52 := hF11.tr hT52 rfl
                    exact e_some ⟨hW52, hF52, (hr52.sub rfl)⟩
            · refine e_some ?_
              refine e_f (by decide) ?_
              refine e_eq (f_Yard_via_j54.eq_1 _ _ _ _ _ _) ?_
              refine e_f (by decide) ?_
              refine e_eq (f_Yard_via_j70.eq_1 _ _ _ _ _ _) ?_
              refine e_f (by decide) ?_
              refine e_cE (t_Report_found hW11) (fun u55 T55 p55 => ?_)
              obtain ⟨hW55, hT55, hr55⟩ := p55
              have hF55 := hF11.tr hT55 rfl
              exact e_some ⟨hW55, hF55, (hr55.sub rfl)⟩
        · refine e_some ?_
          refine e_f (by decide) ?_
          exact e_some ⟨hW, hF, ((rgl (-1) (-1) (-1) rfl).sub rfl)⟩
    · refine e_some ?_
      refine e_f (by decide) ?_
      exact e_some ⟨hW, hF, ((rgl (-1) (-1) (-1) rfl).sub rfl)⟩
set_option maxRecDepth 20000 in
set_option maxHeartbeats 4000000 in
theorem t_Stock_get {a1 : Int32} {a2 : Int32} {S : SS} (hW : WR S) (h1 : rg a2 0 5) : Ex2 (f_Stock_get a1 a2 S) (fun r U => WR U ∧ Fr [] [] S U ∧ True) := by
  have hF : Fr [] [] S S := Fr.rf
  refine e_eq (f_Stock_get.eq_1 _ _ _) ?_
  refine e_i (fun q1 => ?_) (fun q1 => ?_)
  · exact e_some ⟨hW, hF, trivial⟩
  · have f3 := nlt_l (rgt _) (rgl 0 0 0 rfl) q1
    refine e_i (fun q4 => ?_) (fun q4 => ?_)
    · exact e_some ⟨hW, hF, trivial⟩
    · have f6 := nle_r 71 (rgl (72) 72 72 rfl) f3 q4 rfl
      refine e_grd (inb_g (rg_add 0 431 (rg_mul 0 426 (rgl (6) 6 6 rfl) f6 rfl) h1 rfl) rfl) ?_
      exact e_some ⟨hW, hF, trivial⟩
set_option maxRecDepth 20000 in
set_option maxHeartbeats 4000000 in
theorem t_Stock_putPiece {a1 : Int32} {a2 : Int32} {a3 : Int32} {S : SS} (hW : WR S) : Ex2 (f_Stock_putPiece a1 a2 a3 S) (fun r U => WR U ∧ Fr [92] [] S U ∧ True) := by
  have hF : Fr [92] [] S S := Fr.rf
  refine e_eq (f_Stock_putPiece.eq_1 _ _ _ _) ?_
  refine e_i (fun q1 => ?_) (fun q1 => ?_)
  · exact e_some ⟨hW, hF, trivial⟩
  · have f3 := nlt_l (rgt _) (rgl 0 0 0 rfl) q1
    refine e_i (fun q4 => ?_) (fun q4 => ?_)
    · exact e_some ⟨hW, hF, trivial⟩
    · have f6 := nle_r 71 (rgl (72) 72 72 rfl) f3 q4 rfl
      refine e_i (fun q7 => ?_) (fun q7 => ?_)
      · exact e_some ⟨hW, hF, trivial⟩
      · have f9 := nlt_l (rgt _) (rgl 0 0 0 rfl) q7
        refine e_i (fun q10 => ?_) (fun q10 => ?_)
        · have f11 := lt_l 19 f9 (rgl (20) 20 20 rfl) q10 rfl
          refine e_grd (inb_g (rg_add 0 1439 (rg_mul 0 1420 (rgl (20) 20 20 rfl) f6 rfl) f11 rfl) rfl) ?_
          refine e_nmG (fun w12 hw12 => ?_)
          refine e_grd (inb_g (rg_add 0 1439 (rg_mul 0 1420 (rgl (20) 20 20 rfl) f6 rfl) f11 rfl) rfl) ?_
          refine e_wrA (fun T13 eT13 hT13 v13 => ?_)
          have hW13 := WR.st (k := 92) hW trivial rfl eT13
          have hF13 := hF.tr hT13 rfl
          exact e_some ⟨hW13, hF13, trivial⟩
        · exact e_some ⟨hW, hF, trivial⟩
set_option maxRecDepth 20000 in
set_option maxHeartbeats 4000000 in
theorem t_Stock_newLoad_L24 {S0 : SS} : ∀ (n : Nat) (x1 : Int32) (x3 : Int32) (x4 : Int32) (S : SS), WR S → Fr [91, 92] [] S0 S → rg x3 0 20 → rg x4 0 20 → 20 - x4.toInt < (n : Int) → Ew (f_Stock_newLoad_L24 n x1 x3 x4 S) (fun U => WR U ∧ Fr [91, 92] [] S0 U) := by
  intro n
  induction n with
  | zero =>
    intro x1 x3 x4 S hW hF h1 h2 hm
    exact up_0 h2 hm rfl
  | succ n ih =>
    intro x1 x3 x4 S hW hF h1 h2 hm
    refine v_eq (f_Stock_newLoad_L24.eq_2 _ _ _ _ _) ?_
    refine v_i (fun q1 => ?_) (fun q1 => ?_)
    · exact v_some ⟨hW, hF⟩
    · have f2 := nle_l 1 h1 h2 q1 rfl
      have f3 := nle_r 19 h1 h2 q1 rfl
      refine v_cE (t_Stock_putPiece hW) (fun u4 T4 p4 => ?_)
      obtain ⟨hW4, hT4, hr4⟩ := p4
      have hF4 := hF.tr hT4 rfl
      refine v_nmG (fun w5 hw5 => ?_)
      have f6 := rg_tr (rg_add 1 20 f3 (rgl (1) 1 1 rfl) rfl) hw5
      exact ih _ _ _ _ hW4 hF4 (f2.sub rfl) (f6.sub rfl) (up_s f3 hw5 hm rfl)
set_option maxRecDepth 20000 in
set_option maxHeartbeats 4000000 in
theorem t_Stock_newLoad {a1 : Int32} {a2 : Int32} {a3 : Int32} {S : SS} (hW : WR S) (h2 : rg a3 0 20) : Ew (f_Stock_newLoad a1 a2 a3 S) (fun U => WR U ∧ Fr [91, 92] [] S U) := by
  have hF : Fr [91, 92] [] S S := Fr.rf
  refine v_eq (f_Stock_newLoad.eq_1 _ _ _ _) ?_
  refine v_cV (t_Stock_set hW ((rgl (3) 3 3 rfl).sub rfl)) (fun T1 p1 => ?_)
  obtain ⟨hW1, hT1⟩ := p1
  have hF1 := hF.tr hT1 rfl
  refine v_cV (t_Stock_set hW1 ((rgl (4) 4 4 rfl).sub rfl)) (fun T2 p2 => ?_)
  obtain ⟨hW2, hT2⟩ := p2
  have hF2 := hF1.tr hT2 rfl
  refine v_cV (t_Stock_set hW2 ((rgl (5) 5 5 rfl).sub rfl)) (fun T3 p3 => ?_)
  obtain ⟨hW3, hT3⟩ := p3
  have hF3 := hF2.tr hT3 rfl
  exact t_Stock_newLoad_L24  NF _ _ _ _ hW3 hF3 h2 ((rgl (0) 0 0 rfl).sub rfl) (up_n (rgl (0) 0 0 rfl) rfl)
set_option maxRecDepth 20000 in
set_option maxHeartbeats 4000000 in
theorem t_Yard_load {a1 : Int32} {a2 : Int32} {a3 : Int32} {S : SS} (hW : WR S) : Ex2 (f_Yard_load a1 a2 a3 S) (fun r U => WR U ∧ Fr [77, 91, 92] [(62, 2), (62, 3), (62, 4), (62, 5), (62, 6)] S U ∧ rg r (-2) 20) := by
  have hF : Fr [77, 91, 92] [(62, 2), (62, 3), (62, 4), (62, 5), (62, 6)] S S := Fr.rf
  refine e_eq (f_Yard_load.eq_1 _ _ _ _) ?_
  refine e_bnd ?_
  refine e_eq (f_Yard_isNot.eq_1 _ _ _ _) ?_
  refine e_i (fun q1 => ?_) (fun q1 => ?_)
  · refine e_some ?_
    refine e_f (by decide) ?_
    exact e_some ⟨hW, hF, ((rgl (-1) (-1) (-1) rfl).sub rfl)⟩
  · refine e_i (fun q4 => ?_) (fun q4 => ?_)
    · refine e_some ?_
      refine e_t (by decide) ?_
      refine e_i (fun q6 => ?_) (fun q6 => ?_)
      · have f7 := le_l (rgt _) (rgl (20) 20 20 rfl) q6
        refine e_cV (t_Report_begin hW) (fun T8 p8 => ?_)
        obtain ⟨hW8, hT8⟩ := p8
        have hF8 := hF.tr hT8 rfl
        refine e_bnd ?_
        refine e_eq (f_Yard_named.eq_1 _ _ _) ?_
        refine e_bnd ?_
        refine e_eq (f_Yard_isNot.eq_1 _ _ _ _) ?_
        refine e_i (fun q9 => ?_) (fun q9 => ?_)
        · refine e_some ?_
          refine e_f (by decide) ?_
          refine e_some ?_
          refine e_f (by decide) ?_
          refine e_eq (f_Yard_load_j45.eq_1 _ _ _ _ _) ?_
          refine e_f (by decide) ?_
          refine e_cE (t_Report_found hW8) (fun u11 T11 p11 => ?_)
          obtain ⟨hW11, hT11, hr11⟩ := p11
          have hF11 := hF8.tr hT11 rfl
          exact e_some ⟨hW11, hF11, (hr11.sub rfl)⟩
        · refine e_i (fun q13 => ?_) (fun q13 => ?_)
          · refine e_some ?_
            refine e_t (by decide) ?_
            refine e_i (fun q15 => ?_) (fun q15 => ?_)
            · refine e_bnd ?_
              refine e_eq (f_Stock_isAs.eq_1 _ _ _) ?_
              refine e_cE (t_Stock_get hW8 ((rgl (0) 0 0 rfl).sub rfl)) (fun u17 T17 p17 => ?_)
              obtain ⟨-, hT17, hr17⟩ := p17
              have eT17 := (fr_nil hT17).symm
              subst eT17
              refine e_i (fun q18 => ?_) (fun q18 => ?_)
              · refine e_some ?_
                refine e_t (by decide) ?_
                refine e_some ?_
                refine e_f (by decide) ?_
                refine e_eq (f_Yard_load_j45.eq_1 _ _ _ _ _) ?_
                refine e_f (by decide) ?_
                refine e_cE (t_Report_found hW8) (fun u20 T20 p20 => ?_)
                obtain ⟨hW20, hT20, hr20⟩ := p20
                have hF20 := hF8.tr hT20 rfl
                exact e_some ⟨hW20, hF20, (hr20.sub rfl)⟩
              · refine e_i (fun q23 => ?_) (fun q23 => ?_)
                · refine e_some ?_
                  refine e_f (by decide) ?_
                  refine e_bnd ?_
                  refine e_eq (f_State_isThere.eq_1 _ _) ?_
                  refine e_cE (t_State_get hW8 ((rgl (0) 0 0 rfl).sub rfl)) (fun u25 T25 p25 => ?_)
                  obtain ⟨-, hT25, hr25⟩ := p25
                  have eT25 := (fr_nil hT25).symm
                  subst eT25
                  refine e_i (fun q26 => ?_) (fun q26 => ?_)
                  · refine e_some ?_
                    refine e_t (by decide) ?_
                    refine e_some ?_
                    refine e_f (by decide) ?_
                    refine e_eq (f_Yard_load_j45.eq_1 _ _ _ _ _) ?_
                    refine e_f (by decide) ?_
                    refine e_cE (t_Report_found hW8) (fun u28 T28 p28 => ?_)
                    obtain ⟨hW28, hT28, hr28⟩ := p28
                    have hF28 := hF8.tr hT28 rfl
                    exact e_some ⟨hW28, hF28, (hr28.sub rfl)⟩
                  · refine e_some ?_
                    refine e_f (by decide) ?_
                    refine e_some ?_
                    refine e_t (by decide) ?_
                    refine e_i (fun q31 => ?_) (fun q31 => ?_)
                    · have f32 := le_r (rgl 0 0 0 rfl) f7 q31
                      refine e_eq (f_Yard_load_j45.eq_1 _ _ _ _ _) ?_
                      refine e_t (by decide) ?_
                      refine e_cV (t_Stock_newLoad hW8 f32) (fun T33 p33 => ?_)
                      obtain ⟨hW33, hT33⟩ := p33
                      have hF33 := hF8.tr hT33 rfl
                      exact e_some ⟨hW33, hF33, (f32.sub rfl)⟩
                    · refine e_eq (f_Yard_load_j45.eq_1 _ _ _ _ _) ?_
                      refine e_f (by decide) ?_
                      refine e_cE (t_Report_found hW8) (fun u36 T36 p36 => ?_)
                      obtain ⟨hW36, hT36, hr36⟩ := p36
                      have hF36 := hF8.tr hT36 rfl
                      exact e_some ⟨hW36, hF36, (hr36.sub rfl)⟩
                · refine e_some ?_
                  refine e_t (by decide) ?_
                  refine e_some ?_
                  refine e_f (by decide) ?_
                  refine e_eq (f_Yard_load_j45.eq_1 _ _ _ _ _) ?_
                  refine e_f (by decide) ?_
                  refine e_cE (t_Report_found hW8) (fun u39 T39 p39 => ?_)
                  obtain ⟨hW39, hT39, hr39⟩ := p39
                  have hF39 := hF8.tr hT39 rfl
                  exact e_some ⟨hW39, hF39, (hr39.sub rfl)⟩
            · refine e_some ?_
              refine e_f (by decide) ?_
              refine e_eq (f_Yard_load_j45.eq_1 _ _ _ _ _) ?_
              refine e_f (by decide) ?_
              refine e_cE (t_Report_found hW8) (fun u42 T42 p42 => ?_)
              obtain ⟨hW42, hT42, hr42⟩ := p42
              have hF42 := hF8.tr hT42 rfl
              exact e_some ⟨hW42, hF42, (hr42.sub rfl)⟩
          · refine e_some ?_
            refine e_f (by decide) ?_
            refine e_some ?_
            refine e_f (by decide) ?_
            refine e_eq (f_Yard_load_j45.eq_1 _ _ _ _ _) ?_
            refine e_f (by decide) ?_
            refine e_cE (t_Report_found hW8) (fun u45 T45 p45 => ?_)
            obtain ⟨hW45, hT45, hr45⟩ := p45
            have hF45 := hF8.tr hT45 rfl
            exact e_some ⟨hW45, hF45, (hr45.sub rfl)⟩
      · exact e_some ⟨hW, hF, ((rgl (-1) (-1) (-1) rfl).sub rfl)⟩
    · refine e_some ?_
      refine e_f (by decide) ?_
      exact e_some ⟨hW, hF, ((rgl (-1) (-1) (-1) rfl).sub rfl)⟩
set_option maxRecDepth 20000 in
set_option maxHeartbeats 4000000 in
theorem t_Stock_setPiece {a1 : Int32} {a2 : Int32} {a3 : Int32} {S : SS} (hW : WR S) : Ew (f_Stock_setPiece a1 a2 a3 S) (fun U => WR U ∧ Fr [91, 92] [] S U) := by
  have hF : Fr [91, 92] [] S S := Fr.rf
  refine v_eq (f_Stock_setPiece.eq_1 _ _ _ _) ?_
  refine v_cE (t_Stock_putPiece hW) (fun u1 T1 p1 => ?_)
  obtain ⟨hW1, hT1, hr1⟩ := p1
  have hF1 := hF.tr hT1 rfl
  refine v_cE (t_Stock_get hW1 ((rgl (5) 5 5 rfl).sub rfl)) (fun u2 T2 p2 => ?_)
  obtain ⟨-, hT2, hr2⟩ := p2
  have eT2 := (fr_nil hT2).symm
  subst eT2
  refine v_cV (t_Stock_set hW1 ((rgl (5) 5 5 rfl).sub rfl)) (fun T3 p3 => ?_)
  obtain ⟨hW3, hT3⟩ := p3
  have hF3 := hF1.tr hT3 rfl
  exact v_some ⟨hW3, hF3⟩
set_option maxRecDepth 20000 in
set_option maxHeartbeats 4000000 in
theorem t_Stock_pieceFinding {a1 : Int32} {a2 : Int32} {a3 : Int32} {S : SS} (hW : WR S) : Ex2 (f_Stock_pieceFinding a1 a2 a3 S) (fun r U => WR U ∧ Fr [] [] S U ∧ rg r 0 3) := by
  have hF : Fr [] [] S S := Fr.rf
  refine e_eq (f_Stock_pieceFinding.eq_1 _ _ _ _) ?_
  refine e_cE (t_Stock_get hW ((rgl (3) 3 3 rfl).sub rfl)) (fun u1 T1 p1 => ?_)
  obtain ⟨-, hT1, hr1⟩ := p1
  have eT1 := (fr_nil hT1).symm
  subst eT1
  refine e_i (fun q2 => ?_) (fun q2 => ?_)
  · exact e_some ⟨hW, hF, ((rgl (1) 1 1 rfl).sub rfl)⟩
  · refine e_i (fun q4 => ?_) (fun q4 => ?_)
    · refine e_i (fun q5 => ?_) (fun q5 => ?_)
      · exact e_some ⟨hW, hF, ((rgl (3) 3 3 rfl).sub rfl)⟩
      · refine e_cE (t_Stock_get hW ((rgl (4) 4 4 rfl).sub rfl)) (fun u8 T8 p8 => ?_)
        obtain ⟨-, hT8, hr8⟩ := p8
        have eT8 := (fr_nil hT8).symm
        subst eT8
        refine e_i (fun q9 => ?_) (fun q9 => ?_)
        · exact e_some ⟨hW, hF, ((rgl (0) 0 0 rfl).sub rfl)⟩
        · exact e_some ⟨hW, hF, ((rgl (3) 3 3 rfl).sub rfl)⟩
    · exact e_some ⟨hW, hF, ((rgl (2) 2 2 rfl).sub rfl)⟩
set_option maxRecDepth 20000 in
set_option maxHeartbeats 4000000 in
theorem t_Yard_piece {a1 : Int32} {a2 : Int32} {a3 : Int32} {a4 : Int32} {S : SS} (hW : WR S) : Ex2 (f_Yard_piece a1 a2 a3 a4 S) (fun r U => WR U ∧ Fr [77, 91, 92] [(62, 2), (62, 3), (62, 4), (62, 5), (62, 6)] S U ∧ rg r (-2) 1) := by
  have hF : Fr [77, 91, 92] [(62, 2), (62, 3), (62, 4), (62, 5), (62, 6)] S S := Fr.rf
  refine e_eq (f_Yard_piece.eq_1 _ _ _ _ _) ?_
  refine e_bnd ?_
  refine e_eq (f_Yard_isNot.eq_1 _ _ _ _) ?_
  refine e_i (fun q1 => ?_) (fun q1 => ?_)
  · refine e_some ?_
    refine e_f (by decide) ?_
    exact e_some ⟨hW, hF, ((rgl (-1) (-1) (-1) rfl).sub rfl)⟩
  · refine e_i (fun q4 => ?_) (fun q4 => ?_)
    · refine e_some ?_
      refine e_t (by decide) ?_
      refine e_bnd ?_
      refine e_eq (f_Yard_isNot.eq_1 _ _ _ _) ?_
      refine e_i (fun q6 => ?_) (fun q6 => ?_)
      · refine e_some ?_
        refine e_f (by decide) ?_
        exact e_some ⟨hW, hF, ((rgl (-1) (-1) (-1) rfl).sub rfl)⟩
      · refine e_i (fun q9 => ?_) (fun q9 => ?_)
        · refine e_some ?_
          refine e_t (by decide) ?_
          refine e_cV (t_Report_begin hW) (fun T11 p11 => ?_)
          obtain ⟨hW11, hT11⟩ := p11
          have hF11 := hF.tr hT11 rfl
          refine e_bnd ?_
          refine e_eq (f_Yard_named.eq_1 _ _ _) ?_
          refine e_bnd ?_
          refine e_eq (f_Yard_isNot.eq_1 _ _ _ _) ?_
          refine e_i (fun q12 => ?_) (fun q12 => ?_)
          · refine e_some ?_
            refine e_f (by decide) ?_
            refine e_some ?_
            refine e_f (by decide) ?_
            refine e_eq (f_Yard_piece_j55.eq_1 _ _ _ _ _) ?_
            refine e_f (by decide) ?_
            refine e_cE (t_Report_found hW11) (fun u14 T14 p14 => ?_)
            obtain ⟨hW14, hT14, hr14⟩ := p14
            have hF14 := hF11.tr hT14 rfl
            exact e_some ⟨hW14, hF14, (hr14.sub rfl)⟩
          · refine e_i (fun q16 => ?_) (fun q16 => ?_)
            · refine e_some ?_
              refine e_t (by decide) ?_
              refine e_i (fun q18 => ?_) (fun q18 => ?_)
              · refine e_bnd ?_
                refine e_eq (f_Stock_isAs.eq_1 _ _ _) ?_
                refine e_cE (t_Stock_get hW11 ((rgl (0) 0 0 rfl).sub rfl)) (fun u20 T20 p20 => ?_)
                obtain ⟨-, hT20, hr20⟩ := p20
                have eT20 := (fr_nil hT20).symm
                subst eT20
                refine e_i (fun q21 => ?_) (fun q21 => ?_)
                · refine e_some ?_
                  refine e_t (by decide) ?_
                  refine e_some ?_
                  refine e_f (by decide) ?_
                  refine e_eq (f_Yard_piece_j55.eq_1 _ _ _ _ _) ?_
                  refine e_f (by decide) ?_
                  refine e_cE (t_Report_found hW11) (fun u23 T23 p23 => ?_)
                  obtain ⟨hW23, hT23, hr23⟩ := p23
                  have hF23 := hF11.tr hT23 rfl
                  exact e_some ⟨hW23, hF23, (hr23.sub rfl)⟩
                · refine e_i (fun q26 => ?_) (fun q26 => ?_)
                  · refine e_some ?_
                    refine e_f (by decide) ?_
                    refine e_bnd ?_
                    refine e_eq (f_State_isThere.eq_1 _ _) ?_
                    refine e_cE (t_State_get hW11 ((rgl (0) 0 0 rfl).sub rfl)) (fun u28 T28 p28 => ?_)
                    obtain ⟨-, hT28, hr28⟩ := p28
                    have eT28 := (fr_nil hT28).symm
                    subst eT28
                    refine e_i (fun q29 => ?_) (fun q29 => ?_)
                    · refine e_some ?_
                      refine e_t (by decide) ?_
                      refine e_some ?_
                      refine e_f (by decide) ?_
                      refine e_eq (f_Yard_piece_j55.eq_1 _ _ _ _ _) ?_
                      refine e_f (by decide) ?_
                      refine e_cE (t_Report_found hW11) (fun u31 T31 p31 => ?_)
                      obtain ⟨hW31, hT31, hr31⟩ := p31
                      have hF31 := hF11.tr hT31 rfl
                      exact e_some ⟨hW31, hF31, (hr31.sub rfl)⟩
                    · refine e_some ?_
                      refine e_f (by decide) ?_
                      refine e_some ?_
                      refine e_t (by decide) ?_
                      refine e_cE (t_Stock_pieceFinding hW11) (fun u34 T34 p34 => ?_)
                      obtain ⟨-, hT34, hr34⟩ := p34
                      have eT34 := (fr_nil hT34).symm
                      subst eT34
                      refine e_eq (f_Yard_piece_j55.eq_1 _ _ _ _ _) ?_
                      refine e_i (fun q35 => ?_) (fun q35 => ?_)
                      · refine e_cV (t_Stock_setPiece hW11) (fun T37 p37 => ?_)
                        obtain ⟨hW37, hT37⟩ := p37
                        have hF37 := hF11.tr hT37 rfl
                        exact e_some ⟨hW37, hF37, ((rgl (1) 1 1 rfl).sub rfl)⟩
                      · refine e_cE (t_Report_found hW11) (fun u40 T40 p40 => ?_)
                        obtain ⟨hW40, hT40, hr40⟩ := p40
                        have hF40 := hF11.tr hT40 rfl
                        exact e_some ⟨hW40, hF40, (hr40.sub rfl)⟩
                  · refine e_some ?_
                    refine e_t (by decide) ?_
                    refine e_some ?_
                    refine e_f (by decide) ?_
                    refine e_eq (f_Yard_piece_j55.eq_1 _ _ _ _ _) ?_
                    refine e_f (by decide) ?_
                    refine e_cE (t_Report_found hW11) (fun u43 T43 p43 => ?_)
                    obtain ⟨hW43, hT43, hr43⟩ := p43
                    have hF43 := hF11.tr hT43 rfl
                    exact e_some ⟨hW43, hF43, (hr43.sub rfl)⟩
              · refine e_some ?_
                refine e_f (by decide) ?_
                refine e_eq (f_Yard_piece_j55.eq_1 _ _ _ _ _) ?_
                refine e_f (by decide) ?_
                refine e_cE (t_Report_found hW11) (fun u46 T46 p46 => ?_)
                obtain ⟨hW46, hT46, hr46⟩ := p46
                have hF46 := hF11.tr hT46 rfl
                exact e_some ⟨hW46, hF46, (hr46.sub rfl)⟩
            · refine e_some ?_
              refine e_f (by decide) ?_
              refine e_some ?_
              refine e_f (by decide) ?_
              refine e_eq (f_Yard_piece_j55.eq_1 _ _ _ _ _) ?_
              refine e_f (by decide) ?_
              refine e_cE (t_Report_found hW11) (fun u49 T49 p49 => ?_)
              obtain ⟨hW49, hT49, hr49⟩ := p49
              have hF49 := hF11.tr hT49 rfl
              exact e_some ⟨hW49, hF49, (hr49.sub rfl)⟩
        · refine e_some ?_
          refine e_f (by decide) ?_
          exact e_some ⟨hW, hF, ((rgl (-1) (-1) (-1) rfl).sub rfl)⟩
    · refine e_some ?_
      refine e_f (by decide) ?_
      exact e_some ⟨hW, hF, ((rgl (-1) (-1) (-1) rfl).sub rfl)⟩
set_option maxRecDepth 20000 in
set_option maxHeartbeats 4000000 in
theorem t_State_usedCells {S : SS} (hW : WR S) : Ex2 (f_State_usedCells  S) (fun r U => WR U ∧ Fr [] [] S U ∧ rg r 154 946) := by
  have hF : Fr [] [] S S := Fr.rf
  refine e_eq (f_State_usedCells.eq_1 _) ?_
  exact e_some ⟨hW, hF, (rg_add 154 946 (rgl (154) 154 154 rfl) (rg_mul 0 792 (rgl (11) 11 11 rfl) (ro_63_1 hW) rfl) rfl)⟩
set_option maxRecDepth 20000 in
set_option maxHeartbeats 4000000 in
theorem t_Yard_beginAct {S : SS} (hW : WR S) : Ew (f_Yard_beginAct  S) (fun U => WR U ∧ Fr [81, 82, 83, 84, 85, 86, 87, 88] [(62, 2), (62, 3), (62, 4), (62, 5), (62, 6), (64, 3), (64, 6), (64, 7)] S U) := by
  have hF : Fr [81, 82, 83, 84, 85, 86, 87, 88] [(62, 2), (62, 3), (62, 4), (62, 5), (62, 6), (64, 3), (64, 6), (64, 7)] S S := Fr.rf
  refine v_eq (f_Yard_beginAct.eq_1 _) ?_
  refine v_cV (t_Report_begin hW) (fun T1 p1 => ?_)
  obtain ⟨hW1, hT1⟩ := p1
  have hF1 := hF.tr hT1 rfl
  refine v_cV (t_History_keep hW1) (fun T2 p2 => ?_)
  obtain ⟨hW2, hT2⟩ := p2
  have hF2 := hF1.tr hT2 rfl
  exact v_some ⟨hW2, hF2⟩
set_option maxRecDepth 20000 in
set_option maxHeartbeats 4000000 in
theorem t_Yard_change {a1 : Int32} {a2 : Int32} {a3 : Int32} {a4 : Int32} {S : SS} (hW : WR S) (h2 : rg a3 0 10) : Ex2 (f_Yard_change a1 a2 a3 a4 S) (fun r U => WR U ∧ Fr [77, 79] [(62, 3)] S U ∧ True) := by
  have hF : Fr [77, 79] [(62, 3)] S S := Fr.rf
  refine e_eq (f_Yard_change.eq_1 _ _ _ _ _) ?_
  refine e_bnd ?_
  refine e_eq (f_Yard_named.eq_1 _ _ _) ?_
  refine e_bnd ?_
  refine e_eq (f_Yard_isNot.eq_1 _ _ _ _) ?_
  refine e_i (fun q1 => ?_) (fun q1 => ?_)
  · refine e_some ?_
    refine e_f (by decide) ?_
    refine e_some ?_
    refine e_f (by decide) ?_
    refine e_cE (t_Report_found hW) (fun u3 T3 p3 => ?_)
    obtain ⟨hW3, hT3, hr3⟩ := p3
    have hF3 := hF.tr hT3 rfl
    exact e_some ⟨hW3, hF3, trivial⟩
  · have f4 := nlt_l (rgt _) (rgl (0) 0 0 rfl) q1
    refine e_i (fun q5 => ?_) (fun q5 => ?_)
    · have f6 := le_l f4 (rgl (71) 71 71 rfl) q5
      refine e_some ?_
      refine e_t (by decide) ?_
      refine e_i (fun q7 => ?_) (fun q7 => ?_)
      · refine e_bnd ?_
        refine e_eq (f_Stock_isAs.eq_1 _ _ _) ?_
        refine e_cE (t_Stock_get hW ((rgl (0) 0 0 rfl).sub rfl)) (fun u9 T9 p9 => ?_)
        obtain ⟨-, hT9, hr9⟩ := p9
        have eT9 := (fr_nil hT9).symm
        subst eT9
        refine e_i (fun q10 => ?_) (fun q10 => ?_)
        · refine e_some ?_
          refine e_t (by decide) ?_
          refine e_some ?_
          refine e_f (by decide) ?_
          refine e_cE (t_Report_found hW) (fun u12 T12 p12 => ?_)
          obtain ⟨hW12, hT12, hr12⟩ := p12
          have hF12 := hF.tr hT12 rfl
          exact e_some ⟨hW12, hF12, trivial⟩
        · refine e_i (fun q15 => ?_) (fun q15 => ?_)
          · refine e_some ?_
            refine e_f (by decide) ?_
            refine e_bnd ?_
            refine e_eq (f_State_isThere.eq_1 _ _) ?_
            refine e_cE (t_State_get hW ((rgl (0) 0 0 rfl).sub rfl)) (fun u17 T17 p17 => ?_)
            obtain ⟨-, hT17, hr17⟩ := p17
            have eT17 := (fr_nil hT17).symm
            subst eT17
            refine e_i (fun q18 => ?_) (fun q18 => ?_)
            · refine e_some ?_
              refine e_t (by decide) ?_
              refine e_some ?_
              refine e_f (by decide) ?_
              refine e_cE (t_Report_found hW) (fun u20 T20 p20 => ?_)
              obtain ⟨hW20, hT20, hr20⟩ := p20
              have hF20 := hF.tr hT20 rfl
              exact e_some ⟨hW20, hF20, trivial⟩
            · refine e_some ?_
              refine e_f (by decide) ?_
              refine e_some ?_
              refine e_t (by decide) ?_
              refine e_cE (t_State_get hW h2) (fun u23 T23 p23 => ?_)
              obtain ⟨-, hT23, hr23⟩ := p23
              have eT23 := (fr_nil hT23).symm
              subst eT23
              refine e_bndv ?_
              refine v_eq (f_State_set.eq_1 _ _ _ _) ?_
              refine v_f (d_nlt f6 (rgl 0 0 0 rfl) rfl) ?_
              refine v_i (fun q24 => ?_) (fun q24 => ?_)
              · refine v_some ?_
                exact e_some ⟨hW, hF, trivial⟩
              · refine v_grd (inb_g (rg_add 154 945 (rg_add 154 935 (rgl (154) 154 154 rfl) (rg_mul 0 781 (rgl (11) 11 11 rfl) f6 rfl) rfl) h2 rfl) rfl) ?_
                refine v_wrA (fun T27 eT27 hT27 v27 => ?_)
                have hW27 := WR.st (k := 79) hW (okS_g (rg_add 154 945 (rg_add 154 935 (rgl (154) 154 154 rfl) (rg_mul 0 781 (rgl (11) 11 11 rfl) f6 rfl) rfl) h2 rfl) rfl) rfl eT27
                have hF27 := hF.tr hT27 rfl
                refine v_some ?_
                exact e_some ⟨hW27, hF27, trivial⟩
          · refine e_some ?_
            refine e_t (by decide) ?_
            refine e_some ?_
            refine e_f (by decide) ?_
            refine e_cE (t_Report_found hW) (fun u30 T30 p30 => ?_)
            obtain ⟨hW30, hT30, hr30⟩ := p30
            have hF30 := hF.tr hT30 rfl
            exact e_some ⟨hW30, hF30, trivial⟩
      · refine e_some ?_
        refine e_f (by decide) ?_
        refine e_cE (t_Report_found hW) (fun u33 T33 p33 => ?_)
        obtain ⟨hW33, hT33, hr33⟩ := p33
        have hF33 := hF.tr hT33 rfl
        exact e_some ⟨hW33, hF33, trivial⟩
    · refine e_some ?_
      refine e_f (by decide) ?_
      refine e_some ?_
      refine e_f (by decide) ?_
      refine e_cE (t_Report_found hW) (fun u36 T36 p36 => ?_)
      obtain ⟨hW36, hT36, hr36⟩ := p36
      have hF36 := hF.tr hT36 rfl
      exact e_some ⟨hW36, hF36, trivial⟩
set_option maxRecDepth 20000 in
set_option maxHeartbeats 4000000 in
theorem t_History_write {a1 : Int32} {a2 : Int32} {S : SS} (hW : WR S) : Ew (f_History_write a1 a2 S) (fun U => WR U ∧ Fr [89, 90] [(64, 4), (64, 5)] S U) := by
  have hF : Fr [89, 90] [(64, 4), (64, 5)] S S := Fr.rf
  refine v_eq (f_History_write.eq_1 _ _ _) ?_
  refine v_wrO (fun T1 eT1 hT1 v1 => ?_)
  have hW1 := wo_64_4 hW (rg_rem 39 40 (rg_add 1 40 (ro_64_4 hW) (rgl (1) 1 1 rfl) rfl) (by decide) rfl) eT1
  have hF1 := hF.tr hT1 rfl
  have f2 := rg_tr (rg_rem 39 40 (rg_add 1 40 (ro_64_4 hW) (rgl (1) 1 1 rfl) rfl) (by decide) rfl) v1
  refine v_grd (inb_g f2 rfl) ?_
  refine v_wrA (fun T3 eT3 hT3 v3 => ?_)
  have hW3 := WR.st (k := 89) hW1 trivial rfl eT3
  have hF3 := hF1.tr hT3 rfl
  have f4 := rg_tr f2 (hT3.1 64 _ rfl)
  refine v_grd (inb_g f4 rfl) ?_
  refine v_wrA (fun T5 eT5 hT5 v5 => ?_)
  have hW5 := WR.st (k := 90) hW3 trivial rfl eT5
  have hF5 := hF3.tr hT5 rfl
  refine v_bnd ?_
  refine e_eq (f_Math_min_7cf53.eq_1 _ _ _) ?_
  refine e_i (fun q7 => ?_) (fun q7 => ?_)
  · refine e_some ?_
    refine v_wrO (fun T9 eT9 hT9 v9 => ?_)
    have hW9 := wo_64_5 hW5 ((rgl (40) 40 40 rfl).sub rfl) eT9
    have hF9 := hF5.tr hT9 rfl
    exact v_some ⟨hW9, hF9⟩
  · have f12 := nlt_r (rgl (40) 40 40 rfl) (rg_add 1 41 (ro_64_5 hW5) (rgl (1) 1 1 rfl) rfl) q7
    refine e_someG (fun w13 hw13 => ?_)
    have f14 := rg_tr f12 hw13
    refine v_wrO (fun T15 eT15 hT15 v15 => ?_)
    have hW15 := wo_64_5 hW5 (f14.sub rfl) eT15
    have hF15 := hF5.tr hT15 rfl
    exact v_some ⟨hW15, hF15⟩
set_option maxRecDepth 20000 in
set_option maxHeartbeats 4000000 in
theorem t_Yard_endAct {a1 : Int32} {a2 : Int32} {S : SS} (hW : WR S) : Ex2 (f_Yard_endAct a1 a2 S) (fun r U => WR U ∧ Fr [89, 90] [(64, 4), (64, 5)] S U ∧ True) := by
  have hF : Fr [89, 90] [(64, 4), (64, 5)] S S := Fr.rf
  refine e_eq (f_Yard_endAct.eq_1 _ _ _) ?_
  refine e_cV (t_History_write hW) (fun T1 p1 => ?_)
  obtain ⟨hW1, hT1⟩ := p1
  have hF1 := hF.tr hT1 rfl
  exact e_some ⟨hW1, hF1, trivial⟩
set_option maxRecDepth 20000 in
set_option maxHeartbeats 4000000 in
theorem t_Yard_danger {a1 : Int32} {a2 : Int32} {S : SS} (hW : WR S) : Ex2 (f_Yard_danger a1 a2 S) (fun r U => WR U ∧ Fr [77, 79, 81, 82, 83, 84, 85, 86, 87, 88, 89, 90] [(62, 2), (62, 3), (62, 4), (62, 5), (62, 6), (64, 3), (64, 4), (64, 5), (64, 6), (64, 7)] S U ∧ True) := by
  have hF : Fr [77, 79, 81, 82, 83, 84, 85, 86, 87, 88, 89, 90] [(62, 2), (62, 3), (62, 4), (62, 5), (62, 6), (64, 3), (64, 4), (64, 5), (64, 6), (64, 7)] S S := Fr.rf
  refine e_eq (f_Yard_danger.eq_1 _ _ _) ?_
  refine e_bnd ?_
  refine e_eq (f_Yard_isNot.eq_1 _ _ _ _) ?_
  refine e_i (fun q1 => ?_) (fun q1 => ?_)
  · refine e_some ?_
    refine e_f (by decide) ?_
    exact e_some ⟨hW, hF, trivial⟩
  · refine e_i (fun q4 => ?_) (fun q4 => ?_)
    · refine e_some ?_
      refine e_t (by decide) ?_
      refine e_cV (t_Yard_beginAct hW) (fun T6 p6 => ?_)
      obtain ⟨hW6, hT6⟩ := p6
      have hF6 := hF.tr hT6 rfl
      refine e_cE (t_Yard_change hW6 ((rgl (7) 7 7 rfl).sub rfl)) (fun u7 T7 p7 => ?_)
      obtain ⟨hW7, hT7, hr7⟩ := p7
      have hF7 := hF6.tr hT7 rfl
      refine e_cE (t_Yard_endAct hW7) (fun u8 T8 p8 => ?_)
      obtain ⟨hW8, hT8, hr8⟩ := p8
      have hF8 := hF7.tr hT8 rfl
      exact e_some ⟨hW8, hF8, trivial⟩
    · refine e_some ?_
      refine e_f (by decide) ?_
      exact e_some ⟨hW, hF, trivial⟩
set_option maxRecDepth 20000 in
set_option maxHeartbeats 4000000 in
theorem t_Yard_hold {a1 : Int32} {a2 : Int32} {S : SS} (hW : WR S) : Ex2 (f_Yard_hold a1 a2 S) (fun r U => WR U ∧ Fr [77, 79, 81, 82, 83, 84, 85, 86, 87, 88, 89, 90] [(62, 2), (62, 3), (62, 4), (62, 5), (62, 6), (64, 3), (64, 4), (64, 5), (64, 6), (64, 7)] S U ∧ True) := by
  have hF : Fr [77, 79, 81, 82, 83, 84, 85, 86, 87, 88, 89, 90] [(62, 2), (62, 3), (62, 4), (62, 5), (62, 6), (64, 3), (64, 4), (64, 5), (64, 6), (64, 7)] S S := Fr.rf
  refine e_eq (f_Yard_hold.eq_1 _ _ _) ?_
  refine e_i (fun q1 => ?_) (fun q1 => ?_)
  · refine e_eq (f_Yard_hold_j19.eq_1 _ _ _) ?_
    refine e_cV (t_Yard_beginAct hW) (fun T3 p3 => ?_)
    obtain ⟨hW3, hT3⟩ := p3
    have hF3 := hF.tr hT3 rfl
    refine e_cE (t_Yard_change hW3 ((rgl (5) 5 5 rfl).sub rfl)) (fun u4 T4 p4 => ?_)
    obtain ⟨hW4, hT4, hr4⟩ := p4
    have hF4 := hF3.tr hT4 rfl
    refine e_cE (t_Yard_endAct hW4) (fun u5 T5 p5 => ?_)
    obtain ⟨hW5, hT5, hr5⟩ := p5
    have hF5 := hF4.tr hT5 rfl
    exact e_some ⟨hW5, hF5, trivial⟩
  · refine e_bnd ?_
    refine e_eq (f_Yard_isNot.eq_1 _ _ _ _) ?_
    refine e_i (fun q6 => ?_) (fun q6 => ?_)
    · refine e_some ?_
      refine e_f (by decide) ?_
      exact e_some ⟨hW, hF, trivial⟩
    · refine e_i (fun q9 => ?_) (fun q9 => ?_)
      · refine e_some ?_
        refine e_t (by decide) ?_
        refine e_eq (f_Yard_hold_j19.eq_1 _ _ _) ?_
        refine e_cV (t_Yard_beginAct hW) (fun T11 p11 => ?_)
        obtain ⟨hW11, hT11⟩ := p11
        have hF11 := hF.tr hT11 rfl
        refine e_cE (t_Yard_change hW11 ((rgl (5) 5 5 rfl).sub rfl)) (fun u12 T12 p12 => ?_)
        obtain ⟨hW12, hT12, hr12⟩ := p12
        have hF12 := hF11.tr hT12 rfl
        refine e_cE (t_Yard_endAct hW12) (fun u13 T13 p13 => ?_)
        obtain ⟨hW13, hT13, hr13⟩ := p13
        have hF13 := hF12.tr hT13 rfl
        exact e_some ⟨hW13, hF13, trivial⟩
      · refine e_some ?_
        refine e_f (by decide) ?_
        exact e_some ⟨hW, hF, trivial⟩
set_option maxRecDepth 20000 in
set_option maxHeartbeats 4000000 in
theorem t_Yard_jam {a1 : Int32} {a2 : Int32} {S : SS} (hW : WR S) : Ex2 (f_Yard_jam a1 a2 S) (fun r U => WR U ∧ Fr [77, 79, 81, 82, 83, 84, 85, 86, 87, 88, 89, 90] [(62, 2), (62, 3), (62, 4), (62, 5), (62, 6), (64, 3), (64, 4), (64, 5), (64, 6), (64, 7)] S U ∧ True) := by
  have hF : Fr [77, 79, 81, 82, 83, 84, 85, 86, 87, 88, 89, 90] [(62, 2), (62, 3), (62, 4), (62, 5), (62, 6), (64, 3), (64, 4), (64, 5), (64, 6), (64, 7)] S S := Fr.rf
  refine e_eq (f_Yard_jam.eq_1 _ _ _) ?_
  refine e_bnd ?_
  refine e_eq (f_Yard_isNot.eq_1 _ _ _ _) ?_
  refine e_i (fun q1 => ?_) (fun q1 => ?_)
  · refine e_some ?_
    refine e_f (by decide) ?_
    exact e_some ⟨hW, hF, trivial⟩
  · refine e_i (fun q4 => ?_) (fun q4 => ?_)
    · refine e_some ?_
      refine e_t (by decide) ?_
      refine e_cV (t_Yard_beginAct hW) (fun T6 p6 => ?_)
      obtain ⟨hW6, hT6⟩ := p6
      have hF6 := hF.tr hT6 rfl
      refine e_cE (t_Yard_change hW6 ((rgl (6) 6 6 rfl).sub rfl)) (fun u7 T7 p7 => ?_)
      obtain ⟨hW7, hT7, hr7⟩ := p7
      have hF7 := hF6.tr hT7 rfl
      refine e_cE (t_Yard_endAct hW7) (fun u8 T8 p8 => ?_)
      obtain ⟨hW8, hT8, hr8⟩ := p8
      have hF8 := hF7.tr hT8 rfl
      exact e_some ⟨hW8, hF8, trivial⟩
    · refine e_some ?_
      refine e_f (by decide) ?_
      exact e_some ⟨hW, hF, trivial⟩
set_option maxRecDepth 20000 in
set_option maxHeartbeats 4000000 in
theorem t_Trains_raiseFinding {a1 : Int32} {S : SS} (hW : WR S) : Ex2 (f_Trains_raiseFinding a1 S) (fun r U => WR U ∧ Fr [] [(62, 4)] S U ∧ rg r 7 8) := by
  have hF : Fr [] [(62, 4)] S S := Fr.rf
  refine e_eq (f_Trains_raiseFinding.eq_1 _ _) ?_
  refine e_cE (t_State_get hW ((rgl (5) 5 5 rfl).sub rfl)) (fun u1 T1 p1 => ?_)
  obtain ⟨-, hT1, hr1⟩ := p1
  have eT1 := (fr_nil hT1).symm
  subst eT1
  refine e_wrO (fun T2 eT2 hT2 v2 => ?_)
  have hW2 := WR.st (k := 62) (i := 4) hW trivial rfl eT2
  have hF2 := hF.tr hT2 rfl
  refine e_i (fun q3 => ?_) (fun q3 => ?_)
  · exact e_some ⟨hW2, hF2, ((rgl (7) 7 7 rfl).sub rfl)⟩
  · exact e_some ⟨hW2, hF2, ((rgl (8) 8 8 rfl).sub rfl)⟩
set_option maxRecDepth 20000 in
set_option maxHeartbeats 4000000 in
theorem t_Yard_raise {a1 : Int32} {S : SS} (hW : WR S) : Ex2 (f_Yard_raise a1 S) (fun r U => WR U ∧ Fr [77] [(62, 2), (62, 3), (62, 4), (62, 5), (62, 6)] S U ∧ rg r (-2) (-2)) := by
  have hF : Fr [77] [(62, 2), (62, 3), (62, 4), (62, 5), (62, 6)] S S := Fr.rf
  refine e_eq (f_Yard_raise.eq_1 _ _) ?_
  refine e_cV (t_Report_begin hW) (fun T1 p1 => ?_)
  obtain ⟨hW1, hT1⟩ := p1
  have hF1 := hF.tr hT1 rfl
  refine e_bnd ?_
  refine e_eq (f_Yard_named.eq_1 _ _ _) ?_
  refine e_bnd ?_
  refine e_eq (f_Yard_isNot.eq_1 _ _ _ _) ?_
  refine e_i (fun q2 => ?_) (fun q2 => ?_)
  · refine e_some ?_
    refine e_f (by decide) ?_
    refine e_some ?_
    refine e_f (by decide) ?_
    refine e_cE (t_Report_found hW1) (fun u4 T4 p4 => ?_)
    obtain ⟨hW4, hT4, hr4⟩ := p4
    have hF4 := hF1.tr hT4 rfl
    exact e_some ⟨hW4, hF4, hr4⟩
  · refine e_i (fun q6 => ?_) (fun q6 => ?_)
    · refine e_some ?_
      refine e_t (by decide) ?_
      refine e_i (fun q8 => ?_) (fun q8 => ?_)
      · refine e_bnd ?_
        refine e_eq (f_Stock_isAs.eq_1 _ _ _) ?_
        refine e_cE (t_Stock_get hW1 ((rgl (0) 0 0 rfl).sub rfl)) (fun u10 T10 p10 => ?_)
        obtain ⟨-, hT10, hr10⟩ := p10
        have eT10 := (fr_nil hT10).symm
        subst eT10
        refine e_i (fun q11 => ?_) (fun q11 => ?_)
        · refine e_some ?_
          refine e_t (by decide) ?_
          refine e_some ?_
          refine e_f (by decide) ?_
          refine e_cE (t_Report_found hW1) (fun u13 T13 p13 => ?_)
          obtain ⟨hW13, hT13, hr13⟩ := p13
          have hF13 := hF1.tr hT13 rfl
          exact e_some ⟨hW13, hF13, hr13⟩
        · refine e_i (fun q16 => ?_) (fun q16 => ?_)
          · refine e_some ?_
            refine e_f (by decide) ?_
            refine e_bnd ?_
            refine e_eq (f_State_isThere.eq_1 _ _) ?_
            refine e_cE (t_State_get hW1 ((rgl (0) 0 0 rfl).sub rfl)) (fun u18 T18 p18 => ?_)
            obtain ⟨-, hT18, hr18⟩ := p18
            have eT18 := (fr_nil hT18).symm
            subst eT18
            refine e_i (fun q19 => ?_) (fun q19 => ?_)
            · refine e_some ?_
              refine e_t (by decide) ?_
              refine e_some ?_
              refine e_f (by decide) ?_
              refine e_cE (t_Report_found hW1) (fun u21 T21 p21 => ?_)
              obtain ⟨hW21, hT21, hr21⟩ := p21
              have hF21 := hF1.tr hT21 rfl
              exact e_some ⟨hW21, hF21, hr21⟩
            · refine e_some ?_
              refine e_f (by decide) ?_
              refine e_some ?_
              refine e_t (by decide) ?_
              refine e_cE (t_Trains_raiseFinding hW1) (fun u24 T24 p24 => ?_)
              obtain ⟨hW24, hT24, hr24⟩ := p24
              have hF24 := hF1.tr hT24 rfl
              refine e_cE (t_Report_found hW24) (fun u26 T26 p26 => ?_)
              obtain ⟨hW26, hT26, hr26⟩ := p26
              have hF26 := hF24.tr hT26 rfl
              exact e_some ⟨hW26, hF26, hr26⟩
          · refine e_some ?_
            refine e_t (by decide) ?_
            refine e_some ?_
            refine e_f (by decide) ?_
            refine e_cE (t_Report_found hW1) (fun u29 T29 p29 => ?_)
            obtain ⟨hW29, hT29, hr29⟩ := p29
            have hF29 := hF1.tr hT29 rfl
            exact e_some ⟨hW29, hF29, hr29⟩
      · refine e_some ?_
        refine e_f (by decide) ?_
        refine e_cE (t_Report_found hW1) (fun u32 T32 p32 => ?_)
        obtain ⟨hW32, hT32, hr32⟩ := p32
        have hF32 := hF1.tr hT32 rfl
        exact e_some ⟨hW32, hF32, hr32⟩
    · refine e_some ?_
      refine e_f (by decide) ?_
      refine e_some ?_
      refine e_f (by decide) ?_
      refine e_cE (t_Report_found hW1) (fun u35 T35 p35 => ?_)
      obtain ⟨hW35, hT35, hr35⟩ := p35
      have hF35 := hF1.tr hT35 rfl
      exact e_some ⟨hW35, hF35, hr35⟩
set_option maxRecDepth 20000 in
set_option maxHeartbeats 4000000 in
theorem t_State_setting {a1 : Int32} {S : SS} (hW : WR S) : Ex2 (f_State_setting a1 S) (fun r U => WR U ∧ Fr [] [] S U ∧ True) := by
  have hF : Fr [] [] S S := Fr.rf
  refine e_eq (f_State_setting.eq_1 _ _) ?_
  refine e_i (fun q1 => ?_) (fun q1 => ?_)
  · exact e_some ⟨hW, hF, trivial⟩
  · have f3 := nlt_l (rgt _) (rgl 0 0 0 rfl) q1
    refine e_i (fun q4 => ?_) (fun q4 => ?_)
    · exact e_some ⟨hW, hF, trivial⟩
    · have f6 := nle_r 39 (rgl (40) 40 40 rfl) f3 q4 rfl
      refine e_grd (inb_g (rg_add 74 113 (rgl (74) 74 74 rfl) f6 rfl) rfl) ?_
      exact e_some ⟨hW, hF, trivial⟩
set_option maxRecDepth 20000 in
set_option maxHeartbeats 4000000 in
theorem t_Layout_endOf {a1 : Int32} {S : SS} (hW : WR S) : Ex2 (f_Layout_endOf a1 S) (fun r U => WR U ∧ Fr [] [] S U ∧ True) := by
  have hF : Fr [] [] S S := Fr.rf
  refine e_eq (f_Layout_endOf.eq_1 _ _) ?_
  refine e_i (fun q1 => ?_) (fun q1 => ?_)
  · exact e_some ⟨hW, hF, trivial⟩
  · have f3 := nlt_l (rgt _) (rgl 0 0 0 rfl) q1
    refine e_i (fun q4 => ?_) (fun q4 => ?_)
    · exact e_some ⟨hW, hF, trivial⟩
    · have f6 := nle_r 39 (ro_66_8 hW) f3 q4 rfl
      refine e_grd (inb_g f6 rfl) ?_
      exact e_some ⟨hW, hF, trivial⟩
set_option maxRecDepth 20000 in
set_option maxHeartbeats 4000000 in
theorem t_Layout_spotAt {a1 : Int32} {S : SS} (hW : WR S) : Ex2 (f_Layout_spotAt a1 S) (fun r U => WR U ∧ Fr [] [] S U ∧ True) := by
  have hF : Fr [] [] S S := Fr.rf
  refine e_eq (f_Layout_spotAt.eq_1 _ _) ?_
  refine e_nmG (fun w1 hw1 => ?_)
  refine e_i (fun q2 => ?_) (fun q2 => ?_)
  · refine e_bnd ?_
    refine e_eq (f_Layout_spot.eq_1 _ _ _) ?_
    refine e_someG (fun w4 hw4 => ?_)
    exact e_some ⟨hW, hF, trivial⟩
  · refine e_bnd ?_
    refine e_eq (f_Layout_placesOf.eq_1 _ _) ?_
    refine e_i (fun q6 => ?_) (fun q6 => ?_)
    · refine e_some ?_
      refine e_bnd ?_
      refine e_eq (f_Layout_spot.eq_1 _ _ _) ?_
      refine e_someG (fun w8 hw8 => ?_)
      exact e_some ⟨hW, hF, trivial⟩
    · have f9 := nlt_l (rgt _) (rgl 0 0 0 rfl) q6
      refine e_i (fun q10 => ?_) (fun q10 => ?_)
      · refine e_some ?_
        refine e_bnd ?_
        refine e_eq (f_Layout_spot.eq_1 _ _ _) ?_
        refine e_someG (fun w11 hw11 => ?_)
        exact e_some ⟨hW, hF, trivial⟩
      · have f13 := nle_r 23 (ro_66_7 hW) f9 q10 rfl
        refine e_grd (inb_g f13 rfl) ?_
        refine e_someG (fun w14 hw14 => ?_)
        refine e_bnd ?_
        refine e_eq (f_Layout_spot.eq_1 _ _ _) ?_
        refine e_someG (fun w15 hw15 => ?_)
        exact e_some ⟨hW, hF, trivial⟩
set_option maxRecDepth 20000 in
set_option maxHeartbeats 4000000 in
theorem t_Routes_isUnder {a1 : Int32} {S : SS} (hW : WR S) : Ex2 (f_Routes_isUnder a1 S) (fun r U => WR U ∧ Fr [] [] S U ∧ rg r 0 1) := by
  have hF : Fr [] [] S S := Fr.rf
  refine e_eq (f_Routes_isUnder.eq_1 _ _) ?_
  refine e_cE (t_Layout_endOf hW) (fun u1 T1 p1 => ?_)
  obtain ⟨-, hT1, hr1⟩ := p1
  have eT1 := (fr_nil hT1).symm
  subst eT1
  refine e_cE (t_Layout_spotAt hW) (fun u2 T2 p2 => ?_)
  obtain ⟨-, hT2, hr2⟩ := p2
  have eT2 := (fr_nil hT2).symm
  subst eT2
  refine e_cE (t_State_standsAt hW) (fun u3 T3 p3 => ?_)
  obtain ⟨-, hT3, hr3⟩ := p3
  have eT3 := (fr_nil hT3).symm
  subst eT3
  refine e_i (fun q4 => ?_) (fun q4 => ?_)
  · exact e_some ⟨hW, hF, ((rgl (0) 0 0 rfl).sub rfl)⟩
  · exact e_some ⟨hW, hF, ((rgl (1) 1 1 rfl).sub rfl)⟩
set_option maxRecDepth 20000 in
set_option maxHeartbeats 4000000 in
theorem t_Routes_turnFinding {a1 : Int32} {S : SS} (hW : WR S) : Ex2 (f_Routes_turnFinding a1 S) (fun r U => WR U ∧ Fr [] [(62, 6)] S U ∧ rg r 0 12) := by
  have hF : Fr [] [(62, 6)] S S := Fr.rf
  refine e_eq (f_Routes_turnFinding.eq_1 _ _) ?_
  refine e_cE (t_State_locker hW) (fun u1 T1 p1 => ?_)
  obtain ⟨-, hT1, hr1⟩ := p1
  have eT1 := (fr_nil hT1).symm
  subst eT1
  refine e_i (fun q2 => ?_) (fun q2 => ?_)
  · refine e_cE (t_Routes_isUnder hW) (fun u4 T4 p4 => ?_)
    obtain ⟨-, hT4, hr4⟩ := p4
    have eT4 := (fr_nil hT4).symm
    subst eT4
    refine e_i (fun q5 => ?_) (fun q5 => ?_)
    · exact e_some ⟨hW, hF, ((rgl (0) 0 0 rfl).sub rfl)⟩
    · exact e_some ⟨hW, hF, ((rgl (12) 12 12 rfl).sub rfl)⟩
  · refine e_cE (t_State_locker hW) (fun u8 T8 p8 => ?_)
    obtain ⟨-, hT8, hr8⟩ := p8
    have eT8 := (fr_nil hT8).symm
    subst eT8
    refine e_cE (t_Routes_lockedFinding hW) (fun u9 T9 p9 => ?_)
    obtain ⟨hW9, hT9, hr9⟩ := p9
    have hF9 := hF.tr hT9 rfl
    exact e_some ⟨hW9, hF9, (hr9.sub rfl)⟩
set_option maxRecDepth 20000 in
set_option maxHeartbeats 4000000 in
theorem t_Routes_hasLink {a1 : Int32} {a2 : Int32} {S : SS} (hW : WR S) : Ex2 (f_Routes_hasLink a1 a2 S) (fun r U => WR U ∧ Fr [] [] S U ∧ rg r 0 1) := by
  have hF : Fr [] [] S S := Fr.rf
  refine e_eq (f_Routes_hasLink.eq_1 _ _ _) ?_
  refine e_i (fun q1 => ?_) (fun q1 => ?_)
  · exact e_some ⟨hW, hF, ((rgl (0) 0 0 rfl).sub rfl)⟩
  · have f3 := nlt_l (rgt _) (rgl 0 0 0 rfl) q1
    refine e_cE (t_Layout_endOf hW) (fun u4 T4 p4 => ?_)
    obtain ⟨-, hT4, hr4⟩ := p4
    have eT4 := (fr_nil hT4).symm
    subst eT4
    refine e_bnd ?_
    refine e_eq (f_Layout_linksAt.eq_1 _ _) ?_
    refine e_i (fun q5 => ?_) (fun q5 => ?_)
    · refine e_some ?_
      refine e_t (d_le (rgl (0) 0 0 rfl) f3 rfl) ?_
      exact e_some ⟨hW, hF, ((rgl (0) 0 0 rfl).sub rfl)⟩
    · have f7 := nlt_l (rgt _) (rgl 0 0 0 rfl) q5
      refine e_i (fun q8 => ?_) (fun q8 => ?_)
      · refine e_some ?_
        refine e_t (d_le (rgl (0) 0 0 rfl) f3 rfl) ?_
        exact e_some ⟨hW, hF, ((rgl (0) 0 0 rfl).sub rfl)⟩
      · have f10 := nle_r 47 (rgl (48) 48 48 rfl) f7 q8 rfl
        refine e_grd (inb_g f10 rfl) ?_
        refine e_someG (fun w11 hw11 => ?_)
        refine e_i (fun q13 => ?_) (fun q13 => ?_)
        · exact e_some ⟨hW, hF, ((rgl (0) 0 0 rfl).sub rfl)⟩
        · exact e_some ⟨hW, hF, ((rgl (1) 1 1 rfl).sub rfl)⟩
set_option maxRecDepth 20000 in
set_option maxHeartbeats 4000000 in
theorem t_Routes_turnPoint {a1 : Int32} {a2 : Int32} {S : SS} (hW : WR S) : Ex2 (f_Routes_turnPoint a1 a2 S) (fun r U => WR U ∧ Fr [77, 79] [(62, 3), (62, 6)] S U ∧ True) := by
  have hF : Fr [77, 79] [(62, 3), (62, 6)] S S := Fr.rf
  refine e_eq (f_Routes_turnPoint.eq_1 _ _ _) ?_
  refine e_bnd ?_
  refine e_eq (f_Layout_pointFinding.eq_1 _ _) ?_
  refine e_i (fun q1 => ?_) (fun q1 => ?_)
  · refine e_some ?_
    refine e_f (by decide) ?_
    refine e_eq (f_Routes_turnPoint_j24.eq_1 _ _ _ _) ?_
    refine e_cE (t_State_setting hW) (fun u3 T3 p3 => ?_)
    obtain ⟨-, hT3, hr3⟩ := p3
    have eT3 := (fr_nil hT3).symm
    subst eT3
    refine e_f (by decide) ?_
    refine e_eq (f_Routes_turnPoint_j50.eq_1 _ _ _ _ _) ?_
    refine e_f (by decide) ?_
    refine e_cE (t_Report_found hW) (fun u4 T4 p4 => ?_)
    obtain ⟨hW4, hT4, hr4⟩ := p4
    have hF4 := hF.tr hT4 rfl
    exact e_some ⟨hW4, hF4, trivial⟩
  · refine e_i (fun q6 => ?_) (fun q6 => ?_)
    · refine e_i (fun q8 => ?_) (fun q8 => ?_)
      · refine e_some ?_
        refine e_f (by decide) ?_
        refine e_eq (f_Routes_turnPoint_j24.eq_1 _ _ _ _) ?_
        refine e_cE (t_State_setting hW) (fun u10 T10 p10 => ?_)
        obtain ⟨-, hT10, hr10⟩ := p10
        have eT10 := (fr_nil hT10).symm
        subst eT10
        refine e_f (by decide) ?_
        refine e_eq (f_Routes_turnPoint_j50.eq_1 _ _ _ _ _) ?_
        refine e_f (by decide) ?_
        refine e_cE (t_Report_found hW) (fun u11 T11 p11 => ?_)
        obtain ⟨hW11, hT11, hr11⟩ := p11
        have hF11 := hF.tr hT11 rfl
        exact e_some ⟨hW11, hF11, trivial⟩
      · refine e_some ?_
        refine e_t (by decide) ?_
        refine e_cE (t_Routes_hasLink hW) (fun u14 T14 p14 => ?_)
        obtain ⟨-, hT14, hr14⟩ := p14
        have eT14 := (fr_nil hT14).symm
        subst eT14
        refine e_i (fun q15 => ?_) (fun q15 => ?_)
        · refine e_eq (f_Routes_turnPoint_j24.eq_1 _ _ _ _) ?_
          refine e_cE (t_State_setting hW) (fun u17 T17 p17 => ?_)
          obtain ⟨-, hT17, hr17⟩ := p17
          have eT17 := (fr_nil hT17).symm
          subst eT17
          refine e_f (by decide) ?_
          refine e_eq (f_Routes_turnPoint_j50.eq_1 _ _ _ _ _) ?_
          refine e_f (by decide) ?_
          refine e_cE (t_Report_found hW) (fun u18 T18 p18 => ?_)
          obtain ⟨hW18, hT18, hr18⟩ := p18
          have hF18 := hF.tr hT18 rfl
          exact e_some ⟨hW18, hF18, trivial⟩
        · refine e_eq (f_Routes_turnPoint_j24.eq_1 _ _ _ _) ?_
          refine e_cE (t_State_setting hW) (fun u21 T21 p21 => ?_)
          obtain ⟨-, hT21, hr21⟩ := p21
          have eT21 := (fr_nil hT21).symm
          subst eT21
          refine e_t (by decide) ?_
          refine e_i (fun q22 => ?_) (fun q22 => ?_)
          · refine e_eq (f_Routes_turnPoint_j50.eq_1 _ _ _ _ _) ?_
            refine e_t (by decide) ?_
            refine e_cE (t_State_locker hW) (fun u23 T23 p23 => ?_)
            obtain ⟨-, hT23, hr23⟩ := p23
            have eT23 := (fr_nil hT23).symm
            subst eT23
            refine e_cV (t_State_setPoint hW) (fun T24 p24 => ?_)
            obtain ⟨hW24, hT24⟩ := p24
            have hF24 := hF.tr hT24 rfl
            exact e_some ⟨hW24, hF24, trivial⟩
          · refine e_cE (t_Routes_turnFinding hW) (fun u26 T26 p26 => ?_)
            obtain ⟨hW26, hT26, hr26⟩ := p26
            have hF26 := hF.tr hT26 rfl
            refine e_eq (f_Routes_turnPoint_j50.eq_1 _ _ _ _ _) ?_
            refine e_i (fun q28 => ?_) (fun q28 => ?_)
            · refine e_cE (t_State_locker hW26) (fun u30 T30 p30 => ?_)
              obtain ⟨-, hT30, hr30⟩ := p30
              have eT30 := (fr_nil hT30).symm
              subst eT30
              refine e_cV (t_State_setPoint hW26) (fun T31 p31 => ?_)
              obtain ⟨hW31, hT31⟩ := p31
              have hF31 := hF26.tr hT31 rfl
              exact e_some ⟨hW31, hF31, trivial⟩
            · refine e_cE (t_Report_found hW26) (fun u34 T34 p34 => ?_)
              obtain ⟨hW34, hT34, hr34⟩ := p34
              have hF34 := hF26.tr hT34 rfl
              exact e_some ⟨hW34, hF34, trivial⟩
    · refine e_some ?_
      refine e_f (by decide) ?_
      refine e_eq (f_Routes_turnPoint_j24.eq_1 _ _ _ _) ?_
      refine e_cE (t_State_setting hW) (fun u37 T37 p37 => ?_)
      obtain ⟨-, hT37, hr37⟩ := p37
      have eT37 := (fr_nil hT37).symm
      subst eT37
      refine e_f (by decide) ?_
      refine e_eq (f_Routes_turnPoint_j50.eq_1 _ _ _ _ _) ?_
      refine e_f (by decide) ?_
      refine e_cE (t_Report_found hW) (fun u38 T38 p38 => ?_)
      obtain ⟨hW38, hT38, hr38⟩ := p38
      have hF38 := hF.tr hT38 rfl
      exact e_some ⟨hW38, hF38, trivial⟩
set_option maxRecDepth 20000 in
set_option maxHeartbeats 4000000 in
theorem t_Yard_turn {a1 : Int32} {a2 : Int32} {S : SS} (hW : WR S) : Ex2 (f_Yard_turn a1 a2 S) (fun r U => WR U ∧ Fr [77, 79, 81, 82, 83, 84, 85, 86, 87, 88, 89, 90] [(62, 2), (62, 3), (62, 4), (62, 5), (62, 6), (64, 3), (64, 4), (64, 5), (64, 6), (64, 7)] S U ∧ True) := by
  have hF : Fr [77, 79, 81, 82, 83, 84, 85, 86, 87, 88, 89, 90] [(62, 2), (62, 3), (62, 4), (62, 5), (62, 6), (64, 3), (64, 4), (64, 5), (64, 6), (64, 7)] S S := Fr.rf
  refine e_eq (f_Yard_turn.eq_1 _ _ _) ?_
  refine e_cV (t_Yard_beginAct hW) (fun T1 p1 => ?_)
  obtain ⟨hW1, hT1⟩ := p1
  have hF1 := hF.tr hT1 rfl
  refine e_cE (t_Routes_turnPoint hW1) (fun u2 T2 p2 => ?_)
  obtain ⟨hW2, hT2, hr2⟩ := p2
  have hF2 := hF1.tr hT2 rfl
  refine e_cE (t_Yard_endAct hW2) (fun u3 T3 p3 => ?_)
  obtain ⟨hW3, hT3, hr3⟩ := p3
  have hF3 := hF2.tr hT3 rfl
  exact e_some ⟨hW3, hF3, trivial⟩
set_option maxRecDepth 20000 in
set_option maxHeartbeats 4000000 in
theorem t_Routes_lockFinding {a1 : Int32} {a2 : Int32} {S : SS} (hW : WR S) : Ex2 (f_Routes_lockFinding a1 a2 S) (fun r U => WR U ∧ Fr [] [(62, 6)] S U ∧ rg r 0 12) := by
  have hF : Fr [] [(62, 6)] S S := Fr.rf
  refine e_eq (f_Routes_lockFinding.eq_1 _ _ _) ?_
  refine e_cE (t_State_locker hW) (fun u1 T1 p1 => ?_)
  obtain ⟨-, hT1, hr1⟩ := p1
  have eT1 := (fr_nil hT1).symm
  subst eT1
  refine e_i (fun q2 => ?_) (fun q2 => ?_)
  · refine e_cE (t_Routes_hasLink hW) (fun u4 T4 p4 => ?_)
    obtain ⟨-, hT4, hr4⟩ := p4
    have eT4 := (fr_nil hT4).symm
    subst eT4
    refine e_i (fun q5 => ?_) (fun q5 => ?_)
    · exact e_some ⟨hW, hF, ((rgl (3) 3 3 rfl).sub rfl)⟩
    · refine e_cE (t_State_setting hW) (fun u8 T8 p8 => ?_)
      obtain ⟨-, hT8, hr8⟩ := p8
      have eT8 := (fr_nil hT8).symm
      subst eT8
      refine e_i (fun q9 => ?_) (fun q9 => ?_)
      · exact e_some ⟨hW, hF, ((rgl (0) 0 0 rfl).sub rfl)⟩
      · refine e_cE (t_Routes_isUnder hW) (fun u10 T10 p10 => ?_)
        obtain ⟨-, hT10, hr10⟩ := p10
        have eT10 := (fr_nil hT10).symm
        subst eT10
        refine e_i (fun q11 => ?_) (fun q11 => ?_)
        · exact e_some ⟨hW, hF, ((rgl (0) 0 0 rfl).sub rfl)⟩
        · exact e_some ⟨hW, hF, ((rgl (12) 12 12 rfl).sub rfl)⟩
  · refine e_cE (t_State_locker hW) (fun u14 T14 p14 => ?_)
    obtain ⟨-, hT14, hr14⟩ := p14
    have eT14 := (fr_nil hT14).symm
    subst eT14
    refine e_cE (t_Routes_lockedFinding hW) (fun u15 T15 p15 => ?_)
    obtain ⟨hW15, hT15, hr15⟩ := p15
    have hF15 := hF.tr hT15 rfl
    exact e_some ⟨hW15, hF15, (hr15.sub rfl)⟩
set_option maxRecDepth 20000 in
set_option maxHeartbeats 4000000 in
theorem t_Routes_giveBack_L2 {S0 : SS} : ∀ (n : Nat) (x1 : Int32) (x2 : Int32) (x3 : Int32) (S : SS), WR S → Fr [79] [] S0 S → rg x1 0 88 → rg x2 0 8 → rg x3 0 8 → 8 - x3.toInt < (n : Int) → Ew (f_Routes_giveBack_L2 n x1 x2 x3 S) (fun U => WR U ∧ Fr [79] [] S0 U) := by
  intro n
  induction n with
  | zero =>
    intro x1 x2 x3 S hW hF h0 h1 h2 hm
    exact up_0 h2 hm rfl
  | succ n ih =>
    intro x1 x2 x3 S hW hF h0 h1 h2 hm
    refine v_eq (f_Routes_giveBack_L2.eq_2 _ _ _ _ _) ?_
    refine v_i (fun q1 => ?_) (fun q1 => ?_)
    · exact v_some ⟨hW, hF⟩
    · have f2 := nle_l 1 h1 h2 q1 rfl
      have f3 := nle_r 7 h1 h2 q1 rfl
      refine v_grd (inb_g (rg_add 0 95 h0 f3 rfl) rfl) ?_
      refine v_grd (inb_g f3 rfl) ?_
      refine v_cV (t_State_setPoint hW) (fun T4 p4 => ?_)
      obtain ⟨hW4, hT4⟩ := p4
      have hF4 := hF.tr hT4 rfl
      refine v_nmG (fun w5 hw5 => ?_)
      have f6 := rg_tr (rg_add 1 8 f3 (rgl (1) 1 1 rfl) rfl) hw5
      exact ih _ _ _ _ hW4 hF4 h0 (f2.sub rfl) (f6.sub rfl) (up_s f3 hw5 hm rfl)
set_option maxRecDepth 20000 in
set_option maxHeartbeats 4000000 in
theorem t_Routes_giveBack {a1 : Int32} {a2 : Int32} {S : SS} (hW : WR S) (h0 : rg a1 0 88) (h1 : rg a2 0 8) : Ew (f_Routes_giveBack a1 a2 S) (fun U => WR U ∧ Fr [79] [] S U) := by
  have hF : Fr [79] [] S S := Fr.rf
  refine v_eq (f_Routes_giveBack.eq_1 _ _ _) ?_
  exact t_Routes_giveBack_L2  NF _ _ _ _ hW hF h0 h1 ((rgl (0) 0 0 rfl).sub rfl) (up_n (rgl (0) 0 0 rfl) rfl)
set_option maxRecDepth 20000 in
set_option maxHeartbeats 4000000 in
theorem t_Routes_lockAll_L34 {S0 : SS} : ∀ (n : Nat) (x1 : Int32) (x3 : Int32) (x4 : Int32) (x5 : Int32) (S : SS), WR S → Fr [77, 79, 103] [(62, 3), (62, 6)] S0 S → rg x3 0 8 → rg x4 0 88 → rg x5 0 8 → 8 - x5.toInt < (n : Int) → Ex2 (f_Routes_lockAll_L34 n x1 x3 x4 x5 S) (fun r U => WR U ∧ Fr [77, 79, 103] [(62, 3), (62, 6)] S0 U ∧ rg r (-2) 8) := by
  intro n
  induction n with
  | zero =>
    intro x1 x3 x4 x5 S hW hF h1 h2 h3 hm
    exact up_0 h3 hm rfl
  | succ n ih =>
    intro x1 x3 x4 x5 S hW hF h1 h2 h3 hm
    refine e_eq (f_Routes_lockAll_L34.eq_2 _ _ _ _ _ _) ?_
    refine e_i (fun q1 => ?_) (fun q1 => ?_)
    · exact e_some ⟨hW, hF, (h1.sub rfl)⟩
    · have f2 := nle_l 1 h1 h3 q1 rfl
      have f3 := nle_r 7 h1 h3 q1 rfl
      refine e_grd (inb_g (rg_add 0 95 h2 f3 rfl) rfl) ?_
      refine e_nmG (fun w4 hw4 => ?_)
      refine e_grd (inb_g (rg_add 0 95 h2 f3 rfl) rfl) ?_
      refine e_cE (t_Routes_lockFinding hW) (fun u5 T5 p5 => ?_)
      obtain ⟨hW5, hT5, hr5⟩ := p5
      have hF5 := hF.tr hT5 rfl
      refine e_i (fun q6 => ?_) (fun q6 => ?_)
      · refine e_cE (t_State_setting hW5) (fun u8 T8 p8 => ?_)
        obtain ⟨-, hT8, hr8⟩ := p8
        have eT8 := (fr_nil hT8).symm
        subst eT8
        refine e_grd (inb_g f3 rfl) ?_
        refine e_wrA (fun T9 eT9 hT9 v9 => ?_)
        have hW9 := WR.st (k := 103) hW5 trivial rfl eT9
        have hF9 := hF5.tr hT9 rfl
        refine e_grd (inb_g (rg_add 0 95 h2 f3 rfl) rfl) ?_
        refine e_cV (t_State_setPoint hW9) (fun T10 p10 => ?_)
        obtain ⟨hW10, hT10⟩ := p10
        have hF10 := hF9.tr hT10 rfl
        refine e_nmG (fun w11 hw11 => ?_)
        have f12 := rg_tr (rg_add 1 8 f3 (rgl (1) 1 1 rfl) rfl) hw11
        exact ih _ _ _ _ _ hW10 hF10 (f2.sub rfl) h2 (f12.sub rfl) (up_s f3 hw11 hm rfl)
      · refine e_cV (t_Routes_giveBack hW5 h2 (f3.sub rfl)) (fun T14 p14 => ?_)
        obtain ⟨hW14, hT14⟩ := p14
        have hF14 := hF5.tr hT14 rfl
        refine e_cE (t_Report_found hW14) (fun u15 T15 p15 => ?_)
        obtain ⟨hW15, hT15, hr15⟩ := p15
        have hF15 := hF14.tr hT15 rfl
        exact e_some ⟨hW15, hF15, (hr15.sub rfl)⟩
set_option maxRecDepth 20000 in
set_option maxHeartbeats 4000000 in
theorem t_Routes_lockAll {a1 : Int32} {S : SS} (hW : WR S) : Ex2 (f_Routes_lockAll a1 S) (fun r U => WR U ∧ Fr [77, 79, 103] [(62, 3), (62, 6)] S U ∧ rg r (-2) 8) := by
  have hF : Fr [77, 79, 103] [(62, 3), (62, 6)] S S := Fr.rf
  refine e_eq (f_Routes_lockAll.eq_1 _ _) ?_
  refine e_bnd ?_
  refine e_eq (f_Routes_routeFinding.eq_1 _ _) ?_
  refine e_i (fun q1 => ?_) (fun q1 => ?_)
  · refine e_some ?_
    refine e_f (by decide) ?_
    refine e_cE (t_Report_found hW) (fun u3 T3 p3 => ?_)
    obtain ⟨hW3, hT3, hr3⟩ := p3
    have hF3 := hF.tr hT3 rfl
    exact e_some ⟨hW3, hF3, (hr3.sub rfl)⟩
  · have f4 := nlt_l (rgt _) (rgl 0 0 0 rfl) q1
    refine e_i (fun q5 => ?_) (fun q5 => ?_)
    · have f6 := lt_l 11 f4 (rgl (12) 12 12 rfl) q5 rfl
      refine e_i (fun q7 => ?_) (fun q7 => ?_)
      · refine e_some ?_
        refine e_f (by decide) ?_
        refine e_cE (t_Report_found hW) (fun u9 T9 p9 => ?_)
        obtain ⟨hW9, hT9, hr9⟩ := p9
        have hF9 := hF.tr hT9 rfl
        exact e_some ⟨hW9, hF9, (hr9.sub rfl)⟩
      · refine e_some ?_
        refine e_t (by decide) ?_
        refine e_bnd ?_
        refine e_eq (f_Routes_entriesOf.eq_1 _ _) ?_
        refine e_f q1 ?_
        refine e_f q7 ?_
        refine e_grd (inb_g f6 rfl) ?_
        refine e_someG (fun w12 hw12 => ?_)
        have f13 := rg_tr (ro_99 hW _) hw12
        refine e_nmG (fun w14 hw14 => ?_)
        have f15 := rg_tr (rg_mul 0 88 (rgl (8) 8 8 rfl) f6 rfl) hw14
        exact t_Routes_lockAll_L34  NF _ _ _ _ _ hW hF f13 f15 ((rgl (0) 0 0 rfl).sub rfl) (up_n (rgl (0) 0 0 rfl) rfl)
    · refine e_some ?_
      refine e_f (by decide) ?_
      refine e_cE (t_Report_found hW) (fun u17 T17 p17 => ?_)
      obtain ⟨hW17, hT17, hr17⟩ := p17
      have hF17 := hF.tr hT17 rfl
      exact e_some ⟨hW17, hF17, (hr17.sub rfl)⟩
set_option maxRecDepth 20000 in
set_option maxHeartbeats 4000000 in
theorem t_Yard_lock {a1 : Int32} {S : SS} (hW : WR S) : Ex2 (f_Yard_lock a1 S) (fun r U => WR U ∧ Fr [77, 79, 81, 82, 83, 84, 85, 86, 87, 88, 89, 90, 103] [(62, 2), (62, 3), (62, 4), (62, 5), (62, 6), (64, 3), (64, 4), (64, 5), (64, 6), (64, 7)] S U ∧ True) := by
  have hF : Fr [77, 79, 81, 82, 83, 84, 85, 86, 87, 88, 89, 90, 103] [(62, 2), (62, 3), (62, 4), (62, 5), (62, 6), (64, 3), (64, 4), (64, 5), (64, 6), (64, 7)] S S := Fr.rf
  refine e_eq (f_Yard_lock.eq_1 _ _) ?_
  refine e_cV (t_Yard_beginAct hW) (fun T1 p1 => ?_)
  obtain ⟨hW1, hT1⟩ := p1
  have hF1 := hF.tr hT1 rfl
  refine e_cE (t_Routes_lockAll hW1) (fun u2 T2 p2 => ?_)
  obtain ⟨hW2, hT2, hr2⟩ := p2
  have hF2 := hF1.tr hT2 rfl
  refine e_cE (t_Yard_endAct hW2) (fun u3 T3 p3 => ?_)
  obtain ⟨hW3, hT3, hr3⟩ := p3
  have hF3 := hF2.tr hT3 rfl
  exact e_some ⟨hW3, hF3, trivial⟩
set_option maxRecDepth 20000 in
set_option maxHeartbeats 4000000 in
theorem t_Routes_freeAll_L28 {S0 : SS} : ∀ (n : Nat) (x1 : Int32) (x3 : Int32) (x4 : Int32) (S : SS), WR S → Fr [77, 79] [(62, 3)] S0 S → rg x4 0 40 → 40 - x4.toInt < (n : Int) → Ex2 (f_Routes_freeAll_L28 n x1 x3 x4 S) (fun r U => WR U ∧ Fr [77, 79] [(62, 3)] S0 U ∧ True) := by
  intro n
  induction n with
  | zero =>
    intro x1 x3 x4 S hW hF h2 hm
    exact up_0 h2 hm rfl
  | succ n ih =>
    intro x1 x3 x4 S hW hF h2 hm
    refine e_eq (f_Routes_freeAll_L28.eq_2 _ _ _ _ _) ?_
    refine e_i (fun q1 => ?_) (fun q1 => ?_)
    · exact e_some ⟨hW, hF, trivial⟩
    · have f3 := nle_r 39 (ro_66_8 hW) h2 q1 rfl
      refine e_cE (t_State_locker hW) (fun u4 T4 p4 => ?_)
      obtain ⟨-, hT4, hr4⟩ := p4
      have eT4 := (fr_nil hT4).symm
      subst eT4
      refine e_i (fun q5 => ?_) (fun q5 => ?_)
      · refine e_cE (t_State_setting hW) (fun u6 T6 p6 => ?_)
        obtain ⟨-, hT6, hr6⟩ := p6
        have eT6 := (fr_nil hT6).symm
        subst eT6
        refine e_cV (t_State_setPoint hW) (fun T7 p7 => ?_)
        obtain ⟨hW7, hT7⟩ := p7
        have hF7 := hF.tr hT7 rfl
        refine e_eq (f_Routes_freeAll_j73.eq_1 _ _ _ _ _) ?_
        refine e_nmG (fun w9 hw9 => ?_)
        have f10 := rg_tr (rg_add 1 40 f3 (rgl (1) 1 1 rfl) rfl) hw9
        exact ih _ _ _ _ hW7 hF7 (f10.sub rfl) (up_s f3 hw9 hm rfl)
      · refine e_eq (f_Routes_freeAll_j73.eq_1 _ _ _ _ _) ?_
        refine e_nmG (fun w11 hw11 => ?_)
        have f12 := rg_tr (rg_add 1 40 f3 (rgl (1) 1 1 rfl) rfl) hw11
        exact ih _ _ _ _ hW hF (f12.sub rfl) (up_s f3 hw11 hm rfl)
set_option maxRecDepth 20000 in
set_option maxHeartbeats 4000000 in
theorem t_Routes_freeAll {a1 : Int32} {S : SS} (hW : WR S) : Ex2 (f_Routes_freeAll a1 S) (fun r U => WR U ∧ Fr [77, 79] [(62, 3)] S U ∧ True) := by
  have hF : Fr [77, 79] [(62, 3)] S S := Fr.rf
  refine e_eq (f_Routes_freeAll.eq_1 _ _) ?_
  refine e_bnd ?_
  refine e_eq (f_Routes_routeFinding.eq_1 _ _) ?_
  refine e_i (fun q1 => ?_) (fun q1 => ?_)
  · refine e_some ?_
    refine e_f (by decide) ?_
    refine e_cE (t_Report_found hW) (fun u3 T3 p3 => ?_)
    obtain ⟨hW3, hT3, hr3⟩ := p3
    have hF3 := hF.tr hT3 rfl
    exact e_some ⟨hW3, hF3, trivial⟩
  · refine e_i (fun q5 => ?_) (fun q5 => ?_)
    · refine e_i (fun q7 => ?_) (fun q7 => ?_)
      · refine e_some ?_
        refine e_f (by decide) ?_
        refine e_cE (t_Report_found hW) (fun u9 T9 p9 => ?_)
        obtain ⟨hW9, hT9, hr9⟩ := p9
        have hF9 := hF.tr hT9 rfl
        exact e_some ⟨hW9, hF9, trivial⟩
      · refine e_some ?_
        refine e_t (by decide) ?_
        refine e_cE (t_Routes_lockedBy hW) (fun u12 T12 p12 => ?_)
        obtain ⟨-, hT12, hr12⟩ := p12
        have eT12 := (fr_nil hT12).symm
        subst eT12
        exact t_Routes_freeAll_L28  NF _ _ _ _ hW hF ((rgl (0) 0 0 rfl).sub rfl) (up_n (rgl (0) 0 0 rfl) rfl)
    · refine e_some ?_
      refine e_f (by decide) ?_
      refine e_cE (t_Report_found hW) (fun u14 T14 p14 => ?_)
      obtain ⟨hW14, hT14, hr14⟩ := p14
      have hF14 := hF.tr hT14 rfl
      exact e_some ⟨hW14, hF14, trivial⟩
set_option maxRecDepth 20000 in
set_option maxHeartbeats 4000000 in
theorem t_Yard_free {a1 : Int32} {S : SS} (hW : WR S) : Ex2 (f_Yard_free a1 S) (fun r U => WR U ∧ Fr [77, 79, 81, 82, 83, 84, 85, 86, 87, 88, 89, 90] [(62, 2), (62, 3), (62, 4), (62, 5), (62, 6), (64, 3), (64, 4), (64, 5), (64, 6), (64, 7)] S U ∧ True) := by
  have hF : Fr [77, 79, 81, 82, 83, 84, 85, 86, 87, 88, 89, 90] [(62, 2), (62, 3), (62, 4), (62, 5), (62, 6), (64, 3), (64, 4), (64, 5), (64, 6), (64, 7)] S S := Fr.rf
  refine e_eq (f_Yard_free.eq_1 _ _) ?_
  refine e_cV (t_Yard_beginAct hW) (fun T1 p1 => ?_)
  obtain ⟨hW1, hT1⟩ := p1
  have hF1 := hF.tr hT1 rfl
  refine e_cE (t_Routes_freeAll hW1) (fun u2 T2 p2 => ?_)
  obtain ⟨hW2, hT2, hr2⟩ := p2
  have hF2 := hF1.tr hT2 rfl
  refine e_cE (t_Yard_endAct hW2) (fun u3 T3 p3 => ?_)
  obtain ⟨hW3, hT3, hr3⟩ := p3
  have hF3 := hF2.tr hT3 rfl
  exact e_some ⟨hW3, hF3, trivial⟩
set_option maxRecDepth 20000 in
set_option maxHeartbeats 4000000 in
theorem t_State_looks {a1 : Int32} {S : SS} (hW : WR S) : Ex2 (f_State_looks a1 S) (fun r U => WR U ∧ Fr [] [] S U ∧ True) := by
  have hF : Fr [] [] S S := Fr.rf
  refine e_eq (f_State_looks.eq_1 _ _) ?_
  refine e_cE (t_State_get hW ((rgl (1) 1 1 rfl).sub rfl)) (fun u1 T1 p1 => ?_)
  obtain ⟨-, hT1, hr1⟩ := p1
  have eT1 := (fr_nil hT1).symm
  subst eT1
  exact e_some ⟨hW, hF, trivial⟩
set_option maxRecDepth 20000 in
set_option maxHeartbeats 4000000 in
theorem t_Layout_trackOf {a0 : Int32} {S : SS} (hW : WR S) : Ex2 (f_Layout_trackOf a0 S) (fun r U => WR U ∧ Fr [] [] S U ∧ True) := by
  have hF : Fr [] [] S S := Fr.rf
  refine e_eq (f_Layout_trackOf.eq_1 _ _) ?_
  exact e_some ⟨hW, hF, trivial⟩
set_option maxRecDepth 20000 in
set_option maxHeartbeats 4000000 in
theorem t_Layout_placeOf {a0 : Int32} {S : SS} (hW : WR S) : Ex2 (f_Layout_placeOf a0 S) (fun r U => WR U ∧ Fr [] [] S U ∧ True) := by
  have hF : Fr [] [] S S := Fr.rf
  refine e_eq (f_Layout_placeOf.eq_1 _ _) ?_
  exact e_some ⟨hW, hF, trivial⟩
