set_option maxRecDepth 20000 in
set_option maxHeartbeats 4000000 in
theorem t_Layout_endNextTo {a1 : Int32} {a2 : Int32} {S : SS} (hW : WR S) : Ex2 (f_Layout_endNextTo a1 a2 S) (fun r U => WR U ∧ Fr [] [] S U ∧ True) := by
  have hF : Fr [] [] S S := Fr.rf
  refine e_eq (f_Layout_endNextTo.eq_1 _ _ _) ?_
  refine e_cE (t_Layout_trackOf hW) (fun u1 T1 p1 => ?_)
  obtain ⟨-, hT1, hr1⟩ := p1
  have eT1 := (fr_nil hT1).symm
  subst eT1
  refine e_i (fun q2 => ?_) (fun q2 => ?_)
  · refine e_eq (f_Layout_endNextTo_j20.eq_1 _ _ _ _ _) ?_
    refine e_cE (t_Layout_placeOf hW) (fun u4 T4 p4 => ?_)
    obtain ⟨-, hT4, hr4⟩ := p4
    have eT4 := (fr_nil hT4).symm
    subst eT4
    refine e_i (fun q5 => ?_) (fun q5 => ?_)
    · exact e_some ⟨hW, hF, trivial⟩
    · exact e_some ⟨hW, hF, trivial⟩
  · refine e_bnd ?_
    refine e_eq (f_Layout_placesOf.eq_1 _ _) ?_
    refine e_i (fun q7 => ?_) (fun q7 => ?_)
    · refine e_some ?_
      refine e_eq (f_Layout_endNextTo_j20.eq_1 _ _ _ _ _) ?_
      refine e_cE (t_Layout_placeOf hW) (fun u9 T9 p9 => ?_)
      obtain ⟨-, hT9, hr9⟩ := p9
      have eT9 := (fr_nil hT9).symm
      subst eT9
      refine e_i (fun q10 => ?_) (fun q10 => ?_)
      · exact e_some ⟨hW, hF, trivial⟩
      · exact e_some ⟨hW, hF, trivial⟩
    · have f12 := nlt_l (rgt _) (rgl 0 0 0 rfl) q7
      refine e_i (fun q13 => ?_) (fun q13 => ?_)
      · refine e_some ?_
        refine e_eq (f_Layout_endNextTo_j20.eq_1 _ _ _ _ _) ?_
        refine e_cE (t_Layout_placeOf hW) (fun u14 T14 p14 => ?_)
        obtain ⟨-, hT14, hr14⟩ := p14
        have eT14 := (fr_nil hT14).symm
        subst eT14
        refine e_i (fun q15 => ?_) (fun q15 => ?_)
        · exact e_some ⟨hW, hF, trivial⟩
        · exact e_some ⟨hW, hF, trivial⟩
      · have f18 := nle_r 23 (ro_66_7 hW) f12 q13 rfl
        refine e_grd (inb_g f18 rfl) ?_
        refine e_someG (fun w19 hw19 => ?_)
        refine e_eq (f_Layout_endNextTo_j20.eq_1 _ _ _ _ _) ?_
        refine e_cE (t_Layout_placeOf hW) (fun u20 T20 p20 => ?_)
        obtain ⟨-, hT20, hr20⟩ := p20
        have eT20 := (fr_nil hT20).symm
        subst eT20
        refine e_i (fun q21 => ?_) (fun q21 => ?_)
        · exact e_some ⟨hW, hF, trivial⟩
        · exact e_some ⟨hW, hF, trivial⟩
set_option maxRecDepth 20000 in
set_option maxHeartbeats 4000000 in
theorem t_Layout_leadsTo {a1 : Int32} {S : SS} (hW : WR S) : Ex2 (f_Layout_leadsTo a1 S) (fun r U => WR U ∧ Fr [] [] S U ∧ True) := by
  have hF : Fr [] [] S S := Fr.rf
  refine e_eq (f_Layout_leadsTo.eq_1 _ _) ?_
  refine e_bnd ?_
  refine e_eq (f_Layout_pointAt.eq_1 _ _) ?_
  refine e_i (fun q1 => ?_) (fun q1 => ?_)
  · refine e_some ?_
    refine e_t rfl ?_
    refine e_eq (f_Layout_leadsTo_j24.eq_1 _ _ _) ?_
    refine e_f (by decide) ?_
    refine e_bnd ?_
    refine e_eq (f_Layout_linksAt.eq_1 _ _) ?_
    refine e_t q1 ?_
    refine e_some ?_
    refine e_f (by decide) ?_
    exact e_some ⟨hW, hF, trivial⟩
  · have f3 := nlt_l (rgt _) (rgl 0 0 0 rfl) q1
    refine e_i (fun q4 => ?_) (fun q4 => ?_)
    · refine e_some ?_
      refine e_t rfl ?_
      refine e_eq (f_Layout_leadsTo_j24.eq_1 _ _ _) ?_
      refine e_f (by decide) ?_
      refine e_bnd ?_
      refine e_eq (f_Layout_linksAt.eq_1 _ _) ?_
      refine e_f q1 ?_
      refine e_t q4 ?_
      refine e_some ?_
      refine e_f (by decide) ?_
      exact e_some ⟨hW, hF, trivial⟩
    · have f6 := nle_r 47 (rgl (48) 48 48 rfl) f3 q4 rfl
      refine e_grd (inb_g f6 rfl) ?_
      refine e_someG (fun w7 hw7 => ?_)
      refine e_i (fun q8 => ?_) (fun q8 => ?_)
      · refine e_eq (f_Layout_leadsTo_j24.eq_1 _ _ _) ?_
        refine e_f (by decide) ?_
        refine e_bnd ?_
        refine e_eq (f_Layout_linksAt.eq_1 _ _) ?_
        refine e_f q1 ?_
        refine e_f q4 ?_
        refine e_grd (inb_g f6 rfl) ?_
        refine e_someG (fun w11 hw11 => ?_)
        refine e_i (fun q13 => ?_) (fun q13 => ?_)
        · refine e_grd (inb_g (rg_add 0 141 (rg_mul 0 141 (rgl (3) 3 3 rfl) f6 rfl) (rgl (0) 0 0 rfl) rfl) rfl) ?_
          exact e_some ⟨hW, hF, trivial⟩
        · exact e_some ⟨hW, hF, trivial⟩
      · refine e_cE (t_State_setting hW) (fun u18 T18 p18 => ?_)
        obtain ⟨-, hT18, hr18⟩ := p18
        have eT18 := (fr_nil hT18).symm
        subst eT18
        refine e_eq (f_Layout_leadsTo_j24.eq_1 _ _ _) ?_
        refine e_i (fun q19 => ?_) (fun q19 => ?_)
        · exact e_some ⟨hW, hF, trivial⟩
        · have f21 := nlt_l (rgt _) (rgl 0 0 0 rfl) q19
          refine e_bnd ?_
          refine e_eq (f_Layout_linksAt.eq_1 _ _) ?_
          refine e_f q1 ?_
          refine e_f q4 ?_
          refine e_grd (inb_g f6 rfl) ?_
          refine e_someG (fun w22 hw22 => ?_)
          have f23 := rg_tr (ro_96 hW _) hw22
          refine e_i (fun q24 => ?_) (fun q24 => ?_)
          · have f25 := lt_l 2 f21 f23 q24 rfl
            refine e_grd (inb_g (rg_add 0 143 (rg_mul 0 141 (rgl (3) 3 3 rfl) f6 rfl) f25 rfl) rfl) ?_
            exact e_some ⟨hW, hF, trivial⟩
          · exact e_some ⟨hW, hF, trivial⟩
set_option maxRecDepth 20000 in
set_option maxHeartbeats 4000000 in
theorem t_Layout_nextPlace {a1 : Int32} {a2 : Int32} {S : SS} (hW : WR S) : Ex2 (f_Layout_nextPlace a1 a2 S) (fun r U => WR U ∧ Fr [] [] S U ∧ True) := by
  have hF : Fr [] [] S S := Fr.rf
  refine e_eq (f_Layout_nextPlace.eq_1 _ _ _) ?_
  refine e_cE (t_Layout_endNextTo hW) (fun u1 T1 p1 => ?_)
  obtain ⟨-, hT1, hr1⟩ := p1
  have eT1 := (fr_nil hT1).symm
  subst eT1
  refine e_i (fun q2 => ?_) (fun q2 => ?_)
  · exact e_some ⟨hW, hF, trivial⟩
  · refine e_cE (t_Layout_leadsTo hW) (fun u4 T4 p4 => ?_)
    obtain ⟨-, hT4, hr4⟩ := p4
    have eT4 := (fr_nil hT4).symm
    subst eT4
    refine e_i (fun q5 => ?_) (fun q5 => ?_)
    · exact e_some ⟨hW, hF, trivial⟩
    · refine e_cE (t_Layout_leadsTo hW) (fun u7 T7 p7 => ?_)
      obtain ⟨-, hT7, hr7⟩ := p7
      have eT7 := (fr_nil hT7).symm
      subst eT7
      refine e_i (fun q8 => ?_) (fun q8 => ?_)
      · refine e_cE (t_Layout_spotAt hW) (fun u9 T9 p9 => ?_)
        obtain ⟨-, hT9, hr9⟩ := p9
        have eT9 := (fr_nil hT9).symm
        subst eT9
        refine e_i (fun q10 => ?_) (fun q10 => ?_)
        · exact e_some ⟨hW, hF, trivial⟩
        · refine e_cE (t_Layout_spotAt hW) (fun u11 T11 p11 => ?_)
          obtain ⟨-, hT11, hr11⟩ := p11
          have eT11 := (fr_nil hT11).symm
          subst eT11
          exact e_some ⟨hW, hF, trivial⟩
      · exact e_some ⟨hW, hF, trivial⟩
set_option maxRecDepth 20000 in
set_option maxHeartbeats 4000000 in
theorem t_Trains_nextFrom {a1 : Int32} {S : SS} (hW : WR S) : Ex2 (f_Trains_nextFrom a1 S) (fun r U => WR U ∧ Fr [] [] S U ∧ True) := by
  have hF : Fr [] [] S S := Fr.rf
  refine e_eq (f_Trains_nextFrom.eq_1 _ _) ?_
  refine e_cE (t_State_get hW ((rgl (0) 0 0 rfl).sub rfl)) (fun u1 T1 p1 => ?_)
  obtain ⟨-, hT1, hr1⟩ := p1
  have eT1 := (fr_nil hT1).symm
  subst eT1
  refine e_cE (t_State_looks hW) (fun u2 T2 p2 => ?_)
  obtain ⟨-, hT2, hr2⟩ := p2
  have eT2 := (fr_nil hT2).symm
  subst eT2
  refine e_cE (t_Layout_nextPlace hW) (fun u3 T3 p3 => ?_)
  obtain ⟨-, hT3, hr3⟩ := p3
  have eT3 := (fr_nil hT3).symm
  subst eT3
  exact e_some ⟨hW, hF, trivial⟩
set_option maxRecDepth 20000 in
set_option maxHeartbeats 4000000 in
theorem t_Trains_isCoupled {a1 : Int32} {S : SS} (hW : WR S) : Ex2 (f_Trains_isCoupled a1 S) (fun r U => WR U ∧ Fr [] [] S U ∧ rg r 0 1) := by
  have hF : Fr [] [] S S := Fr.rf
  refine e_eq (f_Trains_isCoupled.eq_1 _ _) ?_
  refine e_cE (t_State_get hW ((rg_add 2 3 (rgl (2) 2 2 rfl) (and1 _) rfl).sub rfl)) (fun u1 T1 p1 => ?_)
  obtain ⟨-, hT1, hr1⟩ := p1
  have eT1 := (fr_nil hT1).symm
  subst eT1
  refine e_i (fun q2 => ?_) (fun q2 => ?_)
  · exact e_some ⟨hW, hF, ((rgl (0) 0 0 rfl).sub rfl)⟩
  · exact e_some ⟨hW, hF, ((rgl (1) 1 1 rfl).sub rfl)⟩
set_option maxRecDepth 20000 in
set_option maxHeartbeats 4000000 in
theorem t_State_isRunning {a1 : Int32} {S : SS} (hW : WR S) : Ex2 (f_State_isRunning a1 S) (fun r U => WR U ∧ Fr [] [] S U ∧ rg r 0 1) := by
  have hF : Fr [] [] S S := Fr.rf
  refine e_eq (f_State_isRunning.eq_1 _ _) ?_
  refine e_cE (t_State_get hW ((rgl (8) 8 8 rfl).sub rfl)) (fun u1 T1 p1 => ?_)
  obtain ⟨-, hT1, hr1⟩ := p1
  have eT1 := (fr_nil hT1).symm
  subst eT1
  refine e_i (fun q2 => ?_) (fun q2 => ?_)
  · exact e_some ⟨hW, hF, ((rgl (0) 0 0 rfl).sub rfl)⟩
  · exact e_some ⟨hW, hF, ((rgl (1) 1 1 rfl).sub rfl)⟩
set_option maxRecDepth 20000 in
set_option maxHeartbeats 4000000 in
theorem t_Trains_hookAt {a1 : Int32} {S : SS} (hW : WR S) : Ex2 (f_Trains_hookAt a1 S) (fun r U => WR U ∧ Fr [] [] S U ∧ rn r 0 143) := by
  have hF : Fr [] [] S S := Fr.rf
  refine e_eq (f_Trains_hookAt.eq_1 _ _) ?_
  refine e_i (fun q1 => ?_) (fun q1 => ?_)
  · refine e_eq (f_Trains_hookAt_j21.eq_1 _ _ _) ?_
    refine e_t rfl ?_
    exact e_some ⟨hW, hF, (rn4 (d_eq (rgl (-4) (-4) (-4) rfl) (rgl (-4) (-4) (-4) rfl) rfl))⟩
  · refine e_cE (t_State_standsAt hW) (fun u3 T3 p3 => ?_)
    obtain ⟨-, hT3, hr3⟩ := p3
    have eT3 := (fr_nil hT3).symm
    subst eT3
    refine e_eq (f_Trains_hookAt_j21.eq_1 _ _ _) ?_
    refine e_i (fun q4 => ?_) (fun q4 => ?_)
    · exact e_some ⟨hW, hF, (rn4 (d_eq (rgl (-4) (-4) (-4) rfl) (rgl (-4) (-4) (-4) rfl) rfl))⟩
    · have f6 := rn.ne hr3 q4
      refine e_cE (t_State_looks hW) (fun u7 T7 p7 => ?_)
      obtain ⟨-, hT7, hr7⟩ := p7
      have eT7 := (fr_nil hT7).symm
      subst eT7
      refine e_i (fun q8 => ?_) (fun q8 => ?_)
      · exact e_some ⟨hW, hF, (rg.toN ((rg_add 1 143 (rg_mul 0 142 (rgl (2) 2 2 rfl) f6 rfl) (rgl (1) 1 1 rfl) rfl).sub rfl))⟩
      · exact e_some ⟨hW, hF, (rg.toN ((rg_mul 0 142 (rgl (2) 2 2 rfl) f6 rfl).sub rfl))⟩
set_option maxRecDepth 20000 in
set_option maxHeartbeats 4000000 in
theorem t_Trains_onward {a1 : Int32} {S : SS} (hW : WR S) : Ex2 (f_Trains_onward a1 S) (fun r U => WR U ∧ Fr [] [] S U ∧ True) := by
  have hF : Fr [] [] S S := Fr.rf
  refine e_eq (f_Trains_onward.eq_1 _ _) ?_
  refine e_cE (t_State_get hW ((rg_add 2 3 (rgl (2) 2 2 rfl) (and1 _) rfl).sub rfl)) (fun u1 T1 p1 => ?_)
  obtain ⟨-, hT1, hr1⟩ := p1
  have eT1 := (fr_nil hT1).symm
  subst eT1
  refine e_i (fun q2 => ?_) (fun q2 => ?_)
  · exact e_some ⟨hW, hF, trivial⟩
  · refine e_cE (t_State_get hW ((rgl (2) 2 2 rfl).sub rfl)) (fun u4 T4 p4 => ?_)
    obtain ⟨-, hT4, hr4⟩ := p4
    have eT4 := (fr_nil hT4).symm
    subst eT4
    refine e_i (fun q5 => ?_) (fun q5 => ?_)
    · exact e_some ⟨hW, hF, trivial⟩
    · exact e_some ⟨hW, hF, trivial⟩
set_option maxRecDepth 20000 in
set_option maxHeartbeats 4000000 in
theorem t_Trains_lineUp_L41 {S0 : SS} : ∀ (n : Nat) (x3 : Int32) (S : SS), WR S → Fr [104] [(68, 4)] S0 S → 72 - (S.1 68 4).toInt < (n : Int) → Ew (f_Trains_lineUp_L41 n x3 S) (fun U => WR U ∧ Fr [104] [(68, 4)] S0 U) := by
  intro n
  induction n with
  | zero =>
    intro x3 S hW hF hm
    exact up_0 (ro_68_4 hW) hm rfl
  | succ n ih =>
    intro x3 S hW hF hm
    refine v_eq (f_Trains_lineUp_L41.eq_2 _ _ _) ?_
    refine v_i (fun q1 => ?_) (fun q1 => ?_)
    · exact v_some ⟨hW, hF⟩
    · refine v_i (fun q3 => ?_) (fun q3 => ?_)
      · exact v_some ⟨hW, hF⟩
      · have f5 := nle_r 71 (rgl (72) 72 72 rfl) (ro_68_4 hW) q3 rfl
        refine v_grd (inb_g f5 rfl) ?_
        refine v_wrA (fun T6 eT6 hT6 v6 => ?_)
        have hW6 := WR.st (k := 104) hW trivial rfl eT6
        have hF6 := hF.tr hT6 rfl
        have f7 := rg_tr f5 (hT6.1 68 _ rfl)
        refine v_wrO (fun T8 eT8 hT8 v8 => ?_)
        have hW8 := wo_68_4 hW6 ((rg_add 1 72 f7 (rgl (1) 1 1 rfl) rfl).sub rfl) eT8
        have hF8 := hF6.tr hT8 rfl
        refine v_cE (t_Trains_onward hW8) (fun u10 T10 p10 => ?_)
        obtain ⟨-, hT10, hr10⟩ := p10
        have eT10 := (fr_nil hT10).symm
        subst eT10
        exact ih _ _ hW8 hF8  (up_s f5 (v8.trans (congrArg (fun y => y + 1) ((hT6.1 68 4 rfl).trans rfl))) hm rfl)
set_option maxRecDepth 20000 in
set_option maxHeartbeats 4000000 in
theorem t_Trains_lineUp_L4 {S0 : SS} : ∀ (n : Nat) (x2 : Int32) (x3 : Int32) (S : SS), WR S → Fr [104] [(68, 4)] S0 S → rg x3 0 72 → 72 - x3.toInt < (n : Int) → Ew (f_Trains_lineUp_L4 n x2 x3 S) (fun U => WR U ∧ Fr [104] [(68, 4)] S0 U) := by
  intro n
  induction n with
  | zero =>
    intro x2 x3 S hW hF h1 hm
    exact up_0 h1 hm rfl
  | succ n ih =>
    intro x2 x3 S hW hF h1 hm
    refine v_eq (f_Trains_lineUp_L4.eq_2 _ _ _ _) ?_
    refine v_i (fun q1 => ?_) (fun q1 => ?_)
    · refine v_eq (f_Trains_lineUp_j32.eq_1 _ _) ?_
      refine v_wrO (fun T3 eT3 hT3 v3 => ?_)
      have hW3 := wo_68_4 hW ((rgl (0) 0 0 rfl).sub rfl) eT3
      have hF3 := hF.tr hT3 rfl
      have f4 := rg_tr (rgl (0) 0 0 rfl) v3
      refine v_nmG (fun w5 hw5 => ?_)
      exact t_Trains_lineUp_L41 NF _ _ hW3 hF3  (up_n f4 rfl)
    · have f6 := nle_r 71 (rgl (72) 72 72 rfl) h1 q1 rfl
      refine v_cE (t_Trains_onward hW) (fun u7 T7 p7 => ?_)
      obtain ⟨-, hT7, hr7⟩ := p7
      have eT7 := (fr_nil hT7).symm
      subst eT7
      refine v_i (fun q8 => ?_) (fun q8 => ?_)
      · refine v_eq (f_Trains_lineUp_j32.eq_1 _ _) ?_
        refine v_wrO (fun T10 eT10 hT10 v10 => ?_)
        have hW10 := wo_68_4 hW ((rgl (0) 0 0 rfl).sub rfl) eT10
        have hF10 := hF.tr hT10 rfl
        have f11 := rg_tr (rgl (0) 0 0 rfl) v10
        refine v_nmG (fun w12 hw12 => ?_)
        exact t_Trains_lineUp_L41 NF _ _ hW10 hF10  (up_n f11 rfl)
      · refine v_cE (t_Trains_onward hW) (fun u13 T13 p13 => ?_)
        obtain ⟨-, hT13, hr13⟩ := p13
        have eT13 := (fr_nil hT13).symm
        subst eT13
        refine v_nmG (fun w14 hw14 => ?_)
        have f15 := rg_tr (rg_add 1 72 f6 (rgl (1) 1 1 rfl) rfl) hw14
        exact ih _ _ _ hW hF (f15.sub rfl) (up_s f6 hw14 hm rfl)
set_option maxRecDepth 20000 in
set_option maxHeartbeats 4000000 in
theorem t_Trains_lineUp {a1 : Int32} {S : SS} (hW : WR S) : Ew (f_Trains_lineUp a1 S) (fun U => WR U ∧ Fr [104] [(68, 4)] S U) := by
  have hF : Fr [104] [(68, 4)] S S := Fr.rf
  refine v_eq (f_Trains_lineUp.eq_1 _ _) ?_
  exact t_Trains_lineUp_L4  NF _ _ _ hW hF ((rgl (0) 0 0 rfl).sub rfl) (up_n (rgl (0) 0 0 rfl) rfl)
set_option maxRecDepth 20000 in
set_option maxHeartbeats 4000000 in
theorem t_Trains_hookInLine {a1 : Int32} {S : SS} (hW : WR S) : Ex2 (f_Trains_hookInLine a1 S) (fun r U => WR U ∧ Fr [] [] S U ∧ True) := by
  have hF : Fr [] [] S S := Fr.rf
  refine e_eq (f_Trains_hookInLine.eq_1 _ _) ?_
  refine e_i (fun q1 => ?_) (fun q1 => ?_)
  · exact e_some ⟨hW, hF, trivial⟩
  · have f3 := nlt_l (rgt _) (rgl 0 0 0 rfl) q1
    refine e_i (fun q4 => ?_) (fun q4 => ?_)
    · exact e_some ⟨hW, hF, trivial⟩
    · have f6 := nle_r 71 (ro_68_4 hW) f3 q4 rfl
      refine e_t (d_lt f6 (rgl (72) 72 72 rfl) rfl) ?_
      refine e_grd (inb_g f6 rfl) ?_
      exact e_some ⟨hW, hF, trivial⟩
set_option maxRecDepth 20000 in
set_option maxHeartbeats 4000000 in
theorem t_Trains_inLine {a1 : Int32} {S : SS} (hW : WR S) : Ex2 (f_Trains_inLine a1 S) (fun r U => WR U ∧ Fr [] [] S U ∧ True) := by
  have hF : Fr [] [] S S := Fr.rf
  refine e_eq (f_Trains_inLine.eq_1 _ _) ?_
  refine e_cE (t_Trains_hookInLine hW) (fun u1 T1 p1 => ?_)
  obtain ⟨-, hT1, hr1⟩ := p1
  have eT1 := (fr_nil hT1).symm
  subst eT1
  refine e_i (fun q2 => ?_) (fun q2 => ?_)
  · exact e_some ⟨hW, hF, trivial⟩
  · exact e_some ⟨hW, hF, trivial⟩
set_option maxRecDepth 20000 in
set_option maxHeartbeats 4000000 in
theorem t_Trains_areOne_L9 {S0 : SS} : ∀ (n : Nat) (x2 : Int32) (x3 : Int32) (S : SS), WR S → Fr [104] [(68, 4)] S0 S → rg x3 0 72 → 72 - x3.toInt < (n : Int) → Ex2 (f_Trains_areOne_L9 n x2 x3 S) (fun r U => WR U ∧ Fr [104] [(68, 4)] S0 U ∧ rg r 0 1) := by
  intro n
  induction n with
  | zero =>
    intro x2 x3 S hW hF h1 hm
    exact up_0 h1 hm rfl
  | succ n ih =>
    intro x2 x3 S hW hF h1 hm
    refine e_eq (f_Trains_areOne_L9.eq_2 _ _ _ _) ?_
    refine e_i (fun q1 => ?_) (fun q1 => ?_)
    · exact e_some ⟨hW, hF, ((rgl (0) 0 0 rfl).sub rfl)⟩
    · have f3 := nle_r 71 (ro_68_4 hW) h1 q1 rfl
      refine e_cE (t_Trains_inLine hW) (fun u4 T4 p4 => ?_)
      obtain ⟨-, hT4, hr4⟩ := p4
      have eT4 := (fr_nil hT4).symm
      subst eT4
      refine e_i (fun q5 => ?_) (fun q5 => ?_)
      · exact e_some ⟨hW, hF, ((rgl (1) 1 1 rfl).sub rfl)⟩
      · refine e_nmG (fun w6 hw6 => ?_)
        have f7 := rg_tr (rg_add 1 72 f3 (rgl (1) 1 1 rfl) rfl) hw6
        exact ih _ _ _ hW hF (f7.sub rfl) (up_s f3 hw6 hm rfl)
set_option maxRecDepth 20000 in
set_option maxHeartbeats 4000000 in
theorem t_Trains_areOne {a1 : Int32} {a2 : Int32} {S : SS} (hW : WR S) : Ex2 (f_Trains_areOne a1 a2 S) (fun r U => WR U ∧ Fr [104] [(68, 4)] S U ∧ rg r 0 1) := by
  have hF : Fr [104] [(68, 4)] S S := Fr.rf
  refine e_eq (f_Trains_areOne.eq_1 _ _ _) ?_
  refine e_cV (t_Trains_lineUp hW) (fun T1 p1 => ?_)
  obtain ⟨hW1, hT1⟩ := p1
  have hF1 := hF.tr hT1 rfl
  exact t_Trains_areOne_L9  NF _ _ _ hW1 hF1 ((rgl (0) 0 0 rfl).sub rfl) (up_n (rgl (0) 0 0 rfl) rfl)
set_option maxRecDepth 20000 in
set_option maxHeartbeats 4000000 in
theorem t_Trains_reachFinding {a1 : Int32} {a2 : Int32} {S : SS} (hW : WR S) : Ex2 (f_Trains_reachFinding a1 a2 S) (fun r U => WR U ∧ Fr [104] [(68, 4)] S U ∧ rg r 0 16) := by
  have hF : Fr [104] [(68, 4)] S S := Fr.rf
  refine e_eq (f_Trains_reachFinding.eq_1 _ _ _) ?_
  refine e_cE (t_Trains_isCoupled hW) (fun u1 T1 p1 => ?_)
  obtain ⟨-, hT1, hr1⟩ := p1
  have eT1 := (fr_nil hT1).symm
  subst eT1
  refine e_i (fun q2 => ?_) (fun q2 => ?_)
  · refine e_cE (t_State_isRunning hW) (fun u4 T4 p4 => ?_)
    obtain ⟨-, hT4, hr4⟩ := p4
    have eT4 := (fr_nil hT4).symm
    subst eT4
    refine e_i (fun q5 => ?_) (fun q5 => ?_)
    · refine e_i (fun q7 => ?_) (fun q7 => ?_)
      · exact e_some ⟨hW, hF, ((rgl (10) 10 10 rfl).sub rfl)⟩
      · refine e_cE (t_Trains_hookAt hW) (fun u9 T9 p9 => ?_)
        obtain ⟨-, hT9, hr9⟩ := p9
        have eT9 := (fr_nil hT9).symm
        subst eT9
        refine e_i (fun q10 => ?_) (fun q10 => ?_)
        · exact e_some ⟨hW, hF, ((rgl (1) 1 1 rfl).sub rfl)⟩
        · refine e_cE (t_State_isRunning hW) (fun u13 T13 p13 => ?_)
          obtain ⟨-, hT13, hr13⟩ := p13
          have eT13 := (fr_nil hT13).symm
          subst eT13
          refine e_i (fun q14 => ?_) (fun q14 => ?_)
          · refine e_cE (t_Trains_isCoupled hW) (fun u16 T16 p16 => ?_)
            obtain ⟨-, hT16, hr16⟩ := p16
            have eT16 := (fr_nil hT16).symm
            subst eT16
            refine e_i (fun q17 => ?_) (fun q17 => ?_)
            · refine e_cE (t_Trains_areOne hW) (fun u19 T19 p19 => ?_)
              obtain ⟨hW19, hT19, hr19⟩ := p19
              have hF19 := hF.tr hT19 rfl
              refine e_i (fun q20 => ?_) (fun q20 => ?_)
              · exact e_some ⟨hW19, hF19, ((rgl (0) 0 0 rfl).sub rfl)⟩
              · exact e_some ⟨hW19, hF19, ((rgl (14) 14 14 rfl).sub rfl)⟩
            · exact e_some ⟨hW, hF, ((rgl (14) 14 14 rfl).sub rfl)⟩
          · exact e_some ⟨hW, hF, ((rgl (16) 16 16 rfl).sub rfl)⟩
    · exact e_some ⟨hW, hF, ((rgl (16) 16 16 rfl).sub rfl)⟩
  · exact e_some ⟨hW, hF, ((rgl (14) 14 14 rfl).sub rfl)⟩
set_option maxRecDepth 20000 in
set_option maxHeartbeats 4000000 in
theorem t_Bodies_kindOf {a1 : Int32} {S : SS} (hW : WR S) : Ex2 (f_Bodies_kindOf a1 S) (fun r U => WR U ∧ Fr [] [] S U ∧ True) := by
  have hF : Fr [] [] S S := Fr.rf
  refine e_eq (f_Bodies_kindOf.eq_1 _ _) ?_
  refine e_cE (t_Stock_get hW ((rgl (0) 0 0 rfl).sub rfl)) (fun u1 T1 p1 => ?_)
  obtain ⟨-, hT1, hr1⟩ := p1
  have eT1 := (fr_nil hT1).symm
  subst eT1
  exact e_some ⟨hW, hF, trivial⟩
set_option maxRecDepth 20000 in
set_option maxHeartbeats 4000000 in
theorem t_Report_beginBody {a1 : Int32} {S : SS} (hW : WR S) : Ew (f_Report_beginBody a1 S) (fun U => WR U ∧ Fr [78] [(62, 2)] S U) := by
  have hF : Fr [78] [(62, 2)] S S := Fr.rf
  refine v_eq (f_Report_beginBody.eq_1 _ _) ?_
  refine v_i (fun q1 => ?_) (fun q1 => ?_)
  · exact v_some ⟨hW, hF⟩
  · have f3 := nle_r 199 (rgl (200) 200 200 rfl) (ro_62_2 hW) q1 rfl
    refine v_grd (inb_g f3 rfl) ?_
    refine v_wrA (fun T4 eT4 hT4 v4 => ?_)
    have hW4 := WR.st (k := 78) hW trivial rfl eT4
    have hF4 := hF.tr hT4 rfl
    have f5 := rg_tr f3 (hT4.1 62 _ rfl)
    refine v_wrO (fun T6 eT6 hT6 v6 => ?_)
    have hW6 := wo_62_2 hW4 ((rg_add 1 200 f5 (rgl (1) 1 1 rfl) rfl).sub rfl) eT6
    have hF6 := hF4.tr hT6 rfl
    exact v_some ⟨hW6, hF6⟩
set_option maxRecDepth 20000 in
set_option maxHeartbeats 4000000 in
theorem t_Bodies_wagonSuits {a1 : Int32} {a2 : Int32} {S : SS} (hW : WR S) : Ex2 (f_Bodies_wagonSuits a1 a2 S) (fun r U => WR U ∧ Fr [78] [(62, 2)] S U ∧ rg r 0 1) := by
  have hF : Fr [78] [(62, 2)] S S := Fr.rf
  refine e_eq (f_Bodies_wagonSuits.eq_1 _ _ _) ?_
  refine e_cV (t_Report_beginBody hW) (fun T1 p1 => ?_)
  obtain ⟨hW1, hT1⟩ := p1
  have hF1 := hF.tr hT1 rfl
  refine e_bnd ?_
  refine e_eq (f_Stock_isAs.eq_1 _ _ _) ?_
  refine e_cE (t_Stock_get hW1 ((rgl (0) 0 0 rfl).sub rfl)) (fun u2 T2 p2 => ?_)
  obtain ⟨-, hT2, hr2⟩ := p2
  have eT2 := (fr_nil hT2).symm
  subst eT2
  refine e_i (fun q3 => ?_) (fun q3 => ?_)
  · refine e_some ?_
    refine e_t (by decide) ?_
    exact e_some ⟨hW1, hF1, ((rgl (1) 1 1 rfl).sub rfl)⟩
  · refine e_i (fun q6 => ?_) (fun q6 => ?_)
    · refine e_some ?_
      refine e_f (by decide) ?_
      refine e_cE (t_State_get hW1 ((rgl (7) 7 7 rfl).sub rfl)) (fun u8 T8 p8 => ?_)
      obtain ⟨-, hT8, hr8⟩ := p8
      have eT8 := (fr_nil hT8).symm
      subst eT8
      refine e_cE (t_State_get hW1 ((rgl (7) 7 7 rfl).sub rfl)) (fun u9 T9 p9 => ?_)
      obtain ⟨-, hT9, hr9⟩ := p9
      have eT9 := (fr_nil hT9).symm
      subst eT9
      refine e_cE (t_Bodies_isBarred hW1) (fun u10 T10 p10 => ?_)
      obtain ⟨-, hT10, hr10⟩ := p10
      have eT10 := (fr_nil hT10).symm
      subst eT10
      refine e_i (fun q11 => ?_) (fun q11 => ?_)
      · exact e_some ⟨hW1, hF1, ((rgl (1) 1 1 rfl).sub rfl)⟩
      · exact e_some ⟨hW1, hF1, ((rgl (0) 0 0 rfl).sub rfl)⟩
    · refine e_some ?_
      refine e_t (by decide) ?_
      exact e_some ⟨hW1, hF1, ((rgl (1) 1 1 rfl).sub rfl)⟩
set_option maxRecDepth 20000 in
set_option maxHeartbeats 4000000 in
theorem t_Bodies_suits {a1 : Int32} {a2 : Int32} {S : SS} (hW : WR S) : Ex2 (f_Bodies_suits a1 a2 S) (fun r U => WR U ∧ Fr [78] [(62, 2)] S U ∧ rg r 0 1) := by
  have hF : Fr [78] [(62, 2)] S S := Fr.rf
  refine e_eq (f_Bodies_suits.eq_1 _ _ _) ?_
  refine e_bnd ?_
  refine e_eq (f_Stock_isAs.eq_1 _ _ _) ?_
  refine e_cE (t_Stock_get hW ((rgl (0) 0 0 rfl).sub rfl)) (fun u1 T1 p1 => ?_)
  obtain ⟨-, hT1, hr1⟩ := p1
  have eT1 := (fr_nil hT1).symm
  subst eT1
  refine e_i (fun q2 => ?_) (fun q2 => ?_)
  · refine e_some ?_
    refine e_t (by decide) ?_
    refine e_cE (t_Bodies_kindOf hW) (fun u4 T4 p4 => ?_)
    obtain ⟨-, hT4, hr4⟩ := p4
    have eT4 := (fr_nil hT4).symm
    subst eT4
    refine e_i (fun q5 => ?_) (fun q5 => ?_)
    · refine e_cV (t_Report_beginBody hW) (fun T7 p7 => ?_)
      obtain ⟨hW7, hT7⟩ := p7
      have hF7 := hF.tr hT7 rfl
      refine e_bnd ?_
      refine e_eq (f_Stock_isAs.eq_1 _ _ _) ?_
      refine e_cE (t_Stock_get hW7 ((rgl (0) 0 0 rfl).sub rfl)) (fun u8 T8 p8 => ?_)
      obtain ⟨-, hT8, hr8⟩ := p8
      have eT8 := (fr_nil hT8).symm
      subst eT8
      refine e_i (fun q9 => ?_) (fun q9 => ?_)
      · refine e_some ?_
        refine e_t (by decide) ?_
        refine e_cE (t_Bodies_wagonSuits hW7) (fun u11 T11 p11 => ?_)
        obtain ⟨hW11, hT11, hr11⟩ := p11
        have hF11 := hF7.tr hT11 rfl
        refine e_i (fun q12 => ?_) (fun q12 => ?_)
        · exact e_some ⟨hW11, hF11, ((rgl (0) 0 0 rfl).sub rfl)⟩
        · exact e_some ⟨hW11, hF11, ((rgl (1) 1 1 rfl).sub rfl)⟩
      · refine e_i (fun q16 => ?_) (fun q16 => ?_)
        · refine e_some ?_
          refine e_f (by decide) ?_
          exact e_some ⟨hW7, hF7, ((rgl (0) 0 0 rfl).sub rfl)⟩
        · refine e_some ?_
          refine e_t (by decide) ?_
          refine e_cE (t_Bodies_wagonSuits hW7) (fun u19 T19 p19 => ?_)
          obtain ⟨hW19, hT19, hr19⟩ := p19
          have hF19 := hF7.tr hT19 rfl
          refine e_i (fun q20 => ?_) (fun q20 => ?_)
          · exact e_some ⟨hW19, hF19, ((rgl (0) 0 0 rfl).sub rfl)⟩
          · exact e_some ⟨hW19, hF19, ((rgl (1) 1 1 rfl).sub rfl)⟩
    · refine e_cE (t_Bodies_wagonSuits hW) (fun u23 T23 p23 => ?_)
      obtain ⟨hW23, hT23, hr23⟩ := p23
      have hF23 := hF.tr hT23 rfl
      refine e_grd (isB_g hr23 rfl) ?_
      exact e_some ⟨hW23, hF23, hr23⟩
  · refine e_i (fun q25 => ?_) (fun q25 => ?_)
    · refine e_some ?_
      refine e_f (by decide) ?_
      refine e_cV (t_Report_beginBody hW) (fun T27 p27 => ?_)
      obtain ⟨hW27, hT27⟩ := p27
      have hF27 := hF.tr hT27 rfl
      exact e_some ⟨hW27, hF27, ((rgl (1) 1 1 rfl).sub rfl)⟩
    · refine e_some ?_
      refine e_t (by decide) ?_
      refine e_cE (t_Bodies_kindOf hW) (fun u29 T29 p29 => ?_)
      obtain ⟨-, hT29, hr29⟩ := p29
      have eT29 := (fr_nil hT29).symm
      subst eT29
      refine e_i (fun q30 => ?_) (fun q30 => ?_)
      · refine e_cV (t_Report_beginBody hW) (fun T32 p32 => ?_)
        obtain ⟨hW32, hT32⟩ := p32
        have hF32 := hF.tr hT32 rfl
        refine e_bnd ?_
        refine e_eq (f_Stock_isAs.eq_1 _ _ _) ?_
        refine e_cE (t_Stock_get hW32 ((rgl (0) 0 0 rfl).sub rfl)) (fun u33 T33 p33 => ?_)
        obtain ⟨-, hT33, hr33⟩ := p33
        have eT33 := (fr_nil hT33).symm
        subst eT33
        refine e_i (fun q34 => ?_) (fun q34 => ?_)
        · refine e_some ?_
          refine e_t (by decide) ?_
          refine e_cE (t_Bodies_wagonSuits hW32) (fun u36 T36 p36 => ?_)
          obtain ⟨hW36, hT36, hr36⟩ := p36
          have hF36 := hF32.tr hT36 rfl
          refine e_i (fun q37 => ?_) (fun q37 => ?_)
          · exact e_some ⟨hW36, hF36, ((rgl (0) 0 0 rfl).sub rfl)⟩
          · exact e_some ⟨hW36, hF36, ((rgl (1) 1 1 rfl).sub rfl)⟩
        · refine e_i (fun q41 => ?_) (fun q41 => ?_)
          · refine e_some ?_
            refine e_f (by decide) ?_
            exact e_some ⟨hW32, hF32, ((rgl (0) 0 0 rfl).sub rfl)⟩
          · refine e_some ?_
            refine e_t (by decide) ?_
            refine e_cE (t_Bodies_wagonSuits hW32) (fun u44 T44 p44 => ?_)
            obtain ⟨hW44, hT44, hr44⟩ := p44
            have hF44 := hF32.tr hT44 rfl
            refine e_i (fun q45 => ?_) (fun q45 => ?_)
            · exact e_some ⟨hW44, hF44, ((rgl (0) 0 0 rfl).sub rfl)⟩
            · exact e_some ⟨hW44, hF44, ((rgl (1) 1 1 rfl).sub rfl)⟩
      · refine e_cE (t_Bodies_wagonSuits hW) (fun u48 T48 p48 => ?_)
        obtain ⟨hW48, hT48, hr48⟩ := p48
        have hF48 := hF.tr hT48 rfl
        refine e_grd (isB_g hr48 rfl) ?_
        exact e_some ⟨hW48, hF48, hr48⟩
set_option maxRecDepth 20000 in
set_option maxHeartbeats 4000000 in
theorem t_Trains_setLine_L2 {S0 : SS} : ∀ (n : Nat) (x1 : Int32) (x2 : Int32) (x3 : Int32) (S : SS), WR S → Fr [79] [] S0 S → rg x1 0 10 → rg x3 0 72 → 72 - x3.toInt < (n : Int) → Ew (f_Trains_setLine_L2 n x1 x2 x3 S) (fun U => WR U ∧ Fr [79] [] S0 U) := by
  intro n
  induction n with
  | zero =>
    intro x1 x2 x3 S hW hF h0 h2 hm
    exact up_0 h2 hm rfl
  | succ n ih =>
    intro x1 x2 x3 S hW hF h0 h2 hm
    refine v_eq (f_Trains_setLine_L2.eq_2 _ _ _ _ _) ?_
    refine v_i (fun q1 => ?_) (fun q1 => ?_)
    · exact v_some ⟨hW, hF⟩
    · have f3 := nle_r 71 (ro_68_4 hW) h2 q1 rfl
      refine v_cE (t_Trains_inLine hW) (fun u4 T4 p4 => ?_)
      obtain ⟨-, hT4, hr4⟩ := p4
      have eT4 := (fr_nil hT4).symm
      subst eT4
      refine v_bndv ?_
      refine v_eq (f_State_set.eq_1 _ _ _ _) ?_
      refine v_i (fun q5 => ?_) (fun q5 => ?_)
      · refine v_some ?_
        refine v_nmG (fun w7 hw7 => ?_)
        have f8 := rg_tr (rg_add 1 72 f3 (rgl (1) 1 1 rfl) rfl) hw7
        exact ih _ _ _ _ hW hF h0 (f8.sub rfl) (up_s f3 hw7 hm rfl)
      · have f9 := nlt_l (rgt _) (rgl 0 0 0 rfl) q5
        refine v_i (fun q10 => ?_) (fun q10 => ?_)
        · refine v_some ?_
          refine v_nmG (fun w11 hw11 => ?_)
          have f12 := rg_tr (rg_add 1 72 f3 (rgl (1) 1 1 rfl) rfl) hw11
          exact ih _ _ _ _ hW hF h0 (f12.sub rfl) (up_s f3 hw11 hm rfl)
        · have f14 := nle_r 71 (ro_63_1 hW) f9 q10 rfl
          refine v_grd (inb_g (rg_add 154 945 (rg_add 154 935 (rgl (154) 154 154 rfl) (rg_mul 0 781 (rgl (11) 11 11 rfl) f14 rfl) rfl) h0 rfl) rfl) ?_
          refine v_wrA (fun T15 eT15 hT15 v15 => ?_)
          have hW15 := WR.st (k := 79) hW (okS_g (rg_add 154 945 (rg_add 154 935 (rgl (154) 154 154 rfl) (rg_mul 0 781 (rgl (11) 11 11 rfl) f14 rfl) rfl) h0 rfl) rfl) rfl eT15
          have hF15 := hF.tr hT15 rfl
          refine v_some ?_
          refine v_nmG (fun w18 hw18 => ?_)
          have f19 := rg_tr (rg_add 1 72 f3 (rgl (1) 1 1 rfl) rfl) hw18
          exact ih _ _ _ _ hW15 hF15 h0 (f19.sub rfl) (up_s f3 hw18 hm rfl)
set_option maxRecDepth 20000 in
set_option maxHeartbeats 4000000 in
theorem t_Trains_setLine {a1 : Int32} {a2 : Int32} {S : SS} (hW : WR S) (h0 : rg a1 0 10) : Ew (f_Trains_setLine a1 a2 S) (fun U => WR U ∧ Fr [79] [] S U) := by
  have hF : Fr [79] [] S S := Fr.rf
  refine v_eq (f_Trains_setLine.eq_1 _ _ _) ?_
  exact t_Trains_setLine_L2  NF _ _ _ _ hW hF h0 ((rgl (0) 0 0 rfl).sub rfl) (up_n (rgl (0) 0 0 rfl) rfl)
set_option maxRecDepth 20000 in
set_option maxHeartbeats 4000000 in
theorem t_Trains_renew {a1 : Int32} {S : SS} (hW : WR S) : Ew (f_Trains_renew a1 S) (fun U => WR U ∧ Fr [79, 104] [(68, 4), (68, 5)] S U) := by
  have hF : Fr [79, 104] [(68, 4), (68, 5)] S S := Fr.rf
  refine v_eq (f_Trains_renew.eq_1 _ _) ?_
  refine v_cV (t_Trains_lineUp hW) (fun T1 p1 => ?_)
  obtain ⟨hW1, hT1⟩ := p1
  have hF1 := hF.tr hT1 rfl
  refine v_cE (t_Trains_nextSerial hW1) (fun u2 T2 p2 => ?_)
  obtain ⟨hW2, hT2, hr2⟩ := p2
  have hF2 := hF1.tr hT2 rfl
  refine v_cV (t_Trains_setLine hW2 ((rgl (4) 4 4 rfl).sub rfl)) (fun T3 p3 => ?_)
  obtain ⟨hW3, hT3⟩ := p3
  have hF3 := hF2.tr hT3 rfl
  refine v_cV (t_Trains_setLine hW3 ((rgl (10) 10 10 rfl).sub rfl)) (fun T4 p4 => ?_)
  obtain ⟨hW4, hT4⟩ := p4
  have hF4 := hF3.tr hT4 rfl
  exact v_some ⟨hW4, hF4⟩
set_option maxRecDepth 20000 in
set_option maxHeartbeats 4000000 in
theorem t_Trains_joinHooks {a1 : Int32} {a2 : Int32} {S : SS} (hW : WR S) : Ew (f_Trains_joinHooks a1 a2 S) (fun U => WR U ∧ Fr [79, 104] [(68, 4), (68, 5)] S U) := by
  have hF : Fr [79, 104] [(68, 4), (68, 5)] S S := Fr.rf
  refine v_eq (f_Trains_joinHooks.eq_1 _ _ _) ?_
  refine v_bndv ?_
  refine v_eq (f_State_set.eq_1 _ _ _ _) ?_
  refine v_i (fun q1 => ?_) (fun q1 => ?_)
  · refine v_some ?_
    refine v_bndv ?_
    refine v_eq (f_State_set.eq_1 _ _ _ _) ?_
    refine v_i (fun q3 => ?_) (fun q3 => ?_)
    · refine v_some ?_
      refine v_cV (t_Trains_renew hW) (fun T5 p5 => ?_)
      obtain ⟨hW5, hT5⟩ := p5
      have hF5 := hF.tr hT5 rfl
      exact v_some ⟨hW5, hF5⟩
    · have f6 := nlt_l (rgt _) (rgl 0 0 0 rfl) q3
      refine v_i (fun q7 => ?_) (fun q7 => ?_)
      · refine v_some ?_
        refine v_cV (t_Trains_renew hW) (fun T8 p8 => ?_)
        obtain ⟨hW8, hT8⟩ := p8
        have hF8 := hF.tr hT8 rfl
        exact v_some ⟨hW8, hF8⟩
      · have f10 := nle_r 71 (ro_63_1 hW) f6 q7 rfl
        refine v_grd (inb_g (rg_add 156 938 (rg_add 154 935 (rgl (154) 154 154 rfl) (rg_mul 0 781 (rgl (11) 11 11 rfl) f10 rfl) rfl) (rg_add 2 3 (rgl (2) 2 2 rfl) (and1 _) rfl) rfl) rfl) ?_
        refine v_wrA (fun T11 eT11 hT11 v11 => ?_)
        have hW11 := WR.st (k := 79) hW (okS_g (rg_add 156 938 (rg_add 154 935 (rgl (154) 154 154 rfl) (rg_mul 0 781 (rgl (11) 11 11 rfl) f10 rfl) rfl) (rg_add 2 3 (rgl (2) 2 2 rfl) (and1 _) rfl) rfl) rfl) rfl eT11
        have hF11 := hF.tr hT11 rfl
        refine v_some ?_
        refine v_cV (t_Trains_renew hW11) (fun T14 p14 => ?_)
        obtain ⟨hW14, hT14⟩ := p14
        have hF14 := hF11.tr hT14 rfl
        exact v_some ⟨hW14, hF14⟩
  · have f16 := nlt_l (rgt _) (rgl 0 0 0 rfl) q1
    refine v_i (fun q17 => ?_) (fun q17 => ?_)
    · refine v_some ?_
      refine v_bndv ?_
      refine v_eq (f_State_set.eq_1 _ _ _ _) ?_
      refine v_i (fun q18 => ?_) (fun q18 => ?_)
      · refine v_some ?_
        refine v_cV (t_Trains_renew hW) (fun T20 p20 => ?_)
        obtain ⟨hW20, hT20⟩ := p20
        have hF20 := hF.tr hT20 rfl
        exact v_some ⟨hW20, hF20⟩
      · have f21 := nlt_l (rgt _) (rgl 0 0 0 rfl) q18
        refine v_i (fun q22 => ?_) (fun q22 => ?_)
        · refine v_some ?_
          refine v_cV (t_Trains_renew hW) (fun T23 p23 => ?_)
          obtain ⟨hW23, hT23⟩ := p23
          have hF23 := hF.tr hT23 rfl
          exact v_some ⟨hW23, hF23⟩
        · have f25 := nle_r 71 (ro_63_1 hW) f21 q22 rfl
          refine v_grd (inb_g (rg_add 156 938 (rg_add 154 935 (rgl (154) 154 154 rfl) (rg_mul 0 781 (rgl (11) 11 11 rfl) f25 rfl) rfl) (rg_add 2 3 (rgl (2) 2 2 rfl) (and1 _) rfl) rfl) rfl) ?_
          refine v_wrA (fun T26 eT26 hT26 v26 => ?_)
          have hW26 := WR.st (k := 79) hW (okS_g (rg_add 156 938 (rg_add 154 935 (rgl (154) 154 154 rfl) (rg_mul 0 781 (rgl (11) 11 11 rfl) f25 rfl) rfl) (rg_add 2 3 (rgl (2) 2 2 rfl) (and1 _) rfl) rfl) rfl) rfl eT26
          have hF26 := hF.tr hT26 rfl
          refine v_some ?_
          refine v_cV (t_Trains_renew hW26) (fun T29 p29 => ?_)
          obtain ⟨hW29, hT29⟩ := p29
          have hF29 := hF26.tr hT29 rfl
          exact v_some ⟨hW29, hF29⟩
    · have f31 := nle_l 1 (ro_63_1 hW) f16 q17 rfl
      have f32 := nle_r 71 (ro_63_1 hW) f16 q17 rfl
      refine v_grd (inb_g (rg_add 156 938 (rg_add 154 935 (rgl (154) 154 154 rfl) (rg_mul 0 781 (rgl (11) 11 11 rfl) f32 rfl) rfl) (rg_add 2 3 (rgl (2) 2 2 rfl) (and1 _) rfl) rfl) rfl) ?_
      refine v_wrA (fun T33 eT33 hT33 v33 => ?_)
      have hW33 := WR.st (k := 79) hW (okS_g (rg_add 156 938 (rg_add 154 935 (rgl (154) 154 154 rfl) (rg_mul 0 781 (rgl (11) 11 11 rfl) f32 rfl) rfl) (rg_add 2 3 (rgl (2) 2 2 rfl) (and1 _) rfl) rfl) rfl) rfl eT33
      have hF33 := hF.tr hT33 rfl
      have f34 := rg_tr f31 (hT33.1 63 _ rfl)
      refine v_some ?_
      refine v_bndv ?_
      refine v_eq (f_State_set.eq_1 _ _ _ _) ?_
      refine v_i (fun q35 => ?_) (fun q35 => ?_)
      · refine v_some ?_
        refine v_cV (t_Trains_renew hW33) (fun T37 p37 => ?_)
        obtain ⟨hW37, hT37⟩ := p37
        have hF37 := hF33.tr hT37 rfl
        exact v_some ⟨hW37, hF37⟩
      · have f39 := nlt_l (rgt _) (rgl 0 0 0 rfl) q35
        refine v_i (fun q40 => ?_) (fun q40 => ?_)
        · refine v_some ?_
          refine v_cV (t_Trains_renew hW33) (fun T42 p42 => ?_)
          obtain ⟨hW42, hT42⟩ := p42
          have hF42 := hF33.tr hT42 rfl
          exact v_some ⟨hW42, hF42⟩
        · have f44 := nle_r 71 f34 f39 q40 rfl
          refine v_grd (inb_g (rg_add 156 938 (rg_add 154 935 (rgl (154) 154 154 rfl) (rg_mul 0 781 (rgl (11) 11 11 rfl) f44 rfl) rfl) (rg_add 2 3 (rgl (2) 2 2 rfl) (and1 _) rfl) rfl) rfl) ?_
          refine v_wrA (fun T45 eT45 hT45 v45 => ?_)
          have hW45 := WR.st (k := 79) hW33 (okS_g (rg_add 156 938 (rg_add 154 935 (rgl (154) 154 154 rfl) (rg_mul 0 781 (rgl (11) 11 11 rfl) f44 rfl) rfl) (rg_add 2 3 (rgl (2) 2 2 rfl) (and1 _) rfl) rfl) rfl) rfl eT45
          have hF45 := hF33.tr hT45 rfl
          refine v_some ?_
          refine v_cV (t_Trains_renew hW45) (fun T48 p48 => ?_)
          obtain ⟨hW48, hT48⟩ := p48
          have hF48 := hF45.tr hT48 rfl
          exact v_some ⟨hW48, hF48⟩
set_option maxRecDepth 20000 in
set_option maxHeartbeats 4000000 in
theorem t_Yard_coupleAhead {a1 : Int32} {a2 : Int32} {S : SS} (hW : WR S) : Ex2 (f_Yard_coupleAhead a1 a2 S) (fun r U => WR U ∧ Fr [77, 78, 79, 104] [(62, 2), (62, 3), (68, 4), (68, 5)] S U ∧ True) := by
  have hF : Fr [77, 78, 79, 104] [(62, 2), (62, 3), (68, 4), (68, 5)] S S := Fr.rf
  refine e_eq (f_Yard_coupleAhead.eq_1 _ _ _) ?_
  refine e_bnd ?_
  refine e_eq (f_Yard_namedSide.eq_1 _ _ _ _) ?_
  refine e_bnd ?_
  refine e_eq (f_Yard_named.eq_1 _ _ _) ?_
  refine e_bnd ?_
  refine e_eq (f_Yard_isNot.eq_1 _ _ _ _) ?_
  refine e_i (fun q1 => ?_) (fun q1 => ?_)
  · refine e_some ?_
    refine e_f (by decide) ?_
    refine e_some ?_
    refine e_f (by decide) ?_
    refine e_some ?_
    refine e_f (by decide) ?_
    refine e_cE (t_Report_found hW) (fun u3 T3 p3 => ?_)
    obtain ⟨hW3, hT3, hr3⟩ := p3
    have hF3 := hF.tr hT3 rfl
    exact e_some ⟨hW3, hF3, trivial⟩
  · refine e_i (fun q5 => ?_) (fun q5 => ?_)
    · refine e_some ?_
      refine e_t (by decide) ?_
      refine e_i (fun q7 => ?_) (fun q7 => ?_)
      · refine e_bnd ?_
        refine e_eq (f_Stock_isAs.eq_1 _ _ _) ?_
        refine e_cE (t_Stock_get hW ((rgl (0) 0 0 rfl).sub rfl)) (fun u9 T9 p9 => ?_)
        obtain ⟨-, hT9, hr9⟩ := p9
        have eT9 := (fr_nil hT9).symm
        subst eT9
        refine e_i (fun q10 => ?_) (fun q10 => ?_)
        · refine e_some ?_
          refine e_t (by decide) ?_
          refine e_some ?_
          refine e_f (by decide) ?_
          refine e_some ?_
          refine e_f (by decide) ?_
          refine e_cE (t_Report_found hW) (fun u12 T12 p12 => ?_)
          obtain ⟨hW12, hT12, hr12⟩ := p12
          have hF12 := hF.tr hT12 rfl
          exact e_some ⟨hW12, hF12, trivial⟩
        · refine e_i (fun q15 => ?_) (fun q15 => ?_)
          · refine e_some ?_
            refine e_f (by decide) ?_
            refine e_bnd ?_
            refine e_eq (f_State_isThere.eq_1 _ _) ?_
            refine e_cE (t_State_get hW ((rgl (0) 0 0 rfl).sub rfl)) (fun u17 T17 p17 => ?_)
            obtain ⟨-, hT17, hr17⟩ := p17
            have eT17 := (fr_nil hT17).symm
            subst eT17
            refine e_i (fun q18 => ?_) (fun q18 => ?_)
            · refine e_some ?_
              refine e_t (by decide) ?_
              refine e_some ?_
              refine e_f (by decide) ?_
              refine e_some ?_
              refine e_f (by decide) ?_
              refine e_cE (t_Report_found hW) (fun u20 T20 p20 => ?_)
              obtain ⟨hW20, hT20, hr20⟩ := p20
              have hF20 := hF.tr hT20 rfl
              exact e_some ⟨hW20, hF20, trivial⟩
            · refine e_some ?_
              refine e_f (by decide) ?_
              refine e_some ?_
              refine e_t (by decide) ?_
              refine e_bnd ?_
              refine e_eq (f_Yard_isNot.eq_1 _ _ _ _) ?_
              refine e_i (fun q23 => ?_) (fun q23 => ?_)
              · refine e_some ?_
                refine e_f (by decide) ?_
                refine e_some ?_
                refine e_f (by decide) ?_
                refine e_cE (t_Report_found hW) (fun u25 T25 p25 => ?_)
                obtain ⟨hW25, hT25, hr25⟩ := p25
                have hF25 := hF.tr hT25 rfl
                exact e_some ⟨hW25, hF25, trivial⟩
              · refine e_i (fun q28 => ?_) (fun q28 => ?_)
                · refine e_some ?_
                  refine e_t (by decide) ?_
                  refine e_some ?_
                  refine e_t (by decide) ?_
                  refine e_nmG (fun w30 hw30 => ?_)
                  refine e_cE (t_Trains_nextFrom hW) (fun u32 T32 p32 => ?_)
                  obtain ⟨-, hT32, hr32⟩ := p32
                  have eT32 := (fr_nil hT32).symm
                  subst eT32
                  refine e_cE (t_Trains_reachFinding hW) (fun u33 T33 p33 => ?_)
                  obtain ⟨hW33, hT33, hr33⟩ := p33
                  have hF33 := hF.tr hT33 rfl
                  refine e_i (fun q35 => ?_) (fun q35 => ?_)
                  · refine e_cE (t_Trains_hookAt hW33) (fun u37 T37 p37 => ?_)
                    obtain ⟨-, hT37, hr37⟩ := p37
                    have eT37 := (fr_nil hT37).symm
                    subst eT37
                    refine e_nmG (fun w38 hw38 => ?_)
                    refine e_cE (t_Bodies_suits hW33) (fun u39 T39 p39 => ?_)
                    obtain ⟨hW39, hT39, hr39⟩ := p39
                    have hF39 := hF33.tr hT39 rfl
                    refine e_i (fun q41 => ?_) (fun q41 => ?_)
                    · refine e_eq (f_Yard_coupleAhead_j108.eq_1 _) ?_
                      refine e_cE (t_Report_found hW39) (fun u43 T43 p43 => ?_)
                      obtain ⟨hW43, hT43, hr43⟩ := p43
                      have hF43 := hF39.tr hT43 rfl
                      exact e_some ⟨hW43, hF43, trivial⟩
                    · refine e_cE (t_Bodies_suits hW39) (fun u46 T46 p46 => ?_)
                      obtain ⟨hW46, hT46, hr46⟩ := p46
                      have hF46 := hF39.tr hT46 rfl
                      refine e_i (fun q48 => ?_) (fun q48 => ?_)
                      · refine e_eq (f_Yard_coupleAhead_j108.eq_1 _) ?_
                        refine e_cE (t_Report_found hW46) (fun u50 T50 p50 => ?_)
                        obtain ⟨hW50, hT50, hr50⟩ := p50
                        have hF50 := hF46.tr hT50 rfl
                        exact e_some ⟨hW50, hF50, trivial⟩
                      · refine e_cV (t_Trains_joinHooks hW46) (fun T53 p53 => ?_)
                        obtain ⟨hW53, hT53⟩ := p53
                        have hF53 := hF46.tr hT53 rfl
                        exact e_some ⟨hW53, hF53, trivial⟩
                  · refine e_cE (t_Report_found hW33) (fun u56 T56 p56 => ?_)
                    obtain ⟨hW56, hT56, hr56⟩ := p56
                    have hF56 := hF33.tr hT56 rfl
                    exact e_some ⟨hW56, hF56, trivial⟩
                · refine e_some ?_
                  refine e_f (by decide) ?_
                  refine e_some ?_
                  refine e_f (by decide) ?_
                  refine e_cE (t_Report_found hW) (fun u59 T59 p59 => ?_)
                  obtain ⟨hW59, hT59, hr59⟩ := p59
                  have hF59 := hF.tr hT59 rfl
                  exact e_some ⟨hW59, hF59, trivial⟩
          · refine e_some ?_
            refine e_t (by decide) ?_
            refine e_some ?_
            refine e_f (by decide) ?_
            refine e_some ?_
            refine e_f (by decide) ?_
            refine e_cE (t_Report_found hW) (fun u62 T62 p62 => ?_)
            obtain ⟨hW62, hT62, hr62⟩ := p62
            have hF62 := hF.tr hT62 rfl
            exact e_some ⟨hW62, hF62, trivial⟩
      · refine e_some ?_
        refine e_f (by decide) ?_
        refine e_some ?_
        refine e_f (by decide) ?_
        refine e_cE (t_Report_found hW) (fun u65 T65 p65 => ?_)
        obtain ⟨hW65, hT65, hr65⟩ := p65
        have hF65 := hF.tr hT65 rfl
        exact e_some ⟨hW65, hF65, trivial⟩
    · refine e_some ?_
      refine e_f (by decide) ?_
      refine e_some ?_
      refine e_f (by decide) ?_
      refine e_some ?_
      refine e_f (by decide) ?_
      refine e_cE (t_Report_found hW) (fun u68 T68 p68 => ?_)
      obtain ⟨hW68, hT68, hr68⟩ := p68
      have hF68 := hF.tr hT68 rfl
      exact e_some ⟨hW68, hF68, trivial⟩
set_option maxRecDepth 20000 in
set_option maxHeartbeats 4000000 in
theorem t_Yard_couple {a1 : Int32} {a2 : Int32} {S : SS} (hW : WR S) : Ex2 (f_Yard_couple a1 a2 S) (fun r U => WR U ∧ Fr [77, 78, 79, 81, 82, 83, 84, 85, 86, 87, 88, 89, 90, 104] [(62, 2), (62, 3), (62, 4), (62, 5), (62, 6), (64, 3), (64, 4), (64, 5), (64, 6), (64, 7), (68, 4), (68, 5)] S U ∧ True) := by
  have hF : Fr [77, 78, 79, 81, 82, 83, 84, 85, 86, 87, 88, 89, 90, 104] [(62, 2), (62, 3), (62, 4), (62, 5), (62, 6), (64, 3), (64, 4), (64, 5), (64, 6), (64, 7), (68, 4), (68, 5)] S S := Fr.rf
  refine e_eq (f_Yard_couple.eq_1 _ _ _) ?_
  refine e_cV (t_Yard_beginAct hW) (fun T1 p1 => ?_)
  obtain ⟨hW1, hT1⟩ := p1
  have hF1 := hF.tr hT1 rfl
  refine e_cE (t_Yard_coupleAhead hW1) (fun u2 T2 p2 => ?_)
  obtain ⟨hW2, hT2, hr2⟩ := p2
  have hF2 := hF1.tr hT2 rfl
  refine e_cE (t_Yard_endAct hW2) (fun u3 T3 p3 => ?_)
  obtain ⟨hW3, hT3, hr3⟩ := p3
  have hF3 := hF2.tr hT3 rfl
  exact e_some ⟨hW3, hF3, trivial⟩
set_option maxRecDepth 20000 in
set_option maxHeartbeats 4000000 in
theorem t_Trains_cutHook {a1 : Int32} {S : SS} (hW : WR S) : Ew (f_Trains_cutHook a1 S) (fun U => WR U ∧ Fr [79, 104] [(68, 4), (68, 5)] S U) := by
  have hF : Fr [79, 104] [(68, 4), (68, 5)] S S := Fr.rf
  refine v_eq (f_Trains_cutHook.eq_1 _ _) ?_
  refine v_cE (t_Trains_onward hW) (fun u1 T1 p1 => ?_)
  obtain ⟨-, hT1, hr1⟩ := p1
  have eT1 := (fr_nil hT1).symm
  subst eT1
  refine v_nmG (fun w2 hw2 => ?_)
  refine v_bndv ?_
  refine v_eq (f_State_set.eq_1 _ _ _ _) ?_
  refine v_i (fun q3 => ?_) (fun q3 => ?_)
  · refine v_some ?_
    refine v_bndv ?_
    refine v_eq (f_State_set.eq_1 _ _ _ _) ?_
    refine v_i (fun q5 => ?_) (fun q5 => ?_)
    · refine v_some ?_
      refine v_cV (t_Trains_renew hW) (fun T7 p7 => ?_)
      obtain ⟨hW7, hT7⟩ := p7
      have hF7 := hF.tr hT7 rfl
      refine v_cV (t_Trains_renew hW7) (fun T8 p8 => ?_)
      obtain ⟨hW8, hT8⟩ := p8
      have hF8 := hF7.tr hT8 rfl
      exact v_some ⟨hW8, hF8⟩
    · have f9 := nlt_l (rgt _) (rgl 0 0 0 rfl) q5
      refine v_i (fun q10 => ?_) (fun q10 => ?_)
      · refine v_some ?_
        refine v_cV (t_Trains_renew hW) (fun T11 p11 => ?_)
        obtain ⟨hW11, hT11⟩ := p11
        have hF11 := hF.tr hT11 rfl
        refine v_cV (t_Trains_renew hW11) (fun T12 p12 => ?_)
        obtain ⟨hW12, hT12⟩ := p12
        have hF12 := hF11.tr hT12 rfl
        exact v_some ⟨hW12, hF12⟩
      · have f14 := nle_r 71 (ro_63_1 hW) f9 q10 rfl
        refine v_grd (inb_g (rg_add 156 938 (rg_add 154 935 (rgl (154) 154 154 rfl) (rg_mul 0 781 (rgl (11) 11 11 rfl) f14 rfl) rfl) (rg_add 2 3 (rgl (2) 2 2 rfl) (and1 _) rfl) rfl) rfl) ?_
        refine v_wrA (fun T15 eT15 hT15 v15 => ?_)
        have hW15 := WR.st (k := 79) hW (okS_g (rg_add 156 938 (rg_add 154 935 (rgl (154) 154 154 rfl) (rg_mul 0 781 (rgl (11) 11 11 rfl) f14 rfl) rfl) (rg_add 2 3 (rgl (2) 2 2 rfl) (and1 _) rfl) rfl) rfl) rfl eT15
        have hF15 := hF.tr hT15 rfl
        refine v_some ?_
        refine v_cV (t_Trains_renew hW15) (fun T18 p18 => ?_)
        obtain ⟨hW18, hT18⟩ := p18
        have hF18 := hF15.tr hT18 rfl
        refine v_cV (t_Trains_renew hW18) (fun T20 p20 => ?_)
        obtain ⟨hW20, hT20⟩ := p20
        have hF20 := hF18.tr hT20 rfl
        exact v_some ⟨hW20, hF20⟩
  · have f22 := nlt_l (rgt _) (rgl 0 0 0 rfl) q3
    refine v_i (fun q23 => ?_) (fun q23 => ?_)
    · refine v_some ?_
      refine v_bndv ?_
      refine v_eq (f_State_set.eq_1 _ _ _ _) ?_
      refine v_i (fun q24 => ?_) (fun q24 => ?_)
      · refine v_some ?_
        refine v_cV (t_Trains_renew hW) (fun T26 p26 => ?_)
        obtain ⟨hW26, hT26⟩ := p26
        have hF26 := hF.tr hT26 rfl
        refine v_cV (t_Trains_renew hW26) (fun T27 p27 => ?_)
        obtain ⟨hW27, hT27⟩ := p27
        have hF27 := hF26.tr hT27 rfl
        exact v_some ⟨hW27, hF27⟩
      · have f28 := nlt_l (rgt _) (rgl 0 0 0 rfl) q24
        refine v_i (fun q29 => ?_) (fun q29 => ?_)
        · refine v_some ?_
          refine v_cV (t_Trains_renew hW) (fun T30 p30 => ?_)
          obtain ⟨hW30, hT30⟩ := p30
          have hF30 := hF.tr hT30 rfl
          refine v_cV (t_Trains_renew hW30) (fun T31 p31 => ?_)
          obtain ⟨hW31, hT31⟩ := p31
          have hF31 := hF30.tr hT31 rfl
          exact v_some ⟨hW31, hF31⟩
        · have f33 := nle_r 71 (ro_63_1 hW) f28 q29 rfl
          refine v_grd (inb_g (rg_add 156 938 (rg_add 154 935 (rgl (154) 154 154 rfl) (rg_mul 0 781 (rgl (11) 11 11 rfl) f33 rfl) rfl) (rg_add 2 3 (rgl (2) 2 2 rfl) (and1 _) rfl) rfl) rfl) ?_
          refine v_wrA (fun T34 eT34 hT34 v34 => ?_)
          have hW34 := WR.st (k := 79) hW (okS_g (rg_add 156 938 (rg_add 154 935 (rgl (154) 154 154 rfl) (rg_mul 0 781 (rgl (11) 11 11 rfl) f33 rfl) rfl) (rg_add 2 3 (rgl (2) 2 2 rfl) (and1 _) rfl) rfl) rfl) rfl eT34
          have hF34 := hF.tr hT34 rfl
          refine v_some ?_
          refine v_cV (t_Trains_renew hW34) (fun T37 p37 => ?_)
          obtain ⟨hW37, hT37⟩ := p37
          have hF37 := hF34.tr hT37 rfl
          refine v_cV (t_Trains_renew hW37) (fun T39 p39 => ?_)
          obtain ⟨hW39, hT39⟩ := p39
          have hF39 := hF37.tr hT39 rfl
          exact v_some ⟨hW39, hF39⟩
    · have f41 := nle_l 1 (ro_63_1 hW) f22 q23 rfl
      have f42 := nle_r 71 (ro_63_1 hW) f22 q23 rfl
      refine v_grd (inb_g (rg_add 156 938 (rg_add 154 935 (rgl (154) 154 154 rfl) (rg_mul 0 781 (rgl (11) 11 11 rfl) f42 rfl) rfl) (rg_add 2 3 (rgl (2) 2 2 rfl) (and1 _) rfl) rfl) rfl) ?_
      refine v_wrA (fun T43 eT43 hT43 v43 => ?_)
      have hW43 := WR.st (k := 79) hW (okS_g (rg_add 156 938 (rg_add 154 935 (rgl (154) 154 154 rfl) (rg_mul 0 781 (rgl (11) 11 11 rfl) f42 rfl) rfl) (rg_add 2 3 (rgl (2) 2 2 rfl) (and1 _) rfl) rfl) rfl) rfl eT43
      have hF43 := hF.tr hT43 rfl
      have f44 := rg_tr f41 (hT43.1 63 _ rfl)
      refine v_some ?_
      refine v_bndv ?_
      refine v_eq (f_State_set.eq_1 _ _ _ _) ?_
      refine v_i (fun q46 => ?_) (fun q46 => ?_)
      · refine v_some ?_
        refine v_cV (t_Trains_renew hW43) (fun T48 p48 => ?_)
        obtain ⟨hW48, hT48⟩ := p48
        have hF48 := hF43.tr hT48 rfl
        refine v_cV (t_Trains_renew hW48) (fun T50 p50 => ?_)
        obtain ⟨hW50, hT50⟩ := p50
        have hF50 := hF48.tr hT50 rfl
        exact v_some ⟨hW50, hF50⟩
      · have f52 := nlt_l (rgt _) (rgl 0 0 0 rfl) q46
        refine v_i (fun q53 => ?_) (fun q53 => ?_)
        · refine v_some ?_
          refine v_cV (t_Trains_renew hW43) (fun T55 p55 => ?_)
          obtain ⟨hW55, hT55⟩ := p55
          have hF55 := hF43.tr hT55 rfl
          refine v_cV (t_Trains_renew hW55) (fun T57 p57 => ?_)
          obtain ⟨hW57, hT57⟩ := p57
          have hF57 := hF55.tr hT57 rfl
          exact v_some ⟨hW57, hF57⟩
        · have f59 := nle_r 71 f44 f52 q53 rfl
          refine v_grd (inb_g (rg_add 156 938 (rg_add 154 935 (rgl (154) 154 154 rfl) (rg_mul 0 781 (rgl (11) 11 11 rfl) f59 rfl) rfl) (rg_add 2 3 (rgl (2) 2 2 rfl) (and1 _) rfl) rfl) rfl) ?_
          refine v_wrA (fun T60 eT60 hT60 v60 => ?_)
          have hW60 := WR.st (k := 79) hW43 (okS_g (rg_add 156 938 (rg_add 154 935 (rgl (154) 154 154 rfl) (rg_mul 0 781 (rgl (11) 11 11 rfl) f59 rfl) rfl) (rg_add 2 3 (rgl (2) 2 2 rfl) (and1 _) rfl) rfl) rfl) rfl eT60
          have hF60 := hF43.tr hT60 rfl
          refine v_some ?_
          refine v_cV (t_Trains_renew hW60) (fun T63 p63 => ?_)
          obtain ⟨hW63, hT63⟩ := p63
          have hF63 := hF60.tr hT63 rfl
          refine v_cV (t_Trains_renew hW63) (fun T65 p65 => ?_)
          obtain ⟨hW65, hT65⟩ := p65
          have hF65 := hF63.tr hT65 rfl
          exact v_some ⟨hW65, hF65⟩
set_option maxRecDepth 20000 in
set_option maxHeartbeats 4000000 in
theorem t_Yard_partFrom {a1 : Int32} {a2 : Int32} {S : SS} (hW : WR S) : Ex2 (f_Yard_partFrom a1 a2 S) (fun r U => WR U ∧ Fr [77, 79, 104] [(62, 3), (68, 4), (68, 5)] S U ∧ True) := by
  have hF : Fr [77, 79, 104] [(62, 3), (68, 4), (68, 5)] S S := Fr.rf
  refine e_eq (f_Yard_partFrom.eq_1 _ _ _) ?_
  refine e_bnd ?_
  refine e_eq (f_Yard_namedSide.eq_1 _ _ _ _) ?_
  refine e_bnd ?_
  refine e_eq (f_Yard_named.eq_1 _ _ _) ?_
  refine e_bnd ?_
  refine e_eq (f_Yard_isNot.eq_1 _ _ _ _) ?_
  refine e_i (fun q1 => ?_) (fun q1 => ?_)
  · refine e_some ?_
    refine e_f (by decide) ?_
    refine e_some ?_
    refine e_f (by decide) ?_
    refine e_some ?_
    refine e_f (by decide) ?_
    refine e_cE (t_Report_found hW) (fun u3 T3 p3 => ?_)
    obtain ⟨hW3, hT3, hr3⟩ := p3
    have hF3 := hF.tr hT3 rfl
    exact e_some ⟨hW3, hF3, trivial⟩
  · refine e_i (fun q5 => ?_) (fun q5 => ?_)
    · refine e_some ?_
      refine e_t (by decide) ?_
      refine e_i (fun q7 => ?_) (fun q7 => ?_)
      · refine e_bnd ?_
        refine e_eq (f_Stock_isAs.eq_1 _ _ _) ?_
        refine e_cE (t_Stock_get hW ((rgl (0) 0 0 rfl).sub rfl)) (fun u9 T9 p9 => ?_)
        obtain ⟨-, hT9, hr9⟩ := p9
        have eT9 := (fr_nil hT9).symm
        subst eT9
        refine e_i (fun q10 => ?_) (fun q10 => ?_)
        · refine e_some ?_
          refine e_t (by decide) ?_
          refine e_some ?_
          refine e_f (by decide) ?_
          refine e_some ?_
          refine e_f (by decide) ?_
          refine e_cE (t_Report_found hW) (fun u12 T12 p12 => ?_)
          obtain ⟨hW12, hT12, hr12⟩ := p12
          have hF12 := hF.tr hT12 rfl
          exact e_some ⟨hW12, hF12, trivial⟩
        · refine e_i (fun q15 => ?_) (fun q15 => ?_)
          · refine e_some ?_
            refine e_f (by decide) ?_
            refine e_bnd ?_
            refine e_eq (f_State_isThere.eq_1 _ _) ?_
            refine e_cE (t_State_get hW ((rgl (0) 0 0 rfl).sub rfl)) (fun u17 T17 p17 => ?_)
            obtain ⟨-, hT17, hr17⟩ := p17
            have eT17 := (fr_nil hT17).symm
            subst eT17
            refine e_i (fun q18 => ?_) (fun q18 => ?_)
            · refine e_some ?_
              refine e_t (by decide) ?_
              refine e_some ?_
              refine e_f (by decide) ?_
              refine e_some ?_
              refine e_f (by decide) ?_
              refine e_cE (t_Report_found hW) (fun u20 T20 p20 => ?_)
              obtain ⟨hW20, hT20, hr20⟩ := p20
              have hF20 := hF.tr hT20 rfl
              exact e_some ⟨hW20, hF20, trivial⟩
            · refine e_some ?_
              refine e_f (by decide) ?_
              refine e_some ?_
              refine e_t (by decide) ?_
              refine e_bnd ?_
              refine e_eq (f_Yard_isNot.eq_1 _ _ _ _) ?_
              refine e_i (fun q23 => ?_) (fun q23 => ?_)
              · refine e_some ?_
                refine e_f (by decide) ?_
                refine e_some ?_
                refine e_f (by decide) ?_
                refine e_cE (t_Report_found hW) (fun u25 T25 p25 => ?_)
                obtain ⟨hW25, hT25, hr25⟩ := p25
                have hF25 := hF.tr hT25 rfl
                exact e_some ⟨hW25, hF25, trivial⟩
              · have f27 := nlt_l (rgt _) (rgl (0) 0 0 rfl) q23
                refine e_i (fun q28 => ?_) (fun q28 => ?_)
                · have f29 := le_l f27 (rgl (1) 1 1 rfl) q28
                  refine e_some ?_
                  refine e_t (by decide) ?_
                  refine e_some ?_
                  refine e_t (by decide) ?_
                  refine e_cE (t_State_get hW ((rg_add 2 3 (rgl (2) 2 2 rfl) f29 rfl).sub rfl)) (fun u30 T30 p30 => ?_)
                  obtain ⟨-, hT30, hr30⟩ := p30
                  have eT30 := (fr_nil hT30).symm
                  subst eT30
                  refine e_i (fun q31 => ?_) (fun q31 => ?_)
                  · refine e_cE (t_Report_found hW) (fun u33 T33 p33 => ?_)
                    obtain ⟨hW33, hT33, hr33⟩ := p33
                    have hF33 := hF.tr hT33 rfl
                    exact e_some ⟨hW33, hF33, trivial⟩
                  · refine e_cV (t_Trains_cutHook hW) (fun T35 p35 => ?_)
                    obtain ⟨hW35, hT35⟩ := p35
                    have hF35 := hF.tr hT35 rfl
                    exact e_some ⟨hW35, hF35, trivial⟩
                · refine e_some ?_
                  refine e_f (by decide) ?_
                  refine e_some ?_
                  refine e_f (by decide) ?_
                  refine e_cE (t_Report_found hW) (fun u38 T38 p38 => ?_)
                  obtain ⟨hW38, hT38, hr38⟩ := p38
                  have hF38 := hF.tr hT38 rfl
                  exact e_some ⟨hW38, hF38, trivial⟩
          · refine e_some ?_
            refine e_t (by decide) ?_
            refine e_some ?_
            refine e_f (by decide) ?_
            refine e_some ?_
            refine e_f (by decide) ?_
            refine e_cE (t_Report_found hW) (fun u41 T41 p41 => ?_)
            obtain ⟨hW41, hT41, hr41⟩ := p41
            have hF41 := hF.tr hT41 rfl
            exact e_some ⟨hW41, hF41, trivial⟩
      · refine e_some ?_
        refine e_f (by decide) ?_
        refine e_some ?_
        refine e_f (by decide) ?_
        refine e_cE (t_Report_found hW) (fun u44 T44 p44 => ?_)
        obtain ⟨hW44, hT44, hr44⟩ := p44
        have hF44 := hF.tr hT44 rfl
        exact e_some ⟨hW44, hF44, trivial⟩
    · refine e_some ?_
      refine e_f (by decide) ?_
      refine e_some ?_
      refine e_f (by decide) ?_
      refine e_some ?_
      refine e_f (by decide) ?_
      refine e_cE (t_Report_found hW) (fun u47 T47 p47 => ?_)
      obtain ⟨hW47, hT47, hr47⟩ := p47
      have hF47 := hF.tr hT47 rfl
      exact e_some ⟨hW47, hF47, trivial⟩
set_option maxRecDepth 20000 in
set_option maxHeartbeats 4000000 in
theorem t_Yard_part {a1 : Int32} {a2 : Int32} {S : SS} (hW : WR S) : Ex2 (f_Yard_part a1 a2 S) (fun r U => WR U ∧ Fr [77, 79, 81, 82, 83, 84, 85, 86, 87, 88, 89, 90, 104] [(62, 2), (62, 3), (62, 4), (62, 5), (62, 6), (64, 3), (64, 4), (64, 5), (64, 6), (64, 7), (68, 4), (68, 5)] S U ∧ True) := by
  have hF : Fr [77, 79, 81, 82, 83, 84, 85, 86, 87, 88, 89, 90, 104] [(62, 2), (62, 3), (62, 4), (62, 5), (62, 6), (64, 3), (64, 4), (64, 5), (64, 6), (64, 7), (68, 4), (68, 5)] S S := Fr.rf
  refine e_eq (f_Yard_part.eq_1 _ _ _) ?_
  refine e_cV (t_Yard_beginAct hW) (fun T1 p1 => ?_)
  obtain ⟨hW1, hT1⟩ := p1
  have hF1 := hF.tr hT1 rfl
  refine e_cE (t_Yard_partFrom hW1) (fun u2 T2 p2 => ?_)
  obtain ⟨hW2, hT2, hr2⟩ := p2
  have hF2 := hF1.tr hT2 rfl
  refine e_cE (t_Yard_endAct hW2) (fun u3 T3 p3 => ?_)
  obtain ⟨hW3, hT3, hr3⟩ := p3
  have hF3 := hF2.tr hT3 rfl
  exact e_some ⟨hW3, hF3, trivial⟩
set_option maxRecDepth 20000 in
set_option maxHeartbeats 4000000 in
theorem t_Bodies_flatWeight {a1 : Int32} {S : SS} (hW : WR S) : Ex2 (f_Bodies_flatWeight a1 S) (fun r U => WR U ∧ Fr [78] [(62, 2)] S U ∧ True) := by
  have hF : Fr [78] [(62, 2)] S S := Fr.rf
  refine e_eq (f_Bodies_flatWeight.eq_1 _ _) ?_
  refine e_cV (t_Report_beginBody hW) (fun T1 p1 => ?_)
  obtain ⟨hW1, hT1⟩ := p1
  have hF1 := hF.tr hT1 rfl
  refine e_cE (t_Stock_get hW1 ((rgl (2) 2 2 rfl).sub rfl)) (fun u2 T2 p2 => ?_)
  obtain ⟨-, hT2, hr2⟩ := p2
  have eT2 := (fr_nil hT2).symm
  subst eT2
  refine e_cE (t_Stock_get hW1 ((rgl (5) 5 5 rfl).sub rfl)) (fun u3 T3 p3 => ?_)
  obtain ⟨-, hT3, hr3⟩ := p3
  have eT3 := (fr_nil hT3).symm
  subst eT3
  exact e_some ⟨hW1, hF1, trivial⟩
set_option maxRecDepth 20000 in
set_option maxHeartbeats 4000000 in
theorem t_Bodies_tankWeight {a1 : Int32} {S : SS} (hW : WR S) : Ex2 (f_Bodies_tankWeight a1 S) (fun r U => WR U ∧ Fr [78] [(62, 2)] S U ∧ True) := by
  have hF : Fr [78] [(62, 2)] S S := Fr.rf
  refine e_eq (f_Bodies_tankWeight.eq_1 _ _) ?_
  refine e_cV (t_Report_beginBody hW) (fun T1 p1 => ?_)
  obtain ⟨hW1, hT1⟩ := p1
  have hF1 := hF.tr hT1 rfl
  refine e_cE (t_Bodies_flatWeight hW1) (fun u2 T2 p2 => ?_)
  obtain ⟨hW2, hT2, hr2⟩ := p2
  have hF2 := hF1.tr hT2 rfl
  refine e_cE (t_Stock_get hW2 ((rgl (4) 4 4 rfl).sub rfl)) (fun u3 T3 p3 => ?_)
  obtain ⟨-, hT3, hr3⟩ := p3
  have eT3 := (fr_nil hT3).symm
  subst eT3
  exact e_some ⟨hW2, hF2, trivial⟩
set_option maxRecDepth 20000 in
set_option maxHeartbeats 4000000 in
theorem t_Bodies_weight {a1 : Int32} {S : SS} (hW : WR S) : Ex2 (f_Bodies_weight a1 S) (fun r U => WR U ∧ Fr [78] [(62, 2)] S U ∧ True) := by
  have hF : Fr [78] [(62, 2)] S S := Fr.rf
  refine e_eq (f_Bodies_weight.eq_1 _ _) ?_
  refine e_cE (t_Bodies_kindOf hW) (fun u1 T1 p1 => ?_)
  obtain ⟨-, hT1, hr1⟩ := p1
  have eT1 := (fr_nil hT1).symm
  subst eT1
  refine e_i (fun q2 => ?_) (fun q2 => ?_)
  · refine e_cE (t_Bodies_tankWeight hW) (fun u4 T4 p4 => ?_)
    obtain ⟨hW4, hT4, hr4⟩ := p4
    have hF4 := hF.tr hT4 rfl
    exact e_some ⟨hW4, hF4, trivial⟩
  · refine e_i (fun q5 => ?_) (fun q5 => ?_)
    · refine e_cV (t_Report_beginBody hW) (fun T7 p7 => ?_)
      obtain ⟨hW7, hT7⟩ := p7
      have hF7 := hF.tr hT7 rfl
      refine e_cE (t_Bodies_tankWeight hW7) (fun u8 T8 p8 => ?_)
      obtain ⟨hW8, hT8, hr8⟩ := p8
      have hF8 := hF7.tr hT8 rfl
      exact e_some ⟨hW8, hF8, trivial⟩
    · refine e_i (fun q9 => ?_) (fun q9 => ?_)
      · refine e_cE (t_Bodies_flatWeight hW) (fun u11 T11 p11 => ?_)
        obtain ⟨hW11, hT11, hr11⟩ := p11
        have hF11 := hF.tr hT11 rfl
        exact e_some ⟨hW11, hF11, trivial⟩
      · refine e_i (fun q12 => ?_) (fun q12 => ?_)
        · refine e_cV (t_Report_beginBody hW) (fun T14 p14 => ?_)
          obtain ⟨hW14, hT14⟩ := p14
          have hF14 := hF.tr hT14 rfl
          refine e_cE (t_Stock_get hW14 ((rgl (2) 2 2 rfl).sub rfl)) (fun u15 T15 p15 => ?_)
          obtain ⟨-, hT15, hr15⟩ := p15
          have eT15 := (fr_nil hT15).symm
          subst eT15
          exact e_some ⟨hW14, hF14, trivial⟩
        · refine e_i (fun q16 => ?_) (fun q16 => ?_)
          · refine e_cV (t_Report_beginBody hW) (fun T18 p18 => ?_)
            obtain ⟨hW18, hT18⟩ := p18
            have hF18 := hF.tr hT18 rfl
            refine e_cE (t_Stock_get hW18 ((rgl (2) 2 2 rfl).sub rfl)) (fun u19 T19 p19 => ?_)
            obtain ⟨-, hT19, hr19⟩ := p19
            have eT19 := (fr_nil hT19).symm
            subst eT19
            exact e_some ⟨hW18, hF18, trivial⟩
          · refine e_i (fun q20 => ?_) (fun q20 => ?_)
            · refine e_cV (t_Report_beginBody hW) (fun T22 p22 => ?_)
              obtain ⟨hW22, hT22⟩ := p22
              have hF22 := hF.tr hT22 rfl
              refine e_cE (t_Stock_get hW22 ((rgl (2) 2 2 rfl).sub rfl)) (fun u23 T23 p23 => ?_)
              obtain ⟨-, hT23, hr23⟩ := p23
              have eT23 := (fr_nil hT23).symm
              subst eT23
              exact e_some ⟨hW22, hF22, trivial⟩
            · refine e_cE (t_Bodies_flatWeight hW) (fun u24 T24 p24 => ?_)
              obtain ⟨hW24, hT24, hr24⟩ := p24
              have hF24 := hF.tr hT24 rfl
              exact e_some ⟨hW24, hF24, trivial⟩
set_option maxRecDepth 20000 in
set_option maxHeartbeats 4000000 in
theorem t_Yard_lineWeight_L4 {S0 : SS} : ∀ (n : Nat) (x1 : Int32) (x2 : Int32) (S : SS), WR S → Fr [78] [(62, 2)] S0 S → rg x2 0 72 → 72 - x2.toInt < (n : Int) → Ex2 (f_Yard_lineWeight_L4 n x1 x2 S) (fun r U => WR U ∧ Fr [78] [(62, 2)] S0 U ∧ True) := by
  intro n
  induction n with
  | zero =>
    intro x1 x2 S hW hF h1 hm
    exact up_0 h1 hm rfl
  | succ n ih =>
    intro x1 x2 S hW hF h1 hm
    refine e_eq (f_Yard_lineWeight_L4.eq_2 _ _ _ _) ?_
    refine e_i (fun q1 => ?_) (fun q1 => ?_)
    · exact e_some ⟨hW, hF, trivial⟩
    · have f3 := nle_r 71 (ro_68_4 hW) h1 q1 rfl
      refine e_cE (t_Trains_inLine hW) (fun u4 T4 p4 => ?_)
      obtain ⟨-, hT4, hr4⟩ := p4
      have eT4 := (fr_nil hT4).symm
      subst eT4
      refine e_cE (t_Bodies_weight hW) (fun u5 T5 p5 => ?_)
      obtain ⟨hW5, hT5, hr5⟩ := p5
      have hF5 := hF.tr hT5 rfl
      refine e_nmG (fun w7 hw7 => ?_)
      refine e_nmG (fun w8 hw8 => ?_)
      have f9 := rg_tr (rg_add 1 72 f3 (rgl (1) 1 1 rfl) rfl) hw8
      exact ih _ _ _ hW5 hF5 (f9.sub rfl) (up_s f3 hw8 hm rfl)
set_option maxRecDepth 20000 in
set_option maxHeartbeats 4000000 in
theorem t_Yard_lineWeight {S : SS} (hW : WR S) : Ex2 (f_Yard_lineWeight  S) (fun r U => WR U ∧ Fr [78] [(62, 2)] S U ∧ True) := by
  have hF : Fr [78] [(62, 2)] S S := Fr.rf
  refine e_eq (f_Yard_lineWeight.eq_1 _) ?_
  exact t_Yard_lineWeight_L4  NF _ _ _ hW hF ((rgl (0) 0 0 rfl).sub rfl) (up_n (rgl (0) 0 0 rfl) rfl)
set_option maxRecDepth 20000 in
set_option maxHeartbeats 4000000 in
theorem t_Bodies_isFed {a1 : Int32} {a2 : Int32} {S : SS} (hW : WR S) (h1 : rg a2 0 1) : Ex2 (f_Bodies_isFed a1 a2 S) (fun r U => WR U ∧ Fr [] [] S U ∧ rg r 0 1) := by
  have hF : Fr [] [] S S := Fr.rf
  refine e_eq (f_Bodies_isFed.eq_1 _ _ _) ?_
  refine e_cE (t_State_get hW ((rg_add 2 3 (rgl (2) 2 2 rfl) h1 rfl).sub rfl)) (fun u1 T1 p1 => ?_)
  obtain ⟨-, hT1, hr1⟩ := p1
  have eT1 := (fr_nil hT1).symm
  subst eT1
  refine e_cE (t_Bodies_kindOf hW) (fun u2 T2 p2 => ?_)
  obtain ⟨-, hT2, hr2⟩ := p2
  have eT2 := (fr_nil hT2).symm
  subst eT2
  refine e_i (fun q3 => ?_) (fun q3 => ?_)
  · exact e_some ⟨hW, hF, ((rgl (1) 1 1 rfl).sub rfl)⟩
  · exact e_some ⟨hW, hF, ((rgl (0) 0 0 rfl).sub rfl)⟩
set_option maxRecDepth 20000 in
set_option maxHeartbeats 4000000 in
theorem t_Bodies_enginePulls {a1 : Int32} {S : SS} (hW : WR S) : Ex2 (f_Bodies_enginePulls a1 S) (fun r U => WR U ∧ Fr [78] [(62, 2)] S U ∧ True) := by
  have hF : Fr [78] [(62, 2)] S S := Fr.rf
  refine e_eq (f_Bodies_enginePulls.eq_1 _ _) ?_
  refine e_cV (t_Report_beginBody hW) (fun T1 p1 => ?_)
  obtain ⟨hW1, hT1⟩ := p1
  have hF1 := hF.tr hT1 rfl
  refine e_cE (t_Stock_get hW1 ((rgl (2) 2 2 rfl).sub rfl)) (fun u2 T2 p2 => ?_)
  obtain ⟨-, hT2, hr2⟩ := p2
  have eT2 := (fr_nil hT2).symm
  subst eT2
  exact e_some ⟨hW1, hF1, trivial⟩
set_option maxRecDepth 20000 in
set_option maxHeartbeats 4000000 in
theorem t_Bodies_pulls {a1 : Int32} {S : SS} (hW : WR S) : Ex2 (f_Bodies_pulls a1 S) (fun r U => WR U ∧ Fr [78] [(62, 2)] S U ∧ True) := by
  have hF : Fr [78] [(62, 2)] S S := Fr.rf
  refine e_eq (f_Bodies_pulls.eq_1 _ _) ?_
  refine e_cE (t_Bodies_kindOf hW) (fun u1 T1 p1 => ?_)
  obtain ⟨-, hT1, hr1⟩ := p1
  have eT1 := (fr_nil hT1).symm
  subst eT1
  refine e_i (fun q2 => ?_) (fun q2 => ?_)
  · refine e_cV (t_Report_beginBody hW) (fun T4 p4 => ?_)
    obtain ⟨hW4, hT4⟩ := p4
    have hF4 := hF.tr hT4 rfl
    refine e_cE (t_Bodies_isFed hW4 ((rgl (0) 0 0 rfl).sub rfl)) (fun u5 T5 p5 => ?_)
    obtain ⟨-, hT5, hr5⟩ := p5
    have eT5 := (fr_nil hT5).symm
    subst eT5
    refine e_i (fun q6 => ?_) (fun q6 => ?_)
    · refine e_cE (t_Bodies_isFed hW4 ((rgl (1) 1 1 rfl).sub rfl)) (fun u8 T8 p8 => ?_)
      obtain ⟨-, hT8, hr8⟩ := p8
      have eT8 := (fr_nil hT8).symm
      subst eT8
      refine e_i (fun q9 => ?_) (fun q9 => ?_)
      · exact e_some ⟨hW4, hF4, trivial⟩
      · refine e_eq (f_Bodies_pulls_j43.eq_1 _ _) ?_
        refine e_cE (t_Bodies_enginePulls hW4) (fun u12 T12 p12 => ?_)
        obtain ⟨hW12, hT12, hr12⟩ := p12
        have hF12 := hF4.tr hT12 rfl
        exact e_some ⟨hW12, hF12, trivial⟩
    · refine e_eq (f_Bodies_pulls_j43.eq_1 _ _) ?_
      refine e_cE (t_Bodies_enginePulls hW4) (fun u14 T14 p14 => ?_)
      obtain ⟨hW14, hT14, hr14⟩ := p14
      have hF14 := hF4.tr hT14 rfl
      exact e_some ⟨hW14, hF14, trivial⟩
  · refine e_cE (t_Bodies_enginePulls hW) (fun u15 T15 p15 => ?_)
    obtain ⟨hW15, hT15, hr15⟩ := p15
    have hF15 := hF.tr hT15 rfl
    exact e_some ⟨hW15, hF15, trivial⟩
set_option maxRecDepth 20000 in
set_option maxHeartbeats 4000000 in
theorem t_Yard_linePulls_L4 {S0 : SS} : ∀ (n : Nat) (x1 : Int32) (x2 : Int32) (S : SS), WR S → Fr [78] [(62, 2)] S0 S → rg x2 0 72 → 72 - x2.toInt < (n : Int) → Ex2 (f_Yard_linePulls_L4 n x1 x2 S) (fun r U => WR U ∧ Fr [78] [(62, 2)] S0 U ∧ True) := by
  intro n
  induction n with
  | zero =>
    intro x1 x2 S hW hF h1 hm
    exact up_0 h1 hm rfl
  | succ n ih =>
    intro x1 x2 S hW hF h1 hm
    refine e_eq (f_Yard_linePulls_L4.eq_2 _ _ _ _) ?_
    refine e_i (fun q1 => ?_) (fun q1 => ?_)
    · exact e_some ⟨hW, hF, trivial⟩
    · have f3 := nle_r 71 (ro_68_4 hW) h1 q1 rfl
      refine e_cE (t_Trains_inLine hW) (fun u4 T4 p4 => ?_)
      obtain ⟨-, hT4, hr4⟩ := p4
      have eT4 := (fr_nil hT4).symm
      subst eT4
      refine e_bnd ?_
      refine e_eq (f_Stock_isAs.eq_1 _ _ _) ?_
      refine e_cE (t_Stock_get hW ((rgl (0) 0 0 rfl).sub rfl)) (fun u5 T5 p5 => ?_)
      obtain ⟨-, hT5, hr5⟩ := p5
      have eT5 := (fr_nil hT5).symm
      subst eT5
      refine e_i (fun q6 => ?_) (fun q6 => ?_)
      · refine e_some ?_
        refine e_t (by decide) ?_
        refine e_eq (f_Yard_linePulls_j53.eq_1 _ _ _ _) ?_
        refine e_nmG (fun w8 hw8 => ?_)
        have f9 := rg_tr (rg_add 1 72 f3 (rgl (1) 1 1 rfl) rfl) hw8
        exact ih _ _ _ hW hF (f9.sub rfl) (up_s f3 hw8 hm rfl)
      · refine e_i (fun q11 => ?_) (fun q11 => ?_)
        · refine e_some ?_
          refine e_f (by decide) ?_
          refine e_cE (t_Trains_inLine hW) (fun u13 T13 p13 => ?_)
          obtain ⟨-, hT13, hr13⟩ := p13
          have eT13 := (fr_nil hT13).symm
          subst eT13
          refine e_cE (t_Bodies_pulls hW) (fun u14 T14 p14 => ?_)
          obtain ⟨hW14, hT14, hr14⟩ := p14
          have hF14 := hF.tr hT14 rfl
          refine e_nmG (fun w16 hw16 => ?_)
          refine e_eq (f_Yard_linePulls_j53.eq_1 _ _ _ _) ?_
          refine e_nmG (fun w17 hw17 => ?_)
          have f18 := rg_tr (rg_add 1 72 f3 (rgl (1) 1 1 rfl) rfl) hw17
          exact ih _ _ _ hW14 hF14 (f18.sub rfl) (up_s f3 hw17 hm rfl)
        · refine e_some ?_
          refine e_t (by decide) ?_
          refine e_eq (f_Yard_linePulls_j53.eq_1 _ _ _ _) ?_
          refine e_nmG (fun w20 hw20 => ?_)
          have f21 := rg_tr (rg_add 1 72 f3 (rgl (1) 1 1 rfl) rfl) hw20
          exact ih _ _ _ hW hF (f21.sub rfl) (up_s f3 hw20 hm rfl)
set_option maxRecDepth 20000 in
set_option maxHeartbeats 4000000 in
theorem t_Yard_linePulls {S : SS} (hW : WR S) : Ex2 (f_Yard_linePulls  S) (fun r U => WR U ∧ Fr [78] [(62, 2)] S U ∧ True) := by
  have hF : Fr [78] [(62, 2)] S S := Fr.rf
  refine e_eq (f_Yard_linePulls.eq_1 _) ?_
  exact t_Yard_linePulls_L4  NF _ _ _ hW hF ((rgl (0) 0 0 rfl).sub rfl) (up_n (rgl (0) 0 0 rfl) rfl)
set_option maxRecDepth 20000 in
set_option maxHeartbeats 4000000 in
theorem t_State_goTo {a1 : Int32} {a2 : Int32} {a3 : Int32} {S : SS} (hW : WR S) : Ew (f_State_goTo a1 a2 a3 S) (fun U => WR U ∧ Fr [79] [] S U) := by
  have hF : Fr [79] [] S S := Fr.rf
  refine v_eq (f_State_goTo.eq_1 _ _ _ _) ?_
  refine v_bndv ?_
  refine v_eq (f_State_set.eq_1 _ _ _ _) ?_
  refine v_i (fun q1 => ?_) (fun q1 => ?_)
  · refine v_some ?_
    refine v_bndv ?_
    refine v_eq (f_State_set.eq_1 _ _ _ _) ?_
    refine v_t q1 ?_
    refine v_some ?_
    exact v_some ⟨hW, hF⟩
  · have f3 := nlt_l (rgt _) (rgl 0 0 0 rfl) q1
    refine v_i (fun q4 => ?_) (fun q4 => ?_)
    · refine v_some ?_
      refine v_bndv ?_
      refine v_eq (f_State_set.eq_1 _ _ _ _) ?_
      refine v_f q1 ?_
      refine v_t q4 ?_
      refine v_some ?_
      exact v_some ⟨hW, hF⟩
    · have f6 := nle_r 71 (ro_63_1 hW) f3 q4 rfl
      refine v_grd (inb_g (rg_add 154 935 (rg_add 154 935 (rgl (154) 154 154 rfl) (rg_mul 0 781 (rgl (11) 11 11 rfl) f6 rfl) rfl) (rgl (0) 0 0 rfl) rfl) rfl) ?_
      refine v_wrA (fun T7 eT7 hT7 v7 => ?_)
      have hW7 := WR.st (k := 79) hW (okS_g (rg_add 154 935 (rg_add 154 935 (rgl (154) 154 154 rfl) (rg_mul 0 781 (rgl (11) 11 11 rfl) f6 rfl) rfl) (rgl (0) 0 0 rfl) rfl) rfl) rfl eT7
      have hF7 := hF.tr hT7 rfl
      refine v_some ?_
      refine v_bndv ?_
      refine v_eq (f_State_set.eq_1 _ _ _ _) ?_
      refine v_f q1 ?_
      refine v_i (fun q9 => ?_) (fun q9 => ?_)
      · refine v_some ?_
        exact v_some ⟨hW7, hF7⟩
      · refine v_grd (inb_g (rg_add 155 936 (rg_add 154 935 (rgl (154) 154 154 rfl) (rg_mul 0 781 (rgl (11) 11 11 rfl) f6 rfl) rfl) (rgl (1) 1 1 rfl) rfl) rfl) ?_
        refine v_wrA (fun T12 eT12 hT12 v12 => ?_)
        have hW12 := WR.st (k := 79) hW7 (okS_g (rg_add 155 936 (rg_add 154 935 (rgl (154) 154 154 rfl) (rg_mul 0 781 (rgl (11) 11 11 rfl) f6 rfl) rfl) (rgl (1) 1 1 rfl) rfl) rfl) rfl eT12
        have hF12 := hF7.tr hT12 rfl
        refine v_some ?_
        exact v_some ⟨hW12, hF12⟩
set_option maxRecDepth 20000 in
set_option maxHeartbeats 4000000 in
theorem t_Trains_moveLine_L11 {S0 : SS} : ∀ (n : Nat) (x2 : Int32) (x3 : Int32) (x4 : Int32) (S : SS), WR S → Fr [79] [] S0 S → rg x4 0 72 → 72 - x4.toInt < (n : Int) → Ew (f_Trains_moveLine_L11 n x2 x3 x4 S) (fun U => WR U ∧ Fr [79] [] S0 U) := by
  intro n
  induction n with
  | zero =>
    intro x2 x3 x4 S hW hF h2 hm
    exact up_0 h2 hm rfl
  | succ n ih =>
    intro x2 x3 x4 S hW hF h2 hm
    refine v_eq (f_Trains_moveLine_L11.eq_2 _ _ _ _ _) ?_
    refine v_i (fun q1 => ?_) (fun q1 => ?_)
    · exact v_some ⟨hW, hF⟩
    · have f3 := nle_r 71 (ro_68_4 hW) h2 q1 rfl
      refine v_cE (t_Trains_hookInLine hW) (fun u4 T4 p4 => ?_)
      obtain ⟨-, hT4, hr4⟩ := p4
      have eT4 := (fr_nil hT4).symm
      subst eT4
      refine v_cE (t_State_get hW ((rgl (0) 0 0 rfl).sub rfl)) (fun u5 T5 p5 => ?_)
      obtain ⟨-, hT5, hr5⟩ := p5
      have eT5 := (fr_nil hT5).symm
      subst eT5
      refine v_cE (t_State_looks hW) (fun u6 T6 p6 => ?_)
      obtain ⟨-, hT6, hr6⟩ := p6
      have eT6 := (fr_nil hT6).symm
      subst eT6
      refine v_cV (t_State_goTo hW) (fun T7 p7 => ?_)
      obtain ⟨hW7, hT7⟩ := p7
      have hF7 := hF.tr hT7 rfl
      refine v_cE (t_State_get hW7 ((rgl (6) 6 6 rfl).sub rfl)) (fun u9 T9 p9 => ?_)
      obtain ⟨-, hT9, hr9⟩ := p9
      have eT9 := (fr_nil hT9).symm
      subst eT9
      refine v_bnd ?_
      refine e_eq (f_Math_max_7cf53.eq_1 _ _ _) ?_
      refine e_i (fun q10 => ?_) (fun q10 => ?_)
      · refine e_some ?_
        refine v_bndv ?_
        refine v_eq (f_State_set.eq_1 _ _ _ _) ?_
        refine v_i (fun q12 => ?_) (fun q12 => ?_)
        · refine v_some ?_
          refine v_nmG (fun w14 hw14 => ?_)
          have f15 := rg_tr (rg_add 1 72 f3 (rgl (1) 1 1 rfl) rfl) hw14
          exact ih _ _ _ _ hW7 hF7 (f15.sub rfl) (up_s f3 hw14 hm rfl)
        · have f16 := nlt_l (rgt _) (rgl 0 0 0 rfl) q12
          refine v_i (fun q17 => ?_) (fun q17 => ?_)
          · refine v_some ?_
            refine v_nmG (fun w18 hw18 => ?_)
            have f19 := rg_tr (rg_add 1 72 f3 (rgl (1) 1 1 rfl) rfl) hw18
            exact ih _ _ _ _ hW7 hF7 (f19.sub rfl) (up_s f3 hw18 hm rfl)
          · have f21 := nle_r 71 (ro_63_1 hW7) f16 q17 rfl
            refine v_grd (inb_g (rg_add 160 941 (rg_add 154 935 (rgl (154) 154 154 rfl) (rg_mul 0 781 (rgl (11) 11 11 rfl) f21 rfl) rfl) (rgl (6) 6 6 rfl) rfl) rfl) ?_
            refine v_wrA (fun T22 eT22 hT22 v22 => ?_)
            have hW22 := WR.st (k := 79) hW7 (okS_g (rg_add 160 941 (rg_add 154 935 (rgl (154) 154 154 rfl) (rg_mul 0 781 (rgl (11) 11 11 rfl) f21 rfl) rfl) (rgl (6) 6 6 rfl) rfl) rfl) rfl eT22
            have hF22 := hF7.tr hT22 rfl
            refine v_some ?_
            refine v_nmG (fun w26 hw26 => ?_)
            have f27 := rg_tr (rg_add 1 72 f3 (rgl (1) 1 1 rfl) rfl) hw26
            exact ih _ _ _ _ hW22 hF22 (f27.sub rfl) (up_s f3 hw26 hm rfl)
      · refine e_someG (fun w29 hw29 => ?_)
        refine v_bndv ?_
        refine v_eq (f_State_set.eq_1 _ _ _ _) ?_
        refine v_i (fun q31 => ?_) (fun q31 => ?_)
        · refine v_some ?_
          refine v_nmG (fun w33 hw33 => ?_)
          have f34 := rg_tr (rg_add 1 72 f3 (rgl (1) 1 1 rfl) rfl) hw33
          exact ih _ _ _ _ hW7 hF7 (f34.sub rfl) (up_s f3 hw33 hm rfl)
        · have f35 := nlt_l (rgt _) (rgl 0 0 0 rfl) q31
          refine v_i (fun q36 => ?_) (fun q36 => ?_)
          · refine v_some ?_
            refine v_nmG (fun w37 hw37 => ?_)
            have f38 := rg_tr (rg_add 1 72 f3 (rgl (1) 1 1 rfl) rfl) hw37
            exact ih _ _ _ _ hW7 hF7 (f38.sub rfl) (up_s f3 hw37 hm rfl)
          · have f40 := nle_r 71 (ro_63_1 hW7) f35 q36 rfl
            refine v_grd (inb_g (rg_add 160 941 (rg_add 154 935 (rgl (154) 154 154 rfl) (rg_mul 0 781 (rgl (11) 11 11 rfl) f40 rfl) rfl) (rgl (6) 6 6 rfl) rfl) rfl) ?_
            refine v_wrA (fun T41 eT41 hT41 v41 => ?_)
            have hW41 := WR.st (k := 79) hW7 (okS_g (rg_add 160 941 (rg_add 154 935 (rgl (154) 154 154 rfl) (rg_mul 0 781 (rgl (11) 11 11 rfl) f40 rfl) rfl) (rgl (6) 6 6 rfl) rfl) rfl) rfl eT41
            have hF41 := hF7.tr hT41 rfl
            refine v_some ?_
            refine v_nmG (fun w45 hw45 => ?_)
            have f46 := rg_tr (rg_add 1 72 f3 (rgl (1) 1 1 rfl) rfl) hw45
            exact ih _ _ _ _ hW41 hF41 (f46.sub rfl) (up_s f3 hw45 hm rfl)
set_option maxRecDepth 20000 in
set_option maxHeartbeats 4000000 in
theorem t_Trains_moveLine {a1 : Int32} {S : SS} (hW : WR S) : Ew (f_Trains_moveLine a1 S) (fun U => WR U ∧ Fr [79] [] S U) := by
  have hF : Fr [79] [] S S := Fr.rf
  refine v_eq (f_Trains_moveLine.eq_1 _ _) ?_
  refine v_nmG (fun w1 hw1 => ?_)
  refine v_nmG (fun w2 hw2 => ?_)
  exact t_Trains_moveLine_L11  NF _ _ _ _ hW hF ((rgl (0) 0 0 rfl).sub rfl) (up_n (rgl (0) 0 0 rfl) rfl)
set_option maxRecDepth 20000 in
set_option maxHeartbeats 4000000 in
theorem t_Trains_stepLine_L39 {S0 : SS} : ∀ (n : Nat) (x1 : Int32) (x2 : Int32) (S : SS), WR S → Fr [79] [(62, 4)] S0 S → rg x2 0 72 → 72 - x2.toInt < (n : Int) → Ex2 (f_Trains_stepLine_L39 n x1 x2 S) (fun r U => WR U ∧ Fr [79] [(62, 4)] S0 U ∧ rg r 0 10) := by
  intro n
  induction n with
  | zero =>
    intro x1 x2 S hW hF h1 hm
    exact up_0 h1 hm rfl
  | succ n ih =>
    intro x1 x2 S hW hF h1 hm
    refine e_eq (f_Trains_stepLine_L39.eq_2 _ _ _ _) ?_
    refine e_i (fun q1 => ?_) (fun q1 => ?_)
    · refine e_cV (t_Trains_moveLine hW) (fun T2 p2 => ?_)
      obtain ⟨hW2, hT2⟩ := p2
      have hF2 := hF.tr hT2 rfl
      exact e_some ⟨hW2, hF2, ((rgl (0) 0 0 rfl).sub rfl)⟩
    · have f4 := nle_r 71 (ro_68_4 hW) h1 q1 rfl
      refine e_cE (t_Trains_inLine hW) (fun u5 T5 p5 => ?_)
      obtain ⟨-, hT5, hr5⟩ := p5
      have eT5 := (fr_nil hT5).symm
      subst eT5
      refine e_cE (t_State_get hW ((rgl (6) 6 6 rfl).sub rfl)) (fun u6 T6 p6 => ?_)
      obtain ⟨-, hT6, hr6⟩ := p6
      have eT6 := (fr_nil hT6).symm
      subst eT6
      refine e_i (fun q7 => ?_) (fun q7 => ?_)
      · refine e_cE (t_Trains_inLine hW) (fun u9 T9 p9 => ?_)
        obtain ⟨-, hT9, hr9⟩ := p9
        have eT9 := (fr_nil hT9).symm
        subst eT9
        refine e_cE (t_Trains_raiseFinding hW) (fun u10 T10 p10 => ?_)
        obtain ⟨hW10, hT10, hr10⟩ := p10
        have hF10 := hF.tr hT10 rfl
        exact e_some ⟨hW10, hF10, (hr10.sub rfl)⟩
      · refine e_nmG (fun w12 hw12 => ?_)
        have f13 := rg_tr (rg_add 1 72 f4 (rgl (1) 1 1 rfl) rfl) hw12
        exact ih _ _ _ hW hF (f13.sub rfl) (up_s f4 hw12 hm rfl)
set_option maxRecDepth 20000 in
set_option maxHeartbeats 4000000 in
theorem t_Trains_stepLine {S : SS} (hW : WR S) : Ex2 (f_Trains_stepLine  S) (fun r U => WR U ∧ Fr [79] [(62, 4)] S U ∧ rg r 0 10) := by
  have hF : Fr [79] [(62, 4)] S S := Fr.rf
  refine e_eq (f_Trains_stepLine.eq_1 _) ?_
  refine e_cE (t_Trains_hookInLine hW) (fun u1 T1 p1 => ?_)
  obtain ⟨-, hT1, hr1⟩ := p1
  have eT1 := (fr_nil hT1).symm
  subst eT1
  refine e_cE (t_Trains_nextFrom hW) (fun u2 T2 p2 => ?_)
  obtain ⟨-, hT2, hr2⟩ := p2
  have eT2 := (fr_nil hT2).symm
  subst eT2
  refine e_i (fun q3 => ?_) (fun q3 => ?_)
  · exact e_some ⟨hW, hF, ((rgl (10) 10 10 rfl).sub rfl)⟩
  · refine e_cE (t_State_standsAt hW) (fun u5 T5 p5 => ?_)
    obtain ⟨-, hT5, hr5⟩ := p5
    have eT5 := (fr_nil hT5).symm
    subst eT5
    refine e_i (fun q6 => ?_) (fun q6 => ?_)
    · exact t_Trains_stepLine_L39  NF _ _ _ hW hF ((rgl (0) 0 0 rfl).sub rfl) (up_n (rgl (0) 0 0 rfl) rfl)
    · exact e_some ⟨hW, hF, ((rgl (9) 9 9 rfl).sub rfl)⟩
set_option maxRecDepth 20000 in
set_option maxHeartbeats 4000000 in
theorem t_Yard_pullBy_L78 {S0 : SS} : ∀ (n : Nat) (x3 : Int32) (x6 : Int32) (S : SS), WR S → Fr [77, 78, 79, 104] [(62, 2), (62, 3), (62, 4), (62, 5), (68, 4)] S0 S → rg x3 1 200 → rg x6 0 200 → 200 - x6.toInt < (n : Int) → Ex2 (f_Yard_pullBy_L78 n x3 x6 S) (fun r U => WR U ∧ Fr [77, 78, 79, 104] [(62, 2), (62, 3), (62, 4), (62, 5), (68, 4)] S0 U ∧ rg r (-2) 200) := by
  intro n
  induction n with
  | zero =>
    intro x3 x6 S hW hF h0 h1 hm
    exact up_0 h1 hm rfl
  | succ n ih =>
    intro x3 x6 S hW hF h0 h1 hm
    refine e_eq (f_Yard_pullBy_L78.eq_2 _ _ _ _) ?_
    refine e_i (fun q1 => ?_) (fun q1 => ?_)
    · exact e_some ⟨hW, hF, (h0.sub rfl)⟩
    · have f3 := nle_r 199 h0 h1 q1 rfl
      refine e_cE (t_Trains_stepLine hW) (fun u4 T4 p4 => ?_)
      obtain ⟨hW4, hT4, hr4⟩ := p4
      have hF4 := hF.tr hT4 rfl
      refine e_i (fun q5 => ?_) (fun q5 => ?_)
      · refine e_wrO (fun T7 eT7 hT7 v7 => ?_)
        have hW7 := WR.st (k := 62) (i := 5) hW4 trivial rfl eT7
        have hF7 := hF4.tr hT7 rfl
        refine e_nmG (fun w8 hw8 => ?_)
        have f9 := rg_tr (rg_add 1 200 f3 (rgl (1) 1 1 rfl) rfl) hw8
        exact ih _ _ _ hW7 hF7 h0 (f9.sub rfl) (up_s f3 hw8 hm rfl)
      · refine e_cE (t_Report_found hW4) (fun u11 T11 p11 => ?_)
        obtain ⟨hW11, hT11, hr11⟩ := p11
        have hF11 := hF4.tr hT11 rfl
        exact e_some ⟨hW11, hF11, (hr11.sub rfl)⟩
set_option maxRecDepth 20000 in
set_option maxHeartbeats 4000000 in
theorem t_Yard_pullBy {a1 : Int32} {a2 : Int32} {a3 : Int32} {S : SS} (hW : WR S) (h2 : rg a3 1 200) : Ex2 (f_Yard_pullBy a1 a2 a3 S) (fun r U => WR U ∧ Fr [77, 78, 79, 104] [(62, 2), (62, 3), (62, 4), (62, 5), (68, 4)] S U ∧ rg r (-2) 200) := by
  have hF : Fr [77, 78, 79, 104] [(62, 2), (62, 3), (62, 4), (62, 5), (68, 4)] S S := Fr.rf
  refine e_eq (f_Yard_pullBy.eq_1 _ _ _ _) ?_
  refine e_bnd ?_
  refine e_eq (f_Yard_namedSide.eq_1 _ _ _ _) ?_
  refine e_bnd ?_
  refine e_eq (f_Yard_named.eq_1 _ _ _) ?_
  refine e_bnd ?_
  refine e_eq (f_Yard_isNot.eq_1 _ _ _ _) ?_
  refine e_i (fun q1 => ?_) (fun q1 => ?_)
  · refine e_some ?_
    refine e_f (by decide) ?_
    refine e_some ?_
    refine e_f (by decide) ?_
    refine e_some ?_
    refine e_f (by decide) ?_
    refine e_cE (t_Report_found hW) (fun u3 T3 p3 => ?_)
    obtain ⟨hW3, hT3, hr3⟩ := p3
    have hF3 := hF.tr hT3 rfl
    exact e_some ⟨hW3, hF3, (hr3.sub rfl)⟩
  · refine e_i (fun q5 => ?_) (fun q5 => ?_)
    · refine e_some ?_
      refine e_t (by decide) ?_
      refine e_i (fun q7 => ?_) (fun q7 => ?_)
      · refine e_bnd ?_
        refine e_eq (f_Stock_isAs.eq_1 _ _ _) ?_
        refine e_cE (t_Stock_get hW ((rgl (0) 0 0 rfl).sub rfl)) (fun u9 T9 p9 => ?_)
        obtain ⟨-, hT9, hr9⟩ := p9
        have eT9 := (fr_nil hT9).symm
        subst eT9
        refine e_i (fun q10 => ?_) (fun q10 => ?_)
        · refine e_some ?_
          refine e_t (by decide) ?_
          refine e_some ?_
          refine e_f (by decide) ?_
          refine e_some ?_
          refine e_f (by decide) ?_
          refine e_cE (t_Report_found hW) (fun u12 T12 p12 => ?_)
          obtain ⟨hW12, hT12, hr12⟩ := p12
          have hF12 := hF.tr hT12 rfl
          exact e_some ⟨hW12, hF12, (hr12.sub rfl)⟩
        · refine e_i (fun q15 => ?_) (fun q15 => ?_)
          · refine e_some ?_
            refine e_f (by decide) ?_
            refine e_bnd ?_
            refine e_eq (f_State_isThere.eq_1 _ _) ?_
            refine e_cE (t_State_get hW ((rgl (0) 0 0 rfl).sub rfl)) (fun u17 T17 p17 => ?_)
            obtain ⟨-, hT17, hr17⟩ := p17
            have eT17 := (fr_nil hT17).symm
            subst eT17
            refine e_i (fun q18 => ?_) (fun q18 => ?_)
            · refine e_some ?_
              refine e_t (by decide) ?_
              refine e_some ?_
              refine e_f (by decide) ?_
              refine e_some ?_
              refine e_f (by decide) ?_
              refine e_cE (t_Report_found hW) (fun u20 T20 p20 => ?_)
              obtain ⟨hW20, hT20, hr20⟩ := p20
              have hF20 := hF.tr hT20 rfl
              exact e_some ⟨hW20, hF20, (hr20.sub rfl)⟩
            · refine e_some ?_
              refine e_f (by decide) ?_
              refine e_some ?_
              refine e_t (by decide) ?_
              refine e_bnd ?_
              refine e_eq (f_Yard_isNot.eq_1 _ _ _ _) ?_
              refine e_i (fun q23 => ?_) (fun q23 => ?_)
              · refine e_some ?_
                refine e_f (by decide) ?_
                refine e_some ?_
                refine e_f (by decide) ?_
                refine e_cE (t_Report_found hW) (fun u25 T25 p25 => ?_)
                obtain ⟨hW25, hT25, hr25⟩ := p25
                have hF25 := hF.tr hT25 rfl
                exact e_some ⟨hW25, hF25, (hr25.sub rfl)⟩
              · refine e_i (fun q28 => ?_) (fun q28 => ?_)
                · refine e_some ?_
                  refine e_t (by decide) ?_
                  refine e_some ?_
                  refine e_t (by decide) ?_
                  refine e_cV (t_Trains_lineUp hW) (fun T30 p30 => ?_)
                  obtain ⟨hW30, hT30⟩ := p30
                  have hF30 := hF.tr hT30 rfl
                  refine e_cE (t_Yard_lineWeight hW30) (fun u32 T32 p32 => ?_)
                  obtain ⟨hW32, hT32, hr32⟩ := p32
                  have hF32 := hF30.tr hT32 rfl
                  refine e_cE (t_Yard_linePulls hW32) (fun u34 T34 p34 => ?_)
                  obtain ⟨hW34, hT34, hr34⟩ := p34
                  have hF34 := hF32.tr hT34 rfl
                  refine e_i (fun q36 => ?_) (fun q36 => ?_)
                  · refine e_cV (t_Trains_lineUp hW34) (fun T37 p37 => ?_)
                    obtain ⟨hW37, hT37⟩ := p37
                    have hF37 := hF34.tr hT37 rfl
                    exact t_Yard_pullBy_L78  NF _ _ _ hW37 hF37 h2 ((rgl (0) 0 0 rfl).sub rfl) (up_n (rgl (0) 0 0 rfl) rfl)
                  · refine e_cE (t_Report_found hW34) (fun u41 T41 p41 => ?_)
                    obtain ⟨hW41, hT41, hr41⟩ := p41
                    have hF41 := hF34.tr hT41 rfl
                    exact e_some ⟨hW41, hF41, (hr41.sub rfl)⟩
                · refine e_some ?_
                  refine e_f (by decide) ?_
                  refine e_some ?_
                  refine e_f (by decide) ?_
                  refine e_cE (t_Report_found hW) (fun u44 T44 p44 => ?_)
                  obtain ⟨hW44, hT44, hr44⟩ := p44
                  have hF44 := hF.tr hT44 rfl
                  exact e_some ⟨hW44, hF44, (hr44.sub rfl)⟩
          · refine e_some ?_
            refine e_t (by decide) ?_
            refine e_some ?_
            refine e_f (by decide) ?_
            refine e_some ?_
            refine e_f (by decide) ?_
            refine e_cE (t_Report_found hW) (fun u47 T47 p47 => ?_)
            obtain ⟨hW47, hT47, hr47⟩ := p47
            have hF47 := hF.tr hT47 rfl
            exact e_some ⟨hW47, hF47, (hr47.sub rfl)⟩
      · refine e_some ?_
        refine e_f (by decide) ?_
        refine e_some ?_
        refine e_f (by decide) ?_
        refine e_cE (t_Report_found hW) (fun u50 T50 p50 => ?_)
        obtain ⟨hW50, hT50, hr50⟩ := p50
        have hF50 := hF.tr hT50 rfl
        exact e_some ⟨hW50, hF50, (hr50.sub rfl)⟩
    · refine e_some ?_
      refine e_f (by decide) ?_
      refine e_some ?_
      refine e_f (by decide) ?_
      refine e_some ?_
      refine e_f (by decide) ?_
      refine e_cE (t_Report_found hW) (fun u53 T53 p53 => ?_)
      obtain ⟨hW53, hT53, hr53⟩ := p53
      have hF53 := hF.tr hT53 rfl
      exact e_some ⟨hW53, hF53, (hr53.sub rfl)⟩
set_option maxRecDepth 20000 in
set_option maxHeartbeats 4000000 in
theorem t_Yard_pull {a1 : Int32} {a2 : Int32} {a3 : Int32} {S : SS} (hW : WR S) : Ex2 (f_Yard_pull a1 a2 a3 S) (fun r U => WR U ∧ Fr [77, 78, 79, 81, 82, 83, 84, 85, 86, 87, 88, 89, 90, 104] [(62, 2), (62, 3), (62, 4), (62, 5), (62, 6), (64, 3), (64, 4), (64, 5), (64, 6), (64, 7), (68, 4)] S U ∧ True) := by
  have hF : Fr [77, 78, 79, 81, 82, 83, 84, 85, 86, 87, 88, 89, 90, 104] [(62, 2), (62, 3), (62, 4), (62, 5), (62, 6), (64, 3), (64, 4), (64, 5), (64, 6), (64, 7), (68, 4)] S S := Fr.rf
  refine e_eq (f_Yard_pull.eq_1 _ _ _ _) ?_
  refine e_bnd ?_
  refine e_eq (f_Yard_isNot.eq_1 _ _ _ _) ?_
  refine e_i (fun q1 => ?_) (fun q1 => ?_)
  · refine e_some ?_
    refine e_f (by decide) ?_
    exact e_some ⟨hW, hF, trivial⟩
  · have f3 := nlt_l (rgt _) (rgl (1) 1 1 rfl) q1
    refine e_i (fun q4 => ?_) (fun q4 => ?_)
    · have f5 := le_l f3 (rgl (200) 200 200 rfl) q4
      refine e_some ?_
      refine e_t (by decide) ?_
      refine e_cV (t_Yard_beginAct hW) (fun T6 p6 => ?_)
      obtain ⟨hW6, hT6⟩ := p6
      have hF6 := hF.tr hT6 rfl
      refine e_cE (t_Yard_pullBy hW6 f5) (fun u7 T7 p7 => ?_)
      obtain ⟨hW7, hT7, hr7⟩ := p7
      have hF7 := hF6.tr hT7 rfl
      refine e_cE (t_Yard_endAct hW7) (fun u8 T8 p8 => ?_)
      obtain ⟨hW8, hT8, hr8⟩ := p8
      have hF8 := hF7.tr hT8 rfl
      exact e_some ⟨hW8, hF8, trivial⟩
    · refine e_some ?_
      refine e_f (by decide) ?_
      exact e_some ⟨hW, hF, trivial⟩
set_option maxRecDepth 20000 in
set_option maxHeartbeats 4000000 in
theorem t_Bodies_heavy {a1 : Int32} {S : SS} (hW : WR S) : Ex2 (f_Bodies_heavy a1 S) (fun r U => WR U ∧ Fr [78] [(62, 2)] S U ∧ True) := by
  have hF : Fr [78] [(62, 2)] S S := Fr.rf
  refine e_eq (f_Bodies_heavy.eq_1 _ _) ?_
  refine e_cE (t_Bodies_kindOf hW) (fun u1 T1 p1 => ?_)
  obtain ⟨-, hT1, hr1⟩ := p1
  have eT1 := (fr_nil hT1).symm
  subst eT1
  refine e_i (fun q2 => ?_) (fun q2 => ?_)
  · refine e_eq (f_Bodies_heavy_j14.eq_1 _ _ _) ?_
    refine e_f (by decide) ?_
    refine e_cV (t_Report_beginBody hW) (fun T4 p4 => ?_)
    obtain ⟨hW4, hT4⟩ := p4
    have hF4 := hF.tr hT4 rfl
    refine e_eq (f_Bodies_heavy_j28.eq_1 _ _ _) ?_
    refine e_cV (t_Report_beginBody hW4) (fun T5 p5 => ?_)
    obtain ⟨hW5, hT5⟩ := p5
    have hF5 := hF4.tr hT5 rfl
    refine e_cE (t_Bodies_weight hW5) (fun u6 T6 p6 => ?_)
    obtain ⟨hW6, hT6, hr6⟩ := p6
    have hF6 := hF5.tr hT6 rfl
    refine e_cE (t_Stock_get hW6 ((rgl (1) 1 1 rfl).sub rfl)) (fun u7 T7 p7 => ?_)
    obtain ⟨-, hT7, hr7⟩ := p7
    have eT7 := (fr_nil hT7).symm
    subst eT7
    refine e_nmG (fun w8 hw8 => ?_)
    refine e_f (by decide) ?_
    exact e_some ⟨hW6, hF6, trivial⟩
  · refine e_eq (f_Bodies_heavy_j14.eq_1 _ _ _) ?_
    refine e_t (by decide) ?_
    refine e_eq (f_Bodies_heavy_j28.eq_1 _ _ _) ?_
    refine e_cV (t_Report_beginBody hW) (fun T9 p9 => ?_)
    obtain ⟨hW9, hT9⟩ := p9
    have hF9 := hF.tr hT9 rfl
    refine e_cE (t_Bodies_weight hW9) (fun u10 T10 p10 => ?_)
    obtain ⟨hW10, hT10, hr10⟩ := p10
    have hF10 := hF9.tr hT10 rfl
    refine e_cE (t_Stock_get hW10 ((rgl (1) 1 1 rfl).sub rfl)) (fun u11 T11 p11 => ?_)
    obtain ⟨-, hT11, hr11⟩ := p11
    have eT11 := (fr_nil hT11).symm
    subst eT11
    refine e_nmG (fun w12 hw12 => ?_)
    refine e_t (by decide) ?_
    exact e_some ⟨hW10, hF10, trivial⟩
