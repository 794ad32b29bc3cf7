set_option maxRecDepth 20000 in
set_option maxHeartbeats 4000000 in
theorem t_Stacks_isLike_work_goal_L25 {S0 : SS} {K : Int32 → SS → Option (Int32 × SS)} {x2 : Int32} (hK : ∀ (k0 : Int32) (S' : SS), WR S' → Fr [] [] S0 S' → rg k0 0 4 → k0 = x2 + 1 → Ex2 (K k0 S') (fun r U => WR U ∧ Fr [] [] S0 U ∧ rg r 0 1)) : ∀ (n : Nat) (x3 : Int32) (S : SS), WR S → Fr [] [] S0 S → rg x2 0 3 → rg x3 0 10 → 10 - x3.toInt < (n : Int) → Ex2 (f_Stacks_isLike_work_goal_L25 K n x2 x3 S) (fun r U => WR U ∧ Fr [] [] S0 U ∧ rg r 0 1) := by
  intro n
  induction n with
  | zero =>
    intro x3 S hW hF h0 h1 hm
    exact up_0 h1 hm rfl
  | succ n ih =>
    intro x3 S hW hF h0 h1 hm
    refine e_eq (f_Stacks_isLike_work_goal_L25.eq_2 _ _ _ _ _) ?_
    refine e_grd (inb_g h0 rfl) ?_
    refine e_i (fun q1 => ?_) (fun q1 => ?_)
    · refine e_nmG (fun w2 hw2 => ?_)
      have f3 := rg_tr (rg_add 1 4 h0 (rgl (1) 1 1 rfl) rfl) hw2
      exact hK _ _ hW hF (f3.sub rfl) hw2
    · have f5 := nle_r 9 (ro_127 hW _) h1 q1 rfl
      refine e_cE (t_Stacks_wagonAt_work hW) (fun u6 T6 p6 => ?_)
      obtain ⟨-, hT6, hr6⟩ := p6
      have eT6 := (fr_nil hT6).symm
      subst eT6
      refine e_cE (t_Stacks_wagonAt_goal hW) (fun u7 T7 p7 => ?_)
      obtain ⟨-, hT7, hr7⟩ := p7
      have eT7 := (fr_nil hT7).symm
      subst eT7
      refine e_i (fun q8 => ?_) (fun q8 => ?_)
      · refine e_nmG (fun w9 hw9 => ?_)
        have f10 := rg_tr (rg_add 1 10 f5 (rgl (1) 1 1 rfl) rfl) hw9
        exact ih _ _ hW hF h0 (f10.sub rfl) (up_s f5 hw9 hm rfl)
      · exact e_some ⟨hW, hF, ((rgl (0) 0 0 rfl).sub rfl)⟩
set_option maxRecDepth 20000 in
set_option maxHeartbeats 4000000 in
theorem t_Stacks_isLike_work_goal_L2 {S0 : SS} : ∀ (n : Nat) (x2 : Int32) (S : SS), WR S → Fr [] [] S0 S → rg x2 0 4 → 4 - x2.toInt < (n : Int) → Ex2 (f_Stacks_isLike_work_goal_L2 n x2 S) (fun r U => WR U ∧ Fr [] [] S0 U ∧ rg r 0 1) := by
  intro n
  induction n with
  | zero =>
    intro x2 S hW hF h0 hm
    exact up_0 h0 hm rfl
  | succ n ih =>
    intro x2 S hW hF h0 hm
    refine e_eq (f_Stacks_isLike_work_goal_L2.eq_2 _ _ _) ?_
    refine e_i (fun q1 => ?_) (fun q1 => ?_)
    · exact e_some ⟨hW, hF, ((rgl (1) 1 1 rfl).sub rfl)⟩
    · have f3 := nle_r 3 (rgl (4) 4 4 rfl) h0 q1 rfl
      refine e_grd (inb_g f3 rfl) ?_
      refine e_bnd ?_
      refine e_eq (f_Stacks_height_goal.eq_1 _ _) ?_
      refine e_f (d_nlt f3 (rgl 0 0 0 rfl) rfl) ?_
      refine e_f q1 ?_
      refine e_grd (inb_g f3 rfl) ?_
      refine e_someG (fun w4 hw4 => ?_)
      refine e_i (fun q6 => ?_) (fun q6 => ?_)
      · exact t_Stacks_isLike_work_goal_L25 (fun _ S' hW' hF' hk0 ke => ih _ S' hW' hF' hk0 (up_s f3 ke hm rfl)) NF _ _ hW hF f3 ((rgl (0) 0 0 rfl).sub rfl) (up_n (rgl (0) 0 0 rfl) rfl)
      · exact e_some ⟨hW, hF, ((rgl (0) 0 0 rfl).sub rfl)⟩
set_option maxRecDepth 20000 in
set_option maxHeartbeats 4000000 in
theorem t_Stacks_isLike_work_goal {S : SS} (hW : WR S) : Ex2 (f_Stacks_isLike_work_goal  S) (fun r U => WR U ∧ Fr [] [] S U ∧ rg r 0 1) := by
  have hF : Fr [] [] S S := Fr.rf
  refine e_eq (f_Stacks_isLike_work_goal.eq_1 _) ?_
  exact t_Stacks_isLike_work_goal_L2  NF _ _ hW hF ((rgl (0) 0 0 rfl).sub rfl) (up_n (rgl (0) 0 0 rfl) rfl)
set_option maxRecDepth 20000 in
set_option maxHeartbeats 4000000 in
theorem t_Plans_roomLeft {a1 : Int32} {S : SS} (hW : WR S) : Ex2 (f_Plans_roomLeft a1 S) (fun r U => WR U ∧ Fr [] [] S U ∧ True) := by
  have hF : Fr [] [] S S := Fr.rf
  refine e_eq (f_Plans_roomLeft.eq_1 _ _) ?_
  refine e_i (fun q1 => ?_) (fun q1 => ?_)
  · exact e_some ⟨hW, hF, trivial⟩
  · have f3 := nlt_l (rgt _) (rgl 0 0 0 rfl) q1
    refine e_i (fun q4 => ?_) (fun q4 => ?_)
    · have f5 := lt_l 3 f3 (rgl (4) 4 4 rfl) q4 rfl
      refine e_grd (inb_g f5 rfl) ?_
      refine e_bnd ?_
      refine e_eq (f_Stacks_height_work.eq_1 _ _) ?_
      refine e_f q1 ?_
      refine e_f (d_nle (rgl (4) 4 4 rfl) f5 rfl) ?_
      refine e_grd (inb_g f5 rfl) ?_
      refine e_someG (fun w6 hw6 => ?_)
      exact e_some ⟨hW, hF, trivial⟩
    · exact e_some ⟨hW, hF, trivial⟩
theorem t_Stacks_shift_work {a1 a2 a3 : Int32} {S : SS} (hW : WR S) : Ew (f_Stacks_shift_work a1 a2 a3 S) (fun U => WR U ∧ Fr [126, 127] [] S U) := by
  have hF : Fr [126, 127] [] S S := Fr.rf
  have none0 : Ew (f_Stacks_shift_work_j18 a1 a2 a3 S) (fun U => WR U ∧ Fr [126, 127] [] S U) := by
    refine v_eq (f_Stacks_shift_work_j18.eq_1 _ _ _ _) ?_
    refine v_eq (f_Stacks_shift_work_j19.eq_1 _ _ _ _ _) ?_
    exact v_t rfl (v_some ⟨hW, hF⟩)
  refine v_eq (f_Stacks_shift_work.eq_1 _ _ _ _) ?_
  refine v_i (fun _ => none0) (fun q1 => ?_)
  refine v_i (fun _ => none0) (fun q2 => ?_)
  refine v_i (fun _ => none0) (fun q3 => ?_)
  refine v_eq (f_Stacks_shift_work_j19.eq_1 _ _ _ _ _) ?_
  refine v_f (by decide) ?_
  refine v_i (fun _ => v_some ⟨hW, hF⟩) (fun q4 => ?_)
  have h2 : rg a2 0 3 := (nle_r 3 (rgl 4 4 4 rfl) (nlt_l (rgt a2) (rgl 0 0 0 rfl) q1) q2 rfl).sub rfl
  have h3 := nlt_l (rgt a3) (rgl 1 1 1 rfl) q4
  refine v_bnd ?_
  refine e_eq (f_Stacks_height_work.eq_1 _ _) ?_
  refine e_i (fun q5 => ?_) (fun q5 => ?_)
  · refine e_some ?_
    refine v_t (d_lt (rgl 0 0 0 rfl) h3 rfl) ?_
    exact v_some ⟨hW, hF⟩
  · refine e_i (fun q6 => ?_) (fun q6 => ?_)
    · refine e_some ?_
      refine v_t (d_lt (rgl 0 0 0 rfl) h3 rfl) ?_
      exact v_some ⟨hW, hF⟩
    · have h1 : rg a1 0 3 := (nle_r 3 (rgl 4 4 4 rfl) (nlt_l (rgt a1) (rgl 0 0 0 rfl) q5) q6 rfl).sub rfl
      refine e_grd (inb_g h1 rfl) ?_
      refine e_some ?_
      refine v_i (fun _ => v_some ⟨hW, hF⟩) (fun q7 => ?_)
      refine v_grd (inb_g h2 rfl) ?_
      refine v_i (fun q8 => ?_) (fun _ => v_some ⟨hW, hF⟩)
      have r1 := ro_127 hW a1.toNatClampNeg
      have r2 := ro_127 hW a2.toNatClampNeg
      have a1l := h1.1; have a1u := h1.2; have a2l := h2.1; have a2u := h2.2; have a3l := h3.1
      have b1 := r1.1; have b2 := r1.2; have c1 := r2.1; have c2 := r2.2
      rw [Int32.lt_iff_toInt_lt] at q7
      have t10 : (10 : Int32).toInt = 10 := by decide
      rw [Int32.le_iff_toInt_le, Int32.toInt_sub, t10, bm (by omega) (by omega)] at q8
      refine v_grd (inb_g h1 rfl) ?_
      refine v_grd (inb_g h1 rfl) ?_
      refine v_wrA (fun T e g v => ?_)
      have k1 : rg (S.1 127 a1.toNatClampNeg - a3) 0 10 := by
        unfold rg
        rw [Int32.toInt_sub, bm (by omega) (by omega)]
        omega
      have hW1 := wo_127 hW k1 e
      have hF1 := hF.tr g rfl
      have e2 : T.1 127 a2.toNatClampNeg = S.1 127 a2.toNatClampNeg := st_ix e (Ne.symm q3) h1 h2 rfl
      refine v_grd (inb_g h1 rfl) ?_
      refine v_grd (inb_g h2 rfl) ?_
      have w1 : ((10 : Int32) * a1 + T.1 127 a1.toNatClampNeg).toInt = 10 * a1.toInt + ((S.1 127 a1.toNatClampNeg).toInt - a3.toInt) := by
        rw [v, Int32.toInt_add, Int32.toInt_mul, Int32.toInt_sub, t10, bm (z := 10 * a1.toInt) (by omega) (by omega), bm (z := (S.1 127 a1.toNatClampNeg).toInt - a3.toInt) (by omega) (by omega), bm (by omega) (by omega)]
      have w2 : ((10 : Int32) * a2 + T.1 127 a2.toNatClampNeg).toInt = 10 * a2.toInt + (S.1 127 a2.toNatClampNeg).toInt := by
        rw [e2, Int32.toInt_add, Int32.toInt_mul, t10, bm (z := 10 * a2.toInt) (by omega) (by omega), bm (by omega) (by omega)]
      have cs := clamp_toInt (x := (10 : Int32) * a1 + T.1 127 a1.toNatClampNeg) (by omega)
      have cd := clamp_toInt (x := (10 : Int32) * a2 + T.1 127 a2.toNatClampNeg) (by omega)
      have cn3 := clamp_toInt (x := a3) (by omega)
      have n1 : ¬ (10 : Int32) * a1 + T.1 127 a1.toNatClampNeg < 0 := by rw [Int32.lt_iff_toInt_lt, Int32.toInt_zero]; omega
      have n2' : ¬ (10 : Int32) * a2 + T.1 127 a2.toNatClampNeg < 0 := by rw [Int32.lt_iff_toInt_lt, Int32.toInt_zero]; omega
      have n3 : ¬ a3 < 0 := by rw [Int32.lt_iff_toInt_lt, Int32.toInt_zero]; omega
      refine v_grd ?_ ?_
      · simp only [cpok, n1, n2', n3, decide_false, Bool.not_false, Bool.true_and, Bool.and_eq_true, decide_eq_true_eq]
        omega
      · refine v_cpw ?_
        have hW2 := wr_cp (k0 := 126) (k1 := 126) (sp := ((10 : Int32) * a1 + T.1 127 a1.toNatClampNeg).toNatClampNeg) (dp := ((10 : Int32) * a2 + T.1 127 a2.toNatClampNeg).toNatClampNeg) (n := a3.toNatClampNeg) hW1 (fun _ _ => trivial) (fun _ => rfl)
        have g2 := fr_cp (S := T) (k0 := 126) (k1 := 126) (sp := ((10 : Int32) * a1 + T.1 127 a1.toNatClampNeg).toNatClampNeg) (dp := ((10 : Int32) * a2 + T.1 127 a2.toNatClampNeg).toNatClampNeg) (n := a3.toNatClampNeg)
        generalize cp T 126 126 ((10 : Int32) * a1 + T.1 127 a1.toNatClampNeg).toNatClampNeg ((10 : Int32) * a2 + T.1 127 a2.toNatClampNeg).toNatClampNeg a3.toNatClampNeg = Y at hW2 g2 ⊢
        refine v_grd (inb_g h2 rfl) ?_
        refine v_grd (inb_g h2 rfl) ?_
        refine v_wrA (fun U eU gU vU => ?_)
        have k2 : rg (Y.1 127 a2.toNatClampNeg + a3) 0 10 := by
          rw [g2.1 127 _ rfl, e2]
          unfold rg
          rw [Int32.toInt_add, bm (by omega) (by omega)]
          omega
        have hW3 := wo_127 hW2 k2 eU
        exact v_some ⟨hW3, (hF1.tr g2 rfl).tr gU rfl⟩
set_option maxRecDepth 20000 in
set_option maxHeartbeats 4000000 in
theorem t_Plans_leadsToGoal_L13 {S0 : SS} : ∀ (n : Nat) (x1 : Int32) (S : SS), WR S → Fr [126, 127] [] S0 S → rg x1 0 128 → 128 - x1.toInt < (n : Int) → Ex2 (f_Plans_leadsToGoal_L13 n x1 S) (fun r U => WR U ∧ Fr [126, 127] [] S0 U ∧ rg r 0 1) := by
  intro n
  induction n with
  | zero =>
    intro x1 S hW hF h0 hm
    exact up_0 h0 hm rfl
  | succ n ih =>
    intro x1 S hW hF h0 hm
    refine e_eq (f_Plans_leadsToGoal_L13.eq_2 _ _ _) ?_
    refine e_i (fun q1 => ?_) (fun q1 => ?_)
    · refine e_cE (t_Stacks_isLike_work_goal hW) (fun u2 T2 p2 => ?_)
      obtain ⟨-, hT2, hr2⟩ := p2
      have eT2 := (fr_nil hT2).symm
      subst eT2
      refine e_grd (isB_g hr2 rfl) ?_
      exact e_some ⟨hW, hF, hr2⟩
    · have f4 := nle_r 127 (ro_70_7 hW) h0 q1 rfl
      refine e_cE (t_Plans_moveAt hW) (fun u5 T5 p5 => ?_)
      obtain ⟨-, hT5, hr5⟩ := p5
      have eT5 := (fr_nil hT5).symm
      subst eT5
      refine e_cE (t_Plans_moveAt hW) (fun u6 T6 p6 => ?_)
      obtain ⟨-, hT6, hr6⟩ := p6
      have eT6 := (fr_nil hT6).symm
      subst eT6
      refine e_cE (t_Plans_moveAt hW) (fun u7 T7 p7 => ?_)
      obtain ⟨-, hT7, hr7⟩ := p7
      have eT7 := (fr_nil hT7).symm
      subst eT7
      refine e_bnd ?_
      refine e_eq (f_Stacks_height_work.eq_1 _ _) ?_
      refine e_i (fun q8 => ?_) (fun q8 => ?_)
      · refine e_some ?_
        refine e_i (fun q10 => ?_) (fun q10 => ?_)
        · exact e_some ⟨hW, hF, ((rgl (0) 0 0 rfl).sub rfl)⟩
        · refine e_cE (t_Plans_roomLeft hW) (fun u13 T13 p13 => ?_)
          obtain ⟨-, hT13, hr13⟩ := p13
          have eT13 := (fr_nil hT13).symm
          subst eT13
          refine e_i (fun q14 => ?_) (fun q14 => ?_)
          · refine e_cV (t_Stacks_shift_work hW) (fun T15 p15 => ?_)
            obtain ⟨hW15, hT15⟩ := p15
            have hF15 := hF.tr hT15 rfl
            refine e_nmG (fun w17 hw17 => ?_)
            have f18 := rg_tr (rg_add 1 128 f4 (rgl (1) 1 1 rfl) rfl) hw17
            exact ih _ _ hW15 hF15 (f18.sub rfl) (up_s f4 hw17 hm rfl)
          · exact e_some ⟨hW, hF, ((rgl (0) 0 0 rfl).sub rfl)⟩
      · have f21 := nlt_l (rgt _) (rgl 0 0 0 rfl) q8
        refine e_i (fun q22 => ?_) (fun q22 => ?_)
        · refine e_some ?_
          refine e_i (fun q24 => ?_) (fun q24 => ?_)
          · exact e_some ⟨hW, hF, ((rgl (0) 0 0 rfl).sub rfl)⟩
          · refine e_cE (t_Plans_roomLeft hW) (fun u27 T27 p27 => ?_)
            obtain ⟨-, hT27, hr27⟩ := p27
            have eT27 := (fr_nil hT27).symm
            subst eT27
            refine e_i (fun q28 => ?_) (fun q28 => ?_)
            · refine e_cV (t_Stacks_shift_work hW) (fun T29 p29 => ?_)
              obtain ⟨hW29, hT29⟩ := p29
              have hF29 := hF.tr hT29 rfl
              refine e_nmG (fun w31 hw31 => ?_)
              have f32 := rg_tr (rg_add 1 128 f4 (rgl (1) 1 1 rfl) rfl) hw31
              exact ih _ _ hW29 hF29 (f32.sub rfl) (up_s f4 hw31 hm rfl)
            · exact e_some ⟨hW, hF, ((rgl (0) 0 0 rfl).sub rfl)⟩
        · have f35 := nle_r 3 (rgl (4) 4 4 rfl) f21 q22 rfl
          refine e_grd (inb_g f35 rfl) ?_
          refine e_someG (fun w36 hw36 => ?_)
          refine e_i (fun q38 => ?_) (fun q38 => ?_)
          · exact e_some ⟨hW, hF, ((rgl (0) 0 0 rfl).sub rfl)⟩
          · refine e_cE (t_Plans_roomLeft hW) (fun u41 T41 p41 => ?_)
            obtain ⟨-, hT41, hr41⟩ := p41
            have eT41 := (fr_nil hT41).symm
            subst eT41
            refine e_i (fun q42 => ?_) (fun q42 => ?_)
            · refine e_cV (t_Stacks_shift_work hW) (fun T43 p43 => ?_)
              obtain ⟨hW43, hT43⟩ := p43
              have hF43 := hF.tr hT43 rfl
              refine e_nmG (fun w45 hw45 => ?_)
              have f46 := rg_tr (rg_add 1 128 f4 (rgl (1) 1 1 rfl) rfl) hw45
              exact ih _ _ hW43 hF43 (f46.sub rfl) (up_s f4 hw45 hm rfl)
            · exact e_some ⟨hW, hF, ((rgl (0) 0 0 rfl).sub rfl)⟩
set_option maxRecDepth 20000 in
set_option maxHeartbeats 4000000 in
theorem t_Plans_leadsToGoal {S : SS} (hW : WR S) : Ex2 (f_Plans_leadsToGoal  S) (fun r U => WR U ∧ Fr [126, 127] [] S U ∧ rg r 0 1) := by
  have hF : Fr [126, 127] [] S S := Fr.rf
  refine e_eq (f_Plans_leadsToGoal.eq_1 _) ?_
  refine e_cV (t_Stacks_become_work_start hW) (fun T1 p1 => ?_)
  obtain ⟨hW1, hT1⟩ := p1
  have hF1 := hF.tr hT1 rfl
  exact t_Plans_leadsToGoal_L13  NF _ _ hW1 hF1 ((rgl (0) 0 0 rfl).sub rfl) (up_n (rgl (0) 0 0 rfl) rfl)
theorem RO.sws {S : SS} {b : Nat} (h : RO S) (hb : b < 8) : RO (sws S 79 (kb + b)) := by
  have hk : kb = 81 := rfl
  intro k i
  show ok k i ((if k = 79 then S.1 (kb + b) else if k = kb + b then S.1 79 else S.1 k) i)
  by_cases e : k = 79
  · rw [if_pos e, e]
    have := h (kb + b) i
    rw [ok_kb hb] at this
    exact this
  · rw [if_neg e]
    by_cases e2 : k = kb + b
    · rw [if_pos e2, e2, ok_kb hb]
      exact h 79 i
    · rw [if_neg e2]; exact h k i
theorem fr_sws {S : SS} {b : Nat} (hb : b < 8) : Fr [79, 81, 82, 83, 84, 85, 86, 87, 88] [] S (sws S 79 (kb + b)) := by
  refine ⟨fun a c q => ?_, rfl⟩
  show (if a = 79 then S.1 (kb + b) else if a = kb + b then S.1 79 else S.1 a) c = _
  have n1 : ¬ a = 79 := fun e => by subst e; cases q
  have n2' : ¬ a = kb + b := fun e => by
    subst e
    rcases (show b = 0 ∨ b = 1 ∨ b = 2 ∨ b = 3 ∨ b = 4 ∨ b = 5 ∨ b = 6 ∨ b = 7 by omega) with rfl | rfl | rfl | rfl | rfl | rfl | rfl | rfl <;> cases q
  rw [if_neg n1, if_neg n2']
/-- the class's exchange: the border lies within -/
theorem x_exch {S : SS} (hR : RO S) : Ew (f_History_exchange S) (fun U => RO U ∧ Fr [79, 81, 82, 83, 84, 85, 86, 87, 88] [] S U) := by
  have h3 : rg (S.1 64 3) 0 7 := hR 64 3
  have h6 : rg (S.1 64 6) 0 8 := hR 64 6
  refine v_eq (f_History_exchange.eq_1 _) ?_
  refine v_nmG (fun b hb => ?_)
  have hb := rg_tr (rg_rem 7 8 (rg_add 0 15 h3 h6 rfl) (y := 8) (by decide) rfl) hb
  have hb8 : b.toNatClampNeg < 8 := inb_lt (inb_g (n := 8) hb rfl)
  refine v_grd (inb_g hb rfl) ?_
  exact v_some ⟨hR.sws hb8, fr_sws hb8⟩
theorem t_Yard_undo {S : SS} (hW : WR S) : Ex2 (f_Yard_undo S) (fun r U => WR U ∧ Fr [79, 81, 82, 83, 84, 85, 86, 87, 88] [(64, 6), (64, 7)] S U ∧ True) := by
  have hF : Fr [79, 81, 82, 83, 84, 85, 86, 87, 88] [(64, 6), (64, 7)] S S := Fr.rf
  have h6 := ro_64_6 hW
  have h7 := ro_64_7 hW
  have hJ := hW.2.2
  unfold J2 at hJ
  refine e_eq (f_Yard_undo.eq_1 _) ?_
  refine e_bnd ?_
  refine e_eq (f_History_goBack.eq_1 _) ?_
  refine e_i (fun q => ?_) (fun q => ?_)
  · refine e_some ?_
    refine e_t rfl ?_
    exact e_some ⟨hW, hF, trivial⟩
  · have k6 := ne_l 1 h6 (rgl 0 0 0 rfl) q rfl
    have a1 := k6.1; have a2 := k6.2; have b1 := h7.1; have b2 := h7.2
    refine e_wrO (fun T1 e1 g1 v1 => ?_)
    have R1 := RO.st (k := 64) (i := 6) hW.1 ((rg_sb 0 7 k6 (rgl 1 1 1 rfl) rfl).sub rfl) e1
    refine e_wrO (fun T2 e2 g2 v2 => ?_)
    have k7 : rg (T1.1 64 7) 0 7 := by rw [g1.1 64 7 rfl]; exact ⟨b1, by omega⟩
    have R2 := RO.st (k := 64) (i := 7) R1 ((rg_add 1 8 k7 (rgl 1 1 1 rfl) rfl).sub rfl) e2
    refine e_cV (x_exch R2) (fun U p => ?_)
    obtain ⟨RU, gU⟩ := p
    refine e_some ?_
    refine e_f (by decide) ?_
    have fU := ((hF.tr g1 rfl).tr g2 rfl).tr gU rfl
    refine e_some ⟨⟨RU, hW.2.1.of (fun b => fU.1 23 b rfl) (fun b => fU.1 40 b rfl) (fU.1 0 29 rfl) (fU.1 0 60 rfl) (fU.1 0 61 rfl), ?_⟩, fU, trivial⟩
    have e1 : (1 : Int32).toInt = 1 := by decide
    unfold J2
    rw [gU.1 64 6 rfl, gU.1 64 7 rfl, v2, g2.1 64 6 rfl, v1, g1.1 64 7 rfl, Int32.toInt_sub, Int32.toInt_add, e1, bm (by omega) (by omega), bm (by omega) (by omega)]
    omega
theorem t_Yard_back {S : SS} (hW : WR S) : Ex2 (f_Yard_back S) (fun r U => WR U ∧ Fr [79, 81, 82, 83, 84, 85, 86, 87, 88] [(64, 6), (64, 7)] S U ∧ True) := by
  have hF : Fr [79, 81, 82, 83, 84, 85, 86, 87, 88] [(64, 6), (64, 7)] S S := Fr.rf
  have h6 := ro_64_6 hW
  have h7 := ro_64_7 hW
  have hJ := hW.2.2
  unfold J2 at hJ
  refine e_eq (f_Yard_back.eq_1 _) ?_
  refine e_bnd ?_
  refine e_eq (f_History_goOn.eq_1 _) ?_
  refine e_i (fun q => ?_) (fun q => ?_)
  · refine e_some ?_
    refine e_t rfl ?_
    exact e_some ⟨hW, hF, trivial⟩
  · have k7 := ne_l 1 h7 (rgl 0 0 0 rfl) q rfl
    have a1 := h6.1; have a2 := h6.2; have b1 := k7.1; have b2 := k7.2
    refine e_cV (x_exch hW.1) (fun T0 p => ?_)
    obtain ⟨R0, g0⟩ := p
    refine e_wrO (fun T1 e1 g1 v1 => ?_)
    have l7 : rg (T0.1 64 7) 1 8 := rg_tr k7 (g0.1 64 7 rfl)
    have R1 := RO.st (k := 64) (i := 7) R0 ((rg_sb 0 7 l7 (rgl 1 1 1 rfl) rfl).sub rfl) e1
    refine e_wrO (fun U e2 g2 v2 => ?_)
    have l6 : rg (T1.1 64 6) 0 7 := by rw [g1.1 64 6 rfl, g0.1 64 6 rfl]; exact ⟨a1, by omega⟩
    have RU := RO.st (k := 64) (i := 6) R1 ((rg_add 1 8 l6 (rgl 1 1 1 rfl) rfl).sub rfl) e2
    refine e_some ?_
    refine e_f (by decide) ?_
    have fU := ((hF.tr g0 rfl).tr g1 rfl).tr g2 rfl
    refine e_some ⟨⟨RU, hW.2.1.of (fun b => fU.1 23 b rfl) (fun b => fU.1 40 b rfl) (fU.1 0 29 rfl) (fU.1 0 60 rfl) (fU.1 0 61 rfl), ?_⟩, fU, trivial⟩
    have e1 : (1 : Int32).toInt = 1 := by decide
    unfold J2
    rw [v2, g2.1 64 7 rfl, v1, g1.1 64 6 rfl, g0.1 64 6 rfl, g0.1 64 7 rfl, Int32.toInt_sub, Int32.toInt_add, e1, bm (by omega) (by omega), bm (by omega) (by omega)]
    omega
set_option maxRecDepth 20000 in
set_option maxHeartbeats 4000000 in
theorem t_Plans_isSmall {S : SS} (hW : WR S) : Ex2 (f_Plans_isSmall  S) (fun r U => WR U ∧ Fr [] [] S U ∧ rg r 0 1) := by
  have hF : Fr [] [] S S := Fr.rf
  refine e_eq (f_Plans_isSmall.eq_1 _) ?_
  refine e_cE (t_Stacks_members_start hW) (fun u1 T1 p1 => ?_)
  obtain ⟨-, hT1, hr1⟩ := p1
  have eT1 := (fr_nil hT1).symm
  subst eT1
  refine e_cE (t_Integer_bitCount_0f7a4 hW) (fun u2 T2 p2 => ?_)
  obtain ⟨-, hT2, hr2⟩ := p2
  have eT2 := (fr_nil hT2).symm
  subst eT2
  refine e_i (fun q3 => ?_) (fun q3 => ?_)
  · exact e_some ⟨hW, hF, ((rgl (0) 0 0 rfl).sub rfl)⟩
  · exact e_some ⟨hW, hF, ((rgl (1) 1 1 rfl).sub rfl)⟩
set_option maxRecDepth 20000 in
set_option maxHeartbeats 4000000 in
theorem t_Plans_roomiest_L6 {S0 : SS} : ∀ (n : Nat) (x1 : Int32) (x2 : Int32) (x3 : Int32) (x4 : Int32) (S : SS), WR S → Fr [] [] S0 S → rg x4 0 4 → 4 - x4.toInt < (n : Int) → Ex2 (f_Plans_roomiest_L6 n x1 x2 x3 x4 S) (fun r U => WR U ∧ Fr [] [] S0 U ∧ True) := by
  intro n
  induction n with
  | zero =>
    intro x1 x2 x3 x4 S hW hF h3 hm
    exact up_0 h3 hm rfl
  | succ n ih =>
    intro x1 x2 x3 x4 S hW hF h3 hm
    refine e_eq (f_Plans_roomiest_L6.eq_2 _ _ _ _ _ _) ?_
    refine e_i (fun q1 => ?_) (fun q1 => ?_)
    · exact e_some ⟨hW, hF, trivial⟩
    · have f3 := nle_r 3 (rgl (4) 4 4 rfl) h3 q1 rfl
      refine e_i (fun q4 => ?_) (fun q4 => ?_)
      · refine e_eq (f_Plans_roomiest_j41.eq_1 _ _ _ _ _ _) ?_
        refine e_nmG (fun w6 hw6 => ?_)
        have f7 := rg_tr (rg_add 1 4 f3 (rgl (1) 1 1 rfl) rfl) hw6
        exact ih _ _ _ _ _ hW hF (f7.sub rfl) (up_s f3 hw6 hm rfl)
      · refine e_i (fun q8 => ?_) (fun q8 => ?_)
        · refine e_eq (f_Plans_roomiest_j41.eq_1 _ _ _ _ _ _) ?_
          refine e_nmG (fun w10 hw10 => ?_)
          have f11 := rg_tr (rg_add 1 4 f3 (rgl (1) 1 1 rfl) rfl) hw10
          exact ih _ _ _ _ _ hW hF (f11.sub rfl) (up_s f3 hw10 hm rfl)
        · refine e_cE (t_Plans_roomLeft hW) (fun u12 T12 p12 => ?_)
          obtain ⟨-, hT12, hr12⟩ := p12
          have eT12 := (fr_nil hT12).symm
          subst eT12
          refine e_cE (t_Plans_roomLeft hW) (fun u13 T13 p13 => ?_)
          obtain ⟨-, hT13, hr13⟩ := p13
          have eT13 := (fr_nil hT13).symm
          subst eT13
          refine e_i (fun q14 => ?_) (fun q14 => ?_)
          · refine e_eq (f_Plans_roomiest_j41.eq_1 _ _ _ _ _ _) ?_
            refine e_nmG (fun w15 hw15 => ?_)
            have f16 := rg_tr (rg_add 1 4 f3 (rgl (1) 1 1 rfl) rfl) hw15
            exact ih _ _ _ _ _ hW hF (f16.sub rfl) (up_s f3 hw15 hm rfl)
          · refine e_eq (f_Plans_roomiest_j41.eq_1 _ _ _ _ _ _) ?_
            refine e_nmG (fun w19 hw19 => ?_)
            have f20 := rg_tr (rg_add 1 4 f3 (rgl (1) 1 1 rfl) rfl) hw19
            exact ih _ _ _ _ _ hW hF (f20.sub rfl) (up_s f3 hw19 hm rfl)
set_option maxRecDepth 20000 in
set_option maxHeartbeats 4000000 in
theorem t_Plans_roomiest {a1 : Int32} {a2 : Int32} {S : SS} (hW : WR S) : Ex2 (f_Plans_roomiest a1 a2 S) (fun r U => WR U ∧ Fr [] [] S U ∧ True) := by
  have hF : Fr [] [] S S := Fr.rf
  refine e_eq (f_Plans_roomiest.eq_1 _ _ _) ?_
  exact t_Plans_roomiest_L6  NF _ _ _ _ _ hW hF ((rgl (0) 0 0 rfl).sub rfl) (up_n (rgl (0) 0 0 rfl) rfl)
set_option maxRecDepth 20000 in
set_option maxHeartbeats 4000000 in
theorem t_Plans_moveOne {a1 : Int32} {a2 : Int32} {S : SS} (hW : WR S) : Ex2 (f_Plans_moveOne a1 a2 S) (fun r U => WR U ∧ Fr [107, 126, 127] [(70, 7)] S U ∧ rg r 0 1) := by
  have hF : Fr [107, 126, 127] [(70, 7)] S S := Fr.rf
  refine e_eq (f_Plans_moveOne.eq_1 _ _ _) ?_
  refine e_cE (t_Plans_roomLeft hW) (fun u1 T1 p1 => ?_)
  obtain ⟨-, hT1, hr1⟩ := p1
  have eT1 := (fr_nil hT1).symm
  subst eT1
  refine e_i (fun q2 => ?_) (fun q2 => ?_)
  · exact e_some ⟨hW, hF, ((rgl (0) 0 0 rfl).sub rfl)⟩
  · refine e_i (fun q5 => ?_) (fun q5 => ?_)
    · have f6 := lt_l 127 (ro_70_7 hW) (rgl (128) 128 128 rfl) q5 rfl
      refine e_cV (t_Stacks_shift_work hW) (fun T7 p7 => ?_)
      obtain ⟨hW7, hT7⟩ := p7
      have hF7 := hF.tr hT7 rfl
      have f8 := rg_tr f6 (hT7.1 70 _ rfl)
      refine e_grd (inb_g f8 rfl) ?_
      refine e_wrA (fun T9 eT9 hT9 v9 => ?_)
      have hW9 := WR.st (k := 107) hW7 trivial rfl eT9
      have hF9 := hF7.tr hT9 rfl
      have f10 := rg_tr f8 (hT9.1 70 _ rfl)
      refine e_wrO (fun T11 eT11 hT11 v11 => ?_)
      have hW11 := wo_70_7 hW9 ((rg_add 1 128 f10 (rgl (1) 1 1 rfl) rfl).sub rfl) eT11
      have hF11 := hF9.tr hT11 rfl
      exact e_some ⟨hW11, hF11, ((rgl (1) 1 1 rfl).sub rfl)⟩
    · exact e_some ⟨hW, hF, ((rgl (0) 0 0 rfl).sub rfl)⟩
set_option maxRecDepth 20000 in
set_option maxHeartbeats 4000000 in
theorem t_Plans_lower_L12 {S0 : SS} : ∀ (n : Nat) (x1 : Int32) (x3 : Int32) (x4 : Int32) (S : SS), WR S → Fr [107, 126, 127] [(70, 7)] S0 S → rg x4 (-10) 13 → x4.toInt - (-10) < (n : Int) → Ex2 (f_Plans_lower_L12 n x1 x3 x4 S) (fun r U => WR U ∧ Fr [107, 126, 127] [(70, 7)] S0 U ∧ rg r 0 1) := by
  intro n
  induction n with
  | zero =>
    intro x1 x3 x4 S hW hF h2 hm
    exact dn_0 h2 hm rfl
  | succ n ih =>
    intro x1 x3 x4 S hW hF h2 hm
    refine e_eq (f_Plans_lower_L12.eq_2 _ _ _ _ _) ?_
    refine e_i (fun q1 => ?_) (fun q1 => ?_)
    · exact e_some ⟨hW, hF, ((rgl (1) 1 1 rfl).sub rfl)⟩
    · have f3 := nle_l 1 h2 (rgl 0 0 0 rfl) q1 rfl
      refine e_cE (t_Plans_roomiest hW) (fun u4 T4 p4 => ?_)
      obtain ⟨-, hT4, hr4⟩ := p4
      have eT4 := (fr_nil hT4).symm
      subst eT4
      refine e_cE (t_Plans_moveOne hW) (fun u5 T5 p5 => ?_)
      obtain ⟨hW5, hT5, hr5⟩ := p5
      have hF5 := hF.tr hT5 rfl
      refine e_i (fun q6 => ?_) (fun q6 => ?_)
      · exact e_some ⟨hW5, hF5, ((rgl (0) 0 0 rfl).sub rfl)⟩
      · refine e_nmG (fun w9 hw9 => ?_)
        have f10 := rg_tr (rg_add 0 12 f3 (rgl (-1) (-1) (-1) rfl) rfl) hw9
        exact ih _ _ _ _ hW5 hF5 (f10.sub rfl) (dn_sp f3 hw9 hm rfl)
set_option maxRecDepth 20000 in
set_option maxHeartbeats 4000000 in
theorem t_Plans_lower {a1 : Int32} {a2 : Int32} {a3 : Int32} {S : SS} (hW : WR S) (h1 : rg a2 (-3) 10) : Ex2 (f_Plans_lower a1 a2 a3 S) (fun r U => WR U ∧ Fr [107, 126, 127] [(70, 7)] S U ∧ rg r 0 1) := by
  have hF : Fr [107, 126, 127] [(70, 7)] S S := Fr.rf
  refine e_eq (f_Plans_lower.eq_1 _ _ _ _) ?_
  refine e_bnd ?_
  refine e_eq (f_Stacks_height_work.eq_1 _ _) ?_
  refine e_i (fun q1 => ?_) (fun q1 => ?_)
  · refine e_some ?_
    refine e_nmG (fun w3 hw3 => ?_)
    have f4 := rg_tr (rg_sb (-10) 3 (rgl (0) 0 0 rfl) h1 rfl) hw3
    exact t_Plans_lower_L12  NF _ _ _ _ hW hF (f4.sub rfl) (dn_n f4 rfl)
  · have f5 := nlt_l (rgt _) (rgl 0 0 0 rfl) q1
    refine e_i (fun q6 => ?_) (fun q6 => ?_)
    · refine e_some ?_
      refine e_nmG (fun w8 hw8 => ?_)
      have f9 := rg_tr (rg_sb (-10) 3 (rgl (0) 0 0 rfl) h1 rfl) hw8
      exact t_Plans_lower_L12  NF _ _ _ _ hW hF (f9.sub rfl) (dn_n f9 rfl)
    · have f10 := nle_r 3 (rgl (4) 4 4 rfl) f5 q6 rfl
      refine e_grd (inb_g f10 rfl) ?_
      refine e_someG (fun w11 hw11 => ?_)
      have f12 := rg_tr (ro_127 hW _) hw11
      refine e_nmG (fun w13 hw13 => ?_)
      have f14 := rg_tr (rg_sb (-10) 13 f12 h1 rfl) hw13
      exact t_Plans_lower_L12  NF _ _ _ _ hW hF f14 (dn_n f14 rfl)
set_option maxRecDepth 20000 in
set_option maxHeartbeats 4000000 in
theorem t_Stacks_placeOn_work_L2 {S0 : SS} : ∀ (n : Nat) (x1 : Int32) (x2 : Int32) (x3 : Int32) (S : SS), WR S → Fr [] [] S0 S → rg x3 0 10 → 10 - x3.toInt < (n : Int) → Ex2 (f_Stacks_placeOn_work_L2 n x1 x2 x3 S) (fun r U => WR U ∧ Fr [] [] S0 U ∧ rn r 0 9) := by
  intro n
  induction n with
  | zero =>
    intro x1 x2 x3 S hW hF h2 hm
    exact up_0 h2 hm rfl
  | succ n ih =>
    intro x1 x2 x3 S hW hF h2 hm
    refine e_eq (f_Stacks_placeOn_work_L2.eq_2 _ _ _ _ _) ?_
    refine e_bnd ?_
    refine e_eq (f_Stacks_height_work.eq_1 _ _) ?_
    refine e_i (fun q1 => ?_) (fun q1 => ?_)
    · refine e_some ?_
      refine e_t (d_le (rgl (0) 0 0 rfl) h2 rfl) ?_
      exact e_some ⟨hW, hF, (rn4 (d_eq (rgl (-4) (-4) (-4) rfl) (rgl (-4) (-4) (-4) rfl) rfl))⟩
    · have f3 := nlt_l (rgt _) (rgl 0 0 0 rfl) q1
      refine e_i (fun q4 => ?_) (fun q4 => ?_)
      · refine e_some ?_
        refine e_t (d_le (rgl (0) 0 0 rfl) h2 rfl) ?_
        exact e_some ⟨hW, hF, (rn4 (d_eq (rgl (-4) (-4) (-4) rfl) (rgl (-4) (-4) (-4) rfl) rfl))⟩
      · have f6 := nle_r 3 (rgl (4) 4 4 rfl) f3 q4 rfl
        refine e_grd (inb_g f6 rfl) ?_
        refine e_someG (fun w7 hw7 => ?_)
        have f8 := rg_tr (ro_127 hW _) hw7
        refine e_i (fun q9 => ?_) (fun q9 => ?_)
        · exact e_some ⟨hW, hF, (rn4 (d_eq (rgl (-4) (-4) (-4) rfl) (rgl (-4) (-4) (-4) rfl) rfl))⟩
        · have f12 := nle_r 9 f8 h2 q9 rfl
          refine e_cE (t_Stacks_wagonAt_work hW) (fun u13 T13 p13 => ?_)
          obtain ⟨-, hT13, hr13⟩ := p13
          have eT13 := (fr_nil hT13).symm
          subst eT13
          refine e_i (fun q14 => ?_) (fun q14 => ?_)
          · exact e_some ⟨hW, hF, (rg.toN (f12.sub rfl))⟩
          · refine e_nmG (fun w15 hw15 => ?_)
            have f16 := rg_tr (rg_add 1 10 f12 (rgl (1) 1 1 rfl) rfl) hw15
            exact ih _ _ _ _ hW hF (f16.sub rfl) (up_s f12 hw15 hm rfl)
set_option maxRecDepth 20000 in
set_option maxHeartbeats 4000000 in
theorem t_Stacks_placeOn_work {a1 : Int32} {a2 : Int32} {S : SS} (hW : WR S) : Ex2 (f_Stacks_placeOn_work a1 a2 S) (fun r U => WR U ∧ Fr [] [] S U ∧ rn r 0 9) := by
  have hF : Fr [] [] S S := Fr.rf
  refine e_eq (f_Stacks_placeOn_work.eq_1 _ _ _) ?_
  exact t_Stacks_placeOn_work_L2  NF _ _ _ _ hW hF ((rgl (0) 0 0 rfl).sub rfl) (up_n (rgl (0) 0 0 rfl) rfl)
set_option maxRecDepth 20000 in
set_option maxHeartbeats 4000000 in
theorem t_Stacks_stackOf_work_L2 {S0 : SS} : ∀ (n : Nat) (x1 : Int32) (x2 : Int32) (S : SS), WR S → Fr [] [] S0 S → rg x2 0 4 → 4 - x2.toInt < (n : Int) → Ex2 (f_Stacks_stackOf_work_L2 n x1 x2 S) (fun r U => WR U ∧ Fr [] [] S0 U ∧ rn r 0 3) := by
  intro n
  induction n with
  | zero =>
    intro x1 x2 S hW hF h1 hm
    exact up_0 h1 hm rfl
  | succ n ih =>
    intro x1 x2 S hW hF h1 hm
    refine e_eq (f_Stacks_stackOf_work_L2.eq_2 _ _ _ _) ?_
    refine e_i (fun q1 => ?_) (fun q1 => ?_)
    · exact e_some ⟨hW, hF, (rn4 (d_eq (rgl (-4) (-4) (-4) rfl) (rgl (-4) (-4) (-4) rfl) rfl))⟩
    · have f3 := nle_r 3 (rgl (4) 4 4 rfl) h1 q1 rfl
      refine e_cE (t_Stacks_placeOn_work hW) (fun u4 T4 p4 => ?_)
      obtain ⟨-, hT4, hr4⟩ := p4
      have eT4 := (fr_nil hT4).symm
      subst eT4
      refine e_i (fun q5 => ?_) (fun q5 => ?_)
      · refine e_nmG (fun w7 hw7 => ?_)
        have f8 := rg_tr (rg_add 1 4 f3 (rgl (1) 1 1 rfl) rfl) hw7
        exact ih _ _ _ hW hF (f8.sub rfl) (up_s f3 hw7 hm rfl)
      · exact e_some ⟨hW, hF, (rg.toN (f3.sub rfl))⟩
set_option maxRecDepth 20000 in
set_option maxHeartbeats 4000000 in
theorem t_Stacks_stackOf_work {a1 : Int32} {S : SS} (hW : WR S) : Ex2 (f_Stacks_stackOf_work a1 S) (fun r U => WR U ∧ Fr [] [] S U ∧ rn r 0 3) := by
  have hF : Fr [] [] S S := Fr.rf
  refine e_eq (f_Stacks_stackOf_work.eq_1 _ _) ?_
  exact t_Stacks_stackOf_work_L2  NF _ _ _ hW hF ((rgl (0) 0 0 rfl).sub rfl) (up_n (rgl (0) 0 0 rfl) rfl)
set_option maxRecDepth 20000 in
set_option maxHeartbeats 4000000 in
theorem t_Plans_bring {a1 : Int32} {a2 : Int32} {a3 : Int32} {S : SS} (hW : WR S) (h2 : rg a3 0 10) : Ex2 (f_Plans_bring a1 a2 a3 S) (fun r U => WR U ∧ Fr [107, 126, 127] [(70, 7)] S U ∧ rg r 0 1) := by
  have hF : Fr [107, 126, 127] [(70, 7)] S S := Fr.rf
  refine e_eq (f_Plans_bring.eq_1 _ _ _ _) ?_
  refine e_cE (t_Stacks_wagonAt_work hW) (fun u1 T1 p1 => ?_)
  obtain ⟨-, hT1, hr1⟩ := p1
  have eT1 := (fr_nil hT1).symm
  subst eT1
  refine e_i (fun q2 => ?_) (fun q2 => ?_)
  · exact e_some ⟨hW, hF, ((rgl (1) 1 1 rfl).sub rfl)⟩
  · refine e_cE (t_Plans_lower hW (h2.sub rfl)) (fun u3 T3 p3 => ?_)
    obtain ⟨hW3, hT3, hr3⟩ := p3
    have hF3 := hF.tr hT3 rfl
    refine e_i (fun q4 => ?_) (fun q4 => ?_)
    · exact e_some ⟨hW3, hF3, ((rgl (0) 0 0 rfl).sub rfl)⟩
    · refine e_cE (t_Stacks_stackOf_work hW3) (fun u7 T7 p7 => ?_)
      obtain ⟨-, hT7, hr7⟩ := p7
      have eT7 := (fr_nil hT7).symm
      subst eT7
      refine e_cE (t_Stacks_placeOn_work hW3) (fun u8 T8 p8 => ?_)
      obtain ⟨-, hT8, hr8⟩ := p8
      have eT8 := (fr_nil hT8).symm
      subst eT8
      refine e_cE (t_Plans_lower hW3 (rg_add (-3) 10 (rn.toR hr8 rfl : rg _ (-4) 9) (rgl (1) 1 1 rfl) rfl)) (fun u9 T9 p9 => ?_)
      obtain ⟨hW9, hT9, hr9⟩ := p9
      have hF9 := hF3.tr hT9 rfl
      refine e_i (fun q10 => ?_) (fun q10 => ?_)
      · exact e_some ⟨hW9, hF9, ((rgl (0) 0 0 rfl).sub rfl)⟩
      · refine e_cE (t_Plans_moveOne hW9) (fun u13 T13 p13 => ?_)
        obtain ⟨hW13, hT13, hr13⟩ := p13
        have hF13 := hF9.tr hT13 rfl
        refine e_i (fun q14 => ?_) (fun q14 => ?_)
        · exact e_some ⟨hW13, hF13, ((rgl (0) 0 0 rfl).sub rfl)⟩
        · exact e_some ⟨hW13, hF13, ((rgl (1) 1 1 rfl).sub rfl)⟩
set_option maxRecDepth 20000 in
set_option maxHeartbeats 4000000 in
theorem t_Plans_makeByRule_L24 {S0 : SS} {K : Int32 → SS → Option (Int32 × SS)} {x1 : Int32} (hK : ∀ (k0 : Int32) (S' : SS), WR S' → Fr [107, 126, 127] [(70, 7), (70, 8)] S0 S' → rg k0 0 4 → k0 = x1 + 1 → Ex2 (K k0 S') (fun r U => WR U ∧ Fr [107, 126, 127] [(70, 7), (70, 8)] S0 U ∧ rn r 0 128)) : ∀ (n : Nat) (x2 : Int32) (S : SS), WR S → Fr [107, 126, 127] [(70, 7), (70, 8)] S0 S → rg x1 0 3 → rg x2 0 10 → 10 - x2.toInt < (n : Int) → Ex2 (f_Plans_makeByRule_L24 K n x1 x2 S) (fun r U => WR U ∧ Fr [107, 126, 127] [(70, 7), (70, 8)] S0 U ∧ rn r 0 128) := by
  intro n
  induction n with
  | zero =>
    intro x2 S hW hF h0 h1 hm
    exact up_0 h1 hm rfl
  | succ n ih =>
    intro x2 S hW hF h0 h1 hm
    refine e_eq (f_Plans_makeByRule_L24.eq_2 _ _ _ _ _) ?_
    refine e_bnd ?_
    refine e_eq (f_Stacks_height_goal.eq_1 _ _) ?_
    refine e_f (d_nlt h0 (rgl 0 0 0 rfl) rfl) ?_
    refine e_f (d_nle (rgl (4) 4 4 rfl) h0 rfl) ?_
    refine e_grd (inb_g h0 rfl) ?_
    refine e_someG (fun w1 hw1 => ?_)
    have f2 := rg_tr (ro_125 hW _) hw1
    refine e_i (fun q3 => ?_) (fun q3 => ?_)
    · refine e_nmG (fun w4 hw4 => ?_)
      have f5 := rg_tr (rg_add 1 4 h0 (rgl (1) 1 1 rfl) rfl) hw4
      exact hK _ _ hW hF (f5.sub rfl) hw4
    · have f8 := nle_r 9 f2 h1 q3 rfl
      refine e_cE (t_Stacks_wagonAt_goal hW) (fun u9 T9 p9 => ?_)
      obtain ⟨-, hT9, hr9⟩ := p9
      have eT9 := (fr_nil hT9).symm
      subst eT9
      refine e_cE (t_Plans_bring hW (f8.sub rfl)) (fun u10 T10 p10 => ?_)
      obtain ⟨hW10, hT10, hr10⟩ := p10
      have hF10 := hF.tr hT10 rfl
      refine e_i (fun q12 => ?_) (fun q12 => ?_)
      · refine e_cV (t_Plans_drop hW10) (fun T14 p14 => ?_)
        obtain ⟨hW14, hT14⟩ := p14
        have hF14 := hF10.tr hT14 rfl
        exact e_some ⟨hW14, hF14, (rn4 (d_eq (rgl (-4) (-4) (-4) rfl) (rgl (-4) (-4) (-4) rfl) rfl))⟩
      · refine e_nmG (fun w17 hw17 => ?_)
        have f18 := rg_tr (rg_add 1 10 f8 (rgl (1) 1 1 rfl) rfl) hw17
        exact ih _ _ hW10 hF10 h0 (f18.sub rfl) (up_s f8 hw17 hm rfl)
set_option maxRecDepth 20000 in
set_option maxHeartbeats 4000000 in
theorem t_Plans_makeByRule_L17 {S0 : SS} : ∀ (n : Nat) (x1 : Int32) (S : SS), WR S → Fr [107, 126, 127] [(70, 7), (70, 8)] S0 S → rg x1 0 4 → 4 - x1.toInt < (n : Int) → Ex2 (f_Plans_makeByRule_L17 n x1 S) (fun r U => WR U ∧ Fr [107, 126, 127] [(70, 7), (70, 8)] S0 U ∧ rn r 0 128) := by
  intro n
  induction n with
  | zero =>
    intro x1 S hW hF h0 hm
    exact up_0 h0 hm rfl
  | succ n ih =>
    intro x1 S hW hF h0 hm
    refine e_eq (f_Plans_makeByRule_L17.eq_2 _ _ _) ?_
    refine e_i (fun q1 => ?_) (fun q1 => ?_)
    · refine e_wrO (fun T3 eT3 hT3 v3 => ?_)
      have hW3 := WR.st (k := 70) (i := 8) hW trivial rfl eT3
      have hF3 := hF.tr hT3 rfl
      exact e_some ⟨hW3, hF3, (rg.toN ((ro_70_7 hW3).sub rfl))⟩
    · have f5 := nle_r 3 (rgl (4) 4 4 rfl) h0 q1 rfl
      exact t_Plans_makeByRule_L24 (fun _ S' hW' hF' hk0 ke => ih _ S' hW' hF' hk0 (up_s f5 ke hm rfl)) NF _ _ hW hF f5 ((rgl (0) 0 0 rfl).sub rfl) (up_n (rgl (0) 0 0 rfl) rfl)
set_option maxRecDepth 20000 in
set_option maxHeartbeats 4000000 in
theorem t_Plans_makeByRule {S : SS} (hW : WR S) : Ex2 (f_Plans_makeByRule  S) (fun r U => WR U ∧ Fr [107, 126, 127] [(70, 7), (70, 8)] S U ∧ rn r 0 128) := by
  have hF : Fr [107, 126, 127] [(70, 7), (70, 8)] S S := Fr.rf
  refine e_eq (f_Plans_makeByRule.eq_1 _) ?_
  refine e_cV (t_Plans_drop hW) (fun T1 p1 => ?_)
  obtain ⟨hW1, hT1⟩ := p1
  have hF1 := hF.tr hT1 rfl
  refine e_cV (t_Stacks_become_work_start hW1) (fun T2 p2 => ?_)
  obtain ⟨hW2, hT2⟩ := p2
  have hF2 := hF1.tr hT2 rfl
  exact t_Plans_makeByRule_L17  NF _ _ hW2 hF2 ((rgl (0) 0 0 rfl).sub rfl) (up_n (rgl (0) 0 0 rfl) rfl)
