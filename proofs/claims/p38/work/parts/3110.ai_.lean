set_option maxRecDepth 20000 in
set_option maxHeartbeats 4000000 in
theorem t_Yard_ask {a1 : Int32} {a2 : Int32} {S : SS} (hW : WR S) : Ex2 (f_Yard_ask a1 a2 S) (fun r U => WR U ∧ Fr [77, 78] [(62, 2), (62, 3), (62, 4), (62, 5), (62, 6)] S U ∧ True) := by
  have hF : Fr [77, 78] [(62, 2), (62, 3), (62, 4), (62, 5), (62, 6)] S S := Fr.rf
  refine e_eq (f_Yard_ask.eq_1 _ _ _) ?_
  refine e_bnd ?_
  refine e_eq (f_Yard_isNot.eq_1 _ _ _ _) ?_
  refine e_i (fun q1 => ?_) (fun q1 => ?_)
  · refine e_some ?_
    refine e_f (by decide) ?_
    exact e_some ⟨hW, hF, trivial⟩
  · refine e_i (fun q4 => ?_) (fun q4 => ?_)
    · refine e_some ?_
      refine e_t (by decide) ?_
      refine e_cV (t_Report_begin hW) (fun T6 p6 => ?_)
      obtain ⟨hW6, hT6⟩ := p6
      have hF6 := hF.tr hT6 rfl
      refine e_cE (t_Yard_wantedFor hW6) (fun u7 T7 p7 => ?_)
      obtain ⟨-, hT7, hr7⟩ := p7
      have eT7 := (fr_nil hT7).symm
      subst eT7
      refine e_bnd ?_
      refine e_eq (f_Yard_named.eq_1 _ _ _) ?_
      refine e_bnd ?_
      refine e_eq (f_Yard_isNot.eq_1 _ _ _ _) ?_
      refine e_i (fun q8 => ?_) (fun q8 => ?_)
      · refine e_some ?_
        refine e_f (by decide) ?_
        refine e_some ?_
        refine e_f (by decide) ?_
        refine e_eq (f_Yard_ask_j55.eq_1 _ _ _ _) ?_
        refine e_f (by decide) ?_
        refine e_cE (t_Report_found hW6) (fun u10 T10 p10 => ?_)
        obtain ⟨hW10, hT10, hr10⟩ := p10
        have hF10 := hF6.tr hT10 rfl
        exact e_some ⟨hW10, hF10, trivial⟩
      · refine e_i (fun q12 => ?_) (fun q12 => ?_)
        · refine e_some ?_
          refine e_t (by decide) ?_
          refine e_i (fun q14 => ?_) (fun q14 => ?_)
          · refine e_bnd ?_
            refine e_eq (f_Stock_isAs.eq_1 _ _ _) ?_
            refine e_cE (t_Stock_get hW6 ((rgl (0) 0 0 rfl).sub rfl)) (fun u16 T16 p16 => ?_)
            obtain ⟨-, hT16, hr16⟩ := p16
            have eT16 := (fr_nil hT16).symm
            subst eT16
            refine e_i (fun q17 => ?_) (fun q17 => ?_)
            · refine e_some ?_
              refine e_t (by decide) ?_
              refine e_some ?_
              refine e_f (by decide) ?_
              refine e_eq (f_Yard_ask_j55.eq_1 _ _ _ _) ?_
              refine e_f (by decide) ?_
              refine e_cE (t_Report_found hW6) (fun u19 T19 p19 => ?_)
              obtain ⟨hW19, hT19, hr19⟩ := p19
              have hF19 := hF6.tr hT19 rfl
              exact e_some ⟨hW19, hF19, trivial⟩
            · refine e_i (fun q22 => ?_) (fun q22 => ?_)
              · refine e_some ?_
                refine e_f (by decide) ?_
                refine e_bnd ?_
                refine e_eq (f_State_isThere.eq_1 _ _) ?_
                refine e_cE (t_State_get hW6 ((rgl (0) 0 0 rfl).sub rfl)) (fun u24 T24 p24 => ?_)
                obtain ⟨-, hT24, hr24⟩ := p24
                have eT24 := (fr_nil hT24).symm
                subst eT24
                refine e_i (fun q25 => ?_) (fun q25 => ?_)
                · refine e_some ?_
                  refine e_t (by decide) ?_
                  refine e_some ?_
                  refine e_f (by decide) ?_
                  refine e_eq (f_Yard_ask_j55.eq_1 _ _ _ _) ?_
                  refine e_f (by decide) ?_
                  refine e_cE (t_Report_found hW6) (fun u27 T27 p27 => ?_)
                  obtain ⟨hW27, hT27, hr27⟩ := p27
                  have hF27 := hF6.tr hT27 rfl
                  exact e_some ⟨hW27, hF27, trivial⟩
                · refine e_some ?_
                  refine e_f (by decide) ?_
                  refine e_some ?_
                  refine e_t (by decide) ?_
                  refine e_i (fun q30 => ?_) (fun q30 => ?_)
                  · have f31 := rg_tr (rgl (6) 6 6 rfl) q30
                    refine e_cE (t_Stock_get hW6 ((rgl (3) 3 3 rfl).sub rfl)) (fun u32 T32 p32 => ?_)
                    obtain ⟨-, hT32, hr32⟩ := p32
                    have eT32 := (fr_nil hT32).symm
                    subst eT32
                    refine e_i (fun q33 => ?_) (fun q33 => ?_)
                    · refine e_eq (f_Yard_ask_j55.eq_1 _ _ _ _) ?_
                      refine e_f (by decide) ?_
                      refine e_cE (t_Report_found hW6) (fun u35 T35 p35 => ?_)
                      obtain ⟨hW35, hT35, hr35⟩ := p35
                      have hF35 := hF6.tr hT35 rfl
                      exact e_some ⟨hW35, hF35, trivial⟩
                    · refine e_eq (f_Yard_ask_j55.eq_1 _ _ _ _) ?_
                      refine e_t (by decide) ?_
                      refine e_f (d_ne f31 (rgl (0) 0 0 rfl) rfl) ?_
                      refine e_f (d_ne f31 (rgl (1) 1 1 rfl) rfl) ?_
                      refine e_f (d_ne f31 (rgl (2) 2 2 rfl) rfl) ?_
                      refine e_f (d_ne f31 (rgl (3) 3 3 rfl) rfl) ?_
                      refine e_f (d_ne f31 (rgl (4) 4 4 rfl) rfl) ?_
                      refine e_f (d_ne f31 (rgl (5) 5 5 rfl) rfl) ?_
                      refine e_t q30 ?_
                      refine e_cE (t_Stock_get hW6 ((rgl (4) 4 4 rfl).sub rfl)) (fun u37 T37 p37 => ?_)
                      obtain ⟨-, hT37, hr37⟩ := p37
                      have eT37 := (fr_nil hT37).symm
                      subst eT37
                      exact e_some ⟨hW6, hF6, trivial⟩
                  · refine e_eq (f_Yard_ask_j55.eq_1 _ _ _ _) ?_
                    refine e_t (by decide) ?_
                    refine e_i (fun q38 => ?_) (fun q38 => ?_)
                    · refine e_cE (t_Bodies_weight hW6) (fun u40 T40 p40 => ?_)
                      obtain ⟨hW40, hT40, hr40⟩ := p40
                      have hF40 := hF6.tr hT40 rfl
                      exact e_some ⟨hW40, hF40, trivial⟩
                    · refine e_i (fun q43 => ?_) (fun q43 => ?_)
                      · refine e_cE (t_Bodies_brake hW6) (fun u45 T45 p45 => ?_)
                        obtain ⟨hW45, hT45, hr45⟩ := p45
                        have hF45 := hF6.tr hT45 rfl
                        exact e_some ⟨hW45, hF45, trivial⟩
                      · refine e_i (fun q48 => ?_) (fun q48 => ?_)
                        · refine e_cE (t_Bodies_heavy hW6) (fun u50 T50 p50 => ?_)
                          obtain ⟨hW50, hT50, hr50⟩ := p50
                          have hF50 := hF6.tr hT50 rfl
                          exact e_some ⟨hW50, hF50, trivial⟩
                        · refine e_i (fun q53 => ?_) (fun q53 => ?_)
                          · refine e_cE (t_Bodies_perAxle hW6) (fun u55 T55 p55 => ?_)
                            obtain ⟨hW55, hT55, hr55⟩ := p55
                            have hF55 := hF6.tr hT55 rfl
                            refine e_cE (t_Yard_orZero hW55) (fun u57 T57 p57 => ?_)
                            obtain ⟨hW57, hT57, hr57⟩ := p57
                            have hF57 := hF55.tr hT57 rfl
                            exact e_some ⟨hW57, hF57, trivial⟩
                          · refine e_i (fun q60 => ?_) (fun q60 => ?_)
                            · refine e_cE (t_Bodies_pulls hW6) (fun u62 T62 p62 => ?_)
                              obtain ⟨hW62, hT62, hr62⟩ := p62
                              have hF62 := hF6.tr hT62 rfl
                              exact e_some ⟨hW62, hF62, trivial⟩
                            · refine e_i (fun q65 => ?_) (fun q65 => ?_)
                              · refine e_cE (t_State_get hW6 ((rgl (7) 7 7 rfl).sub rfl)) (fun u67 T67 p67 => ?_)
                                obtain ⟨-, hT67, hr67⟩ := p67
                                have eT67 := (fr_nil hT67).symm
                                subst eT67
                                exact e_some ⟨hW6, hF6, trivial⟩
                              · refine e_f q30 ?_
                                refine e_cE (t_Stock_get hW6 ((rgl (1) 1 1 rfl).sub rfl)) (fun u69 T69 p69 => ?_)
                                obtain ⟨-, hT69, hr69⟩ := p69
                                have eT69 := (fr_nil hT69).symm
                                subst eT69
                                exact e_some ⟨hW6, hF6, trivial⟩
              · refine e_some ?_
                refine e_t (by decide) ?_
                refine e_some ?_
                refine e_f (by decide) ?_
                refine e_eq (f_Yard_ask_j55.eq_1 _ _ _ _) ?_
                refine e_f (by decide) ?_
                refine e_cE (t_Report_found hW6) (fun u71 T71 p71 => ?_)
                obtain ⟨hW71, hT71, hr71⟩ := p71
                have hF71 := hF6.tr hT71 rfl
                exact e_some ⟨hW71, hF71, trivial⟩
          · refine e_some ?_
            refine e_f (by decide) ?_
            refine e_eq (f_Yard_ask_j55.eq_1 _ _ _ _) ?_
            refine e_f (by decide) ?_
            refine e_cE (t_Report_found hW6) (fun u74 T74 p74 => ?_)
            obtain ⟨hW74, hT74, hr74⟩ := p74
            have hF74 := hF6.tr hT74 rfl
            exact e_some ⟨hW74, hF74, trivial⟩
        · refine e_some ?_
          refine e_f (by decide) ?_
          refine e_some ?_
          refine e_f (by decide) ?_
          refine e_eq (f_Yard_ask_j55.eq_1 _ _ _ _) ?_
          refine e_f (by decide) ?_
          refine e_cE (t_Report_found hW6) (fun u77 T77 p77 => ?_)
          obtain ⟨hW77, hT77, hr77⟩ := p77
          have hF77 := hF6.tr hT77 rfl
          exact e_some ⟨hW77, hF77, trivial⟩
    · refine e_some ?_
      refine e_f (by decide) ?_
      exact e_some ⟨hW, hF, trivial⟩
set_option maxRecDepth 20000 in
set_option maxHeartbeats 4000000 in
theorem t_Yard_meet_L54 {S0 : SS} : ∀ (n : Nat) (x3 : Int32) (x5 : Int32) (x6 : Int32) (S : SS), WR S → Fr [77] [(62, 2), (62, 3), (62, 4), (62, 5), (62, 6)] S0 S → rg x3 0 100 → rg x6 0 100 → 100 - x6.toInt < (n : Int) → Ex2 (f_Yard_meet_L54 n x3 x5 x6 S) (fun r U => WR U ∧ Fr [77] [(62, 2), (62, 3), (62, 4), (62, 5), (62, 6)] S0 U ∧ True) := by
  intro n
  induction n with
  | zero =>
    intro x3 x5 x6 S hW hF h0 h2 hm
    exact up_0 h2 hm rfl
  | succ n ih =>
    intro x3 x5 x6 S hW hF h0 h2 hm
    refine e_eq (f_Yard_meet_L54.eq_2 _ _ _ _ _) ?_
    refine e_i (fun q1 => ?_) (fun q1 => ?_)
    · exact e_some ⟨hW, hF, trivial⟩
    · have f2 := nle_l 1 h0 h2 q1 rfl
      have f3 := nle_r 99 h0 h2 q1 rfl
      refine e_cE (t_Trains_onward hW) (fun u4 T4 p4 => ?_)
      obtain ⟨-, hT4, hr4⟩ := p4
      have eT4 := (fr_nil hT4).symm
      subst eT4
      refine e_i (fun q5 => ?_) (fun q5 => ?_)
      · refine e_cE (t_Report_found hW) (fun u7 T7 p7 => ?_)
        obtain ⟨hW7, hT7, hr7⟩ := p7
        have hF7 := hF.tr hT7 rfl
        exact e_some ⟨hW7, hF7, trivial⟩
      · refine e_nmG (fun w8 hw8 => ?_)
        have f9 := rg_tr (rg_add 1 100 f3 (rgl (1) 1 1 rfl) rfl) hw8
        exact ih _ _ _ _ hW hF (f2.sub rfl) (f9.sub rfl) (up_s f3 hw8 hm rfl)
set_option maxRecDepth 20000 in
set_option maxHeartbeats 4000000 in
theorem t_Yard_meet {a1 : Int32} {a2 : Int32} {a3 : Int32} {S : SS} (hW : WR S) : Ex2 (f_Yard_meet a1 a2 a3 S) (fun r U => WR U ∧ Fr [77] [(62, 2), (62, 3), (62, 4), (62, 5), (62, 6)] S U ∧ True) := by
  have hF : Fr [77] [(62, 2), (62, 3), (62, 4), (62, 5), (62, 6)] S S := Fr.rf
  refine e_eq (f_Yard_meet.eq_1 _ _ _ _) ?_
  refine e_bnd ?_
  refine e_eq (f_Yard_isNot.eq_1 _ _ _ _) ?_
  refine e_i (fun q1 => ?_) (fun q1 => ?_)
  · refine e_some ?_
    refine e_f (by decide) ?_
    exact e_some ⟨hW, hF, trivial⟩
  · have f3 := nlt_l (rgt _) (rgl (0) 0 0 rfl) q1
    refine e_i (fun q4 => ?_) (fun q4 => ?_)
    · have f5 := le_l f3 (rgl (100) 100 100 rfl) q4
      refine e_some ?_
      refine e_t (by decide) ?_
      refine e_cV (t_Report_begin hW) (fun T6 p6 => ?_)
      obtain ⟨hW6, hT6⟩ := p6
      have hF6 := hF.tr hT6 rfl
      refine e_bnd ?_
      refine e_eq (f_Yard_namedSide.eq_1 _ _ _ _) ?_
      refine e_bnd ?_
      refine e_eq (f_Yard_named.eq_1 _ _ _) ?_
      refine e_bnd ?_
      refine e_eq (f_Yard_isNot.eq_1 _ _ _ _) ?_
      refine e_i (fun q7 => ?_) (fun q7 => ?_)
      · refine e_some ?_
        refine e_f (by decide) ?_
        refine e_some ?_
        refine e_f (by decide) ?_
        refine e_some ?_
        refine e_f (by decide) ?_
        refine e_cE (t_Report_found hW6) (fun u9 T9 p9 => ?_)
        obtain ⟨hW9, hT9, hr9⟩ := p9
        have hF9 := hF6.tr hT9 rfl
        exact e_some ⟨hW9, hF9, trivial⟩
      · refine e_i (fun q11 => ?_) (fun q11 => ?_)
        · refine e_some ?_
          refine e_t (by decide) ?_
          refine e_i (fun q13 => ?_) (fun q13 => ?_)
          · refine e_bnd ?_
            refine e_eq (f_Stock_isAs.eq_1 _ _ _) ?_
            refine e_cE (t_Stock_get hW6 ((rgl (0) 0 0 rfl).sub rfl)) (fun u15 T15 p15 => ?_)
            obtain ⟨-, hT15, hr15⟩ := p15
            have eT15 := (fr_nil hT15).symm
            subst eT15
            refine e_i (fun q16 => ?_) (fun q16 => ?_)
            · refine e_some ?_
              refine e_t (by decide) ?_
              refine e_some ?_
              refine e_f (by decide) ?_
              refine e_some ?_
              refine e_f (by decide) ?_
              refine e_cE (t_Report_found hW6) (fun u18 T18 p18 => ?_)
              obtain ⟨hW18, hT18, hr18⟩ := p18
              have hF18 := hF6.tr hT18 rfl
              exact e_some ⟨hW18, hF18, trivial⟩
            · refine e_i (fun q21 => ?_) (fun q21 => ?_)
              · refine e_some ?_
                refine e_f (by decide) ?_
                refine e_bnd ?_
                refine e_eq (f_State_isThere.eq_1 _ _) ?_
                refine e_cE (t_State_get hW6 ((rgl (0) 0 0 rfl).sub rfl)) (fun u23 T23 p23 => ?_)
                obtain ⟨-, hT23, hr23⟩ := p23
                have eT23 := (fr_nil hT23).symm
                subst eT23
                refine e_i (fun q24 => ?_) (fun q24 => ?_)
                · refine e_some ?_
                  refine e_t (by decide) ?_
                  refine e_some ?_
                  refine e_f (by decide) ?_
                  refine e_some ?_
                  refine e_f (by decide) ?_
                  refine e_cE (t_Report_found hW6) (fun u26 T26 p26 => ?_)
                  obtain ⟨hW26, hT26, hr26⟩ := p26
                  have hF26 := hF6.tr hT26 rfl
                  exact e_some ⟨hW26, hF26, trivial⟩
                · refine e_some ?_
                  refine e_f (by decide) ?_
                  refine e_some ?_
                  refine e_t (by decide) ?_
                  refine e_bnd ?_
                  refine e_eq (f_Yard_isNot.eq_1 _ _ _ _) ?_
                  refine e_i (fun q29 => ?_) (fun q29 => ?_)
                  · refine e_some ?_
                    refine e_f (by decide) ?_
                    refine e_some ?_
                    refine e_f (by decide) ?_
                    refine e_cE (t_Report_found hW6) (fun u31 T31 p31 => ?_)
                    obtain ⟨hW31, hT31, hr31⟩ := p31
                    have hF31 := hF6.tr hT31 rfl
                    exact e_some ⟨hW31, hF31, trivial⟩
                  · refine e_i (fun q34 => ?_) (fun q34 => ?_)
                    · refine e_some ?_
                      refine e_t (by decide) ?_
                      refine e_some ?_
                      refine e_t (by decide) ?_
                      refine e_nmG (fun w36 hw36 => ?_)
                      exact t_Yard_meet_L54  NF _ _ _ _ hW6 hF6 f5 ((rgl (0) 0 0 rfl).sub rfl) (up_n (rgl (0) 0 0 rfl) rfl)
                    · refine e_some ?_
                      refine e_f (by decide) ?_
                      refine e_some ?_
                      refine e_f (by decide) ?_
                      refine e_cE (t_Report_found hW6) (fun u39 T39 p39 => ?_)
                      obtain ⟨hW39, hT39, hr39⟩ := p39
                      have hF39 := hF6.tr hT39 rfl
                      exact e_some ⟨hW39, hF39, trivial⟩
              · refine e_some ?_
                refine e_t (by decide) ?_
                refine e_some ?_
                refine e_f (by decide) ?_
                refine e_some ?_
                refine e_f (by decide) ?_
                refine e_cE (t_Report_found hW6) (fun u42 T42 p42 => ?_)
                obtain ⟨hW42, hT42, hr42⟩ := p42
                have hF42 := hF6.tr hT42 rfl
                exact e_some ⟨hW42, hF42, trivial⟩
          · refine e_some ?_
            refine e_f (by decide) ?_
            refine e_some ?_
            refine e_f (by decide) ?_
            refine e_cE (t_Report_found hW6) (fun u45 T45 p45 => ?_)
            obtain ⟨hW45, hT45, hr45⟩ := p45
            have hF45 := hF6.tr hT45 rfl
            exact e_some ⟨hW45, hF45, trivial⟩
        · refine e_some ?_
          refine e_f (by decide) ?_
          refine e_some ?_
          refine e_f (by decide) ?_
          refine e_some ?_
          refine e_f (by decide) ?_
          refine e_cE (t_Report_found hW6) (fun u48 T48 p48 => ?_)
          obtain ⟨hW48, hT48, hr48⟩ := p48
          have hF48 := hF6.tr hT48 rfl
          exact e_some ⟨hW48, hF48, trivial⟩
    · refine e_some ?_
      refine e_f (by decide) ?_
      exact e_some ⟨hW, hF, trivial⟩
set_option maxRecDepth 20000 in
set_option maxHeartbeats 4000000 in
theorem t_Yard_weigh {a1 : Int32} {S : SS} (hW : WR S) : Ex2 (f_Yard_weigh a1 S) (fun r U => WR U ∧ Fr [77, 78, 104] [(62, 2), (62, 3), (62, 4), (62, 5), (62, 6), (68, 4)] S U ∧ True) := by
  have hF : Fr [77, 78, 104] [(62, 2), (62, 3), (62, 4), (62, 5), (62, 6), (68, 4)] S S := Fr.rf
  refine e_eq (f_Yard_weigh.eq_1 _ _) ?_
  refine e_cV (t_Report_begin hW) (fun T1 p1 => ?_)
  obtain ⟨hW1, hT1⟩ := p1
  have hF1 := hF.tr hT1 rfl
  refine e_bnd ?_
  refine e_eq (f_Yard_named.eq_1 _ _ _) ?_
  refine e_bnd ?_
  refine e_eq (f_Yard_isNot.eq_1 _ _ _ _) ?_
  refine e_i (fun q2 => ?_) (fun q2 => ?_)
  · refine e_some ?_
    refine e_f (by decide) ?_
    refine e_some ?_
    refine e_f (by decide) ?_
    refine e_cE (t_Report_found hW1) (fun u4 T4 p4 => ?_)
    obtain ⟨hW4, hT4, hr4⟩ := p4
    have hF4 := hF1.tr hT4 rfl
    exact e_some ⟨hW4, hF4, trivial⟩
  · refine e_i (fun q6 => ?_) (fun q6 => ?_)
    · refine e_some ?_
      refine e_t (by decide) ?_
      refine e_i (fun q8 => ?_) (fun q8 => ?_)
      · refine e_bnd ?_
        refine e_eq (f_Stock_isAs.eq_1 _ _ _) ?_
        refine e_cE (t_Stock_get hW1 ((rgl (0) 0 0 rfl).sub rfl)) (fun u10 T10 p10 => ?_)
        obtain ⟨-, hT10, hr10⟩ := p10
        have eT10 := (fr_nil hT10).symm
        subst eT10
        refine e_i (fun q11 => ?_) (fun q11 => ?_)
        · refine e_some ?_
          refine e_t (by decide) ?_
          refine e_some ?_
          refine e_f (by decide) ?_
          refine e_cE (t_Report_found hW1) (fun u13 T13 p13 => ?_)
          obtain ⟨hW13, hT13, hr13⟩ := p13
          have hF13 := hF1.tr hT13 rfl
          exact e_some ⟨hW13, hF13, trivial⟩
        · refine e_i (fun q16 => ?_) (fun q16 => ?_)
          · refine e_some ?_
            refine e_f (by decide) ?_
            refine e_bnd ?_
            refine e_eq (f_State_isThere.eq_1 _ _) ?_
            refine e_cE (t_State_get hW1 ((rgl (0) 0 0 rfl).sub rfl)) (fun u18 T18 p18 => ?_)
            obtain ⟨-, hT18, hr18⟩ := p18
            have eT18 := (fr_nil hT18).symm
            subst eT18
            refine e_i (fun q19 => ?_) (fun q19 => ?_)
            · refine e_some ?_
              refine e_t (by decide) ?_
              refine e_some ?_
              refine e_f (by decide) ?_
              refine e_cE (t_Report_found hW1) (fun u21 T21 p21 => ?_)
              obtain ⟨hW21, hT21, hr21⟩ := p21
              have hF21 := hF1.tr hT21 rfl
              exact e_some ⟨hW21, hF21, trivial⟩
            · refine e_some ?_
              refine e_f (by decide) ?_
              refine e_some ?_
              refine e_t (by decide) ?_
              refine e_cV (t_Trains_lineUp hW1) (fun T24 p24 => ?_)
              obtain ⟨hW24, hT24⟩ := p24
              have hF24 := hF1.tr hT24 rfl
              refine e_cE (t_Yard_lineWeight hW24) (fun u26 T26 p26 => ?_)
              obtain ⟨hW26, hT26, hr26⟩ := p26
              have hF26 := hF24.tr hT26 rfl
              exact e_some ⟨hW26, hF26, trivial⟩
          · refine e_some ?_
            refine e_t (by decide) ?_
            refine e_some ?_
            refine e_f (by decide) ?_
            refine e_cE (t_Report_found hW1) (fun u29 T29 p29 => ?_)
            obtain ⟨hW29, hT29, hr29⟩ := p29
            have hF29 := hF1.tr hT29 rfl
            exact e_some ⟨hW29, hF29, trivial⟩
      · refine e_some ?_
        refine e_f (by decide) ?_
        refine e_cE (t_Report_found hW1) (fun u32 T32 p32 => ?_)
        obtain ⟨hW32, hT32, hr32⟩ := p32
        have hF32 := hF1.tr hT32 rfl
        exact e_some ⟨hW32, hF32, trivial⟩
    · refine e_some ?_
      refine e_f (by decide) ?_
      refine e_some ?_
      refine e_f (by decide) ?_
      refine e_cE (t_Report_found hW1) (fun u35 T35 p35 => ?_)
      obtain ⟨hW35, hT35, hr35⟩ := p35
      have hF35 := hF1.tr hT35 rfl
      exact e_some ⟨hW35, hF35, trivial⟩
set_option maxRecDepth 20000 in
set_option maxHeartbeats 4000000 in
theorem t_Yard_share_L46 {S0 : SS} : ∀ (n : Nat) (x3 : Int32) (x4 : Int32) (x5 : Int32) (S : SS), WR S → Fr [77, 78, 104] [(62, 2), (62, 3), (62, 4), (62, 5), (62, 6), (68, 4)] S0 S → rg x5 0 72 → 72 - x5.toInt < (n : Int) → Ex2 (f_Yard_share_L46 n x3 x4 x5 S) (fun r U => WR U ∧ Fr [77, 78, 104] [(62, 2), (62, 3), (62, 4), (62, 5), (62, 6), (68, 4)] S0 U ∧ True) := by
  intro n
  induction n with
  | zero =>
    intro x3 x4 x5 S hW hF h2 hm
    exact up_0 h2 hm rfl
  | succ n ih =>
    intro x3 x4 x5 S hW hF h2 hm
    refine e_eq (f_Yard_share_L46.eq_2 _ _ _ _ _) ?_
    refine e_i (fun q1 => ?_) (fun q1 => ?_)
    · refine e_i (fun q2 => ?_) (fun q2 => ?_)
      · refine e_cE (t_Yard_orZero hW) (fun u4 T4 p4 => ?_)
        obtain ⟨hW4, hT4, hr4⟩ := p4
        have hF4 := hF.tr hT4 rfl
        exact e_some ⟨hW4, hF4, trivial⟩
      · refine e_grd (nz_h q2) ?_
        refine e_cE (t_Yard_orZero hW) (fun u5 T5 p5 => ?_)
        obtain ⟨hW5, hT5, hr5⟩ := p5
        have hF5 := hF.tr hT5 rfl
        exact e_some ⟨hW5, hF5, trivial⟩
    · have f7 := nle_r 71 (ro_68_4 hW) h2 q1 rfl
      refine e_cE (t_Trains_inLine hW) (fun u8 T8 p8 => ?_)
      obtain ⟨-, hT8, hr8⟩ := p8
      have eT8 := (fr_nil hT8).symm
      subst eT8
      refine e_cE (t_Bodies_brake hW) (fun u9 T9 p9 => ?_)
      obtain ⟨hW9, hT9, hr9⟩ := p9
      have hF9 := hF.tr hT9 rfl
      refine e_nmG (fun w11 hw11 => ?_)
      refine e_cE (t_Trains_inLine hW9) (fun u12 T12 p12 => ?_)
      obtain ⟨-, hT12, hr12⟩ := p12
      have eT12 := (fr_nil hT12).symm
      subst eT12
      refine e_cE (t_Stock_get hW9 ((rgl (1) 1 1 rfl).sub rfl)) (fun u13 T13 p13 => ?_)
      obtain ⟨-, hT13, hr13⟩ := p13
      have eT13 := (fr_nil hT13).symm
      subst eT13
      refine e_nmG (fun w14 hw14 => ?_)
      refine e_nmG (fun w15 hw15 => ?_)
      have f16 := rg_tr (rg_add 1 72 f7 (rgl (1) 1 1 rfl) rfl) hw15
      exact ih _ _ _ _ hW9 hF9 (f16.sub rfl) (up_s f7 hw15 hm rfl)
set_option maxRecDepth 20000 in
set_option maxHeartbeats 4000000 in
theorem t_Yard_share {a1 : Int32} {S : SS} (hW : WR S) : Ex2 (f_Yard_share a1 S) (fun r U => WR U ∧ Fr [77, 78, 104] [(62, 2), (62, 3), (62, 4), (62, 5), (62, 6), (68, 4)] S U ∧ True) := by
  have hF : Fr [77, 78, 104] [(62, 2), (62, 3), (62, 4), (62, 5), (62, 6), (68, 4)] S S := Fr.rf
  refine e_eq (f_Yard_share.eq_1 _ _) ?_
  refine e_cV (t_Report_begin hW) (fun T1 p1 => ?_)
  obtain ⟨hW1, hT1⟩ := p1
  have hF1 := hF.tr hT1 rfl
  refine e_bnd ?_
  refine e_eq (f_Yard_named.eq_1 _ _ _) ?_
  refine e_bnd ?_
  refine e_eq (f_Yard_isNot.eq_1 _ _ _ _) ?_
  refine e_i (fun q2 => ?_) (fun q2 => ?_)
  · refine e_some ?_
    refine e_f (by decide) ?_
    refine e_some ?_
    refine e_f (by decide) ?_
    refine e_cE (t_Report_found hW1) (fun u4 T4 p4 => ?_)
    obtain ⟨hW4, hT4, hr4⟩ := p4
    have hF4 := hF1.tr hT4 rfl
    exact e_some ⟨hW4, hF4, trivial⟩
  · refine e_i (fun q6 => ?_) (fun q6 => ?_)
    · refine e_some ?_
      refine e_t (by decide) ?_
      refine e_i (fun q8 => ?_) (fun q8 => ?_)
      · refine e_bnd ?_
        refine e_eq (f_Stock_isAs.eq_1 _ _ _) ?_
        refine e_cE (t_Stock_get hW1 ((rgl (0) 0 0 rfl).sub rfl)) (fun u10 T10 p10 => ?_)
        obtain ⟨-, hT10, hr10⟩ := p10
        have eT10 := (fr_nil hT10).symm
        subst eT10
        refine e_i (fun q11 => ?_) (fun q11 => ?_)
        · refine e_some ?_
          refine e_t (by decide) ?_
          refine e_some ?_
          refine e_f (by decide) ?_
          refine e_cE (t_Report_found hW1) (fun u13 T13 p13 => ?_)
          obtain ⟨hW13, hT13, hr13⟩ := p13
          have hF13 := hF1.tr hT13 rfl
          exact e_some ⟨hW13, hF13, trivial⟩
        · refine e_i (fun q16 => ?_) (fun q16 => ?_)
          · refine e_some ?_
            refine e_f (by decide) ?_
            refine e_bnd ?_
            refine e_eq (f_State_isThere.eq_1 _ _) ?_
            refine e_cE (t_State_get hW1 ((rgl (0) 0 0 rfl).sub rfl)) (fun u18 T18 p18 => ?_)
            obtain ⟨-, hT18, hr18⟩ := p18
            have eT18 := (fr_nil hT18).symm
            subst eT18
            refine e_i (fun q19 => ?_) (fun q19 => ?_)
            · refine e_some ?_
              refine e_t (by decide) ?_
              refine e_some ?_
              refine e_f (by decide) ?_
              refine e_cE (t_Report_found hW1) (fun u21 T21 p21 => ?_)
              obtain ⟨hW21, hT21, hr21⟩ := p21
              have hF21 := hF1.tr hT21 rfl
              exact e_some ⟨hW21, hF21, trivial⟩
            · refine e_some ?_
              refine e_f (by decide) ?_
              refine e_some ?_
              refine e_t (by decide) ?_
              refine e_cV (t_Trains_lineUp hW1) (fun T24 p24 => ?_)
              obtain ⟨hW24, hT24⟩ := p24
              have hF24 := hF1.tr hT24 rfl
              exact t_Yard_share_L46  NF _ _ _ _ hW24 hF24 ((rgl (0) 0 0 rfl).sub rfl) (up_n (rgl (0) 0 0 rfl) rfl)
          · refine e_some ?_
            refine e_t (by decide) ?_
            refine e_some ?_
            refine e_f (by decide) ?_
            refine e_cE (t_Report_found hW1) (fun u27 T27 p27 => ?_)
            obtain ⟨hW27, hT27, hr27⟩ := p27
            have hF27 := hF1.tr hT27 rfl
            exact e_some ⟨hW27, hF27, trivial⟩
      · refine e_some ?_
        refine e_f (by decide) ?_
        refine e_cE (t_Report_found hW1) (fun u30 T30 p30 => ?_)
        obtain ⟨hW30, hT30, hr30⟩ := p30
        have hF30 := hF1.tr hT30 rfl
        exact e_some ⟨hW30, hF30, trivial⟩
    · refine e_some ?_
      refine e_f (by decide) ?_
      refine e_some ?_
      refine e_f (by decide) ?_
      refine e_cE (t_Report_found hW1) (fun u33 T33 p33 => ?_)
      obtain ⟨hW33, hT33, hr33⟩ := p33
      have hF33 := hF1.tr hT33 rfl
      exact e_some ⟨hW33, hF33, trivial⟩
set_option maxRecDepth 20000 in
set_option maxHeartbeats 4000000 in
theorem t_Yard_consist {a1 : Int32} {a2 : Int32} {S : SS} (hW : WR S) : Ex2 (f_Yard_consist a1 a2 S) (fun r U => WR U ∧ Fr [77, 104] [(62, 2), (62, 3), (62, 4), (62, 5), (62, 6), (68, 4)] S U ∧ True) := by
  have hF : Fr [77, 104] [(62, 2), (62, 3), (62, 4), (62, 5), (62, 6), (68, 4)] S S := Fr.rf
  refine e_eq (f_Yard_consist.eq_1 _ _ _) ?_
  refine e_i (fun q1 => ?_) (fun q1 => ?_)
  · refine e_cV (t_Report_begin hW) (fun T3 p3 => ?_)
    obtain ⟨hW3, hT3⟩ := p3
    have hF3 := hF.tr hT3 rfl
    refine e_bnd ?_
    refine e_eq (f_Yard_named.eq_1 _ _ _) ?_
    refine e_bnd ?_
    refine e_eq (f_Yard_isNot.eq_1 _ _ _ _) ?_
    refine e_i (fun q4 => ?_) (fun q4 => ?_)
    · refine e_some ?_
      refine e_f (by decide) ?_
      refine e_some ?_
      refine e_f (by decide) ?_
      refine e_cE (t_Report_found hW3) (fun u6 T6 p6 => ?_)
      obtain ⟨hW6, hT6, hr6⟩ := p6
      have hF6 := hF3.tr hT6 rfl
      exact e_some ⟨hW6, hF6, trivial⟩
    · refine e_i (fun q8 => ?_) (fun q8 => ?_)
      · refine e_some ?_
        refine e_t (by decide) ?_
        refine e_i (fun q10 => ?_) (fun q10 => ?_)
        · refine e_bnd ?_
          refine e_eq (f_Stock_isAs.eq_1 _ _ _) ?_
          refine e_cE (t_Stock_get hW3 ((rgl (0) 0 0 rfl).sub rfl)) (fun u12 T12 p12 => ?_)
          obtain ⟨-, hT12, hr12⟩ := p12
          have eT12 := (fr_nil hT12).symm
          subst eT12
          refine e_i (fun q13 => ?_) (fun q13 => ?_)
          · refine e_some ?_
            refine e_t (by decide) ?_
            refine e_some ?_
            refine e_f (by decide) ?_
            refine e_cE (t_Report_found hW3) (fun u15 T15 p15 => ?_)
            obtain ⟨hW15, hT15, hr15⟩ := p15
            have hF15 := hF3.tr hT15 rfl
            exact e_some ⟨hW15, hF15, trivial⟩
          · refine e_i (fun q18 => ?_) (fun q18 => ?_)
            · refine e_some ?_
              refine e_f (by decide) ?_
              refine e_bnd ?_
              refine e_eq (f_State_isThere.eq_1 _ _) ?_
              refine e_cE (t_State_get hW3 ((rgl (0) 0 0 rfl).sub rfl)) (fun u20 T20 p20 => ?_)
              obtain ⟨-, hT20, hr20⟩ := p20
              have eT20 := (fr_nil hT20).symm
              subst eT20
              refine e_i (fun q21 => ?_) (fun q21 => ?_)
              · refine e_some ?_
                refine e_t (by decide) ?_
                refine e_some ?_
                refine e_f (by decide) ?_
                refine e_cE (t_Report_found hW3) (fun u23 T23 p23 => ?_)
                obtain ⟨hW23, hT23, hr23⟩ := p23
                have hF23 := hF3.tr hT23 rfl
                exact e_some ⟨hW23, hF23, trivial⟩
              · refine e_some ?_
                refine e_f (by decide) ?_
                refine e_some ?_
                refine e_t (by decide) ?_
                refine e_cV (t_Trains_lineUp hW3) (fun T26 p26 => ?_)
                obtain ⟨hW26, hT26⟩ := p26
                have hF26 := hF3.tr hT26 rfl
                refine e_cE (t_Trains_inLine hW26) (fun u28 T28 p28 => ?_)
                obtain ⟨-, hT28, hr28⟩ := p28
                have eT28 := (fr_nil hT28).symm
                subst eT28
                exact e_some ⟨hW26, hF26, trivial⟩
            · refine e_some ?_
              refine e_t (by decide) ?_
              refine e_some ?_
              refine e_f (by decide) ?_
              refine e_cE (t_Report_found hW3) (fun u30 T30 p30 => ?_)
              obtain ⟨hW30, hT30, hr30⟩ := p30
              have hF30 := hF3.tr hT30 rfl
              exact e_some ⟨hW30, hF30, trivial⟩
        · refine e_some ?_
          refine e_f (by decide) ?_
          refine e_cE (t_Report_found hW3) (fun u33 T33 p33 => ?_)
          obtain ⟨hW33, hT33, hr33⟩ := p33
          have hF33 := hF3.tr hT33 rfl
          exact e_some ⟨hW33, hF33, trivial⟩
      · refine e_some ?_
        refine e_f (by decide) ?_
        refine e_some ?_
        refine e_f (by decide) ?_
        refine e_cE (t_Report_found hW3) (fun u36 T36 p36 => ?_)
        obtain ⟨hW36, hT36, hr36⟩ := p36
        have hF36 := hF3.tr hT36 rfl
        exact e_some ⟨hW36, hF36, trivial⟩
  · exact e_some ⟨hW, hF, trivial⟩
set_option maxRecDepth 20000 in
set_option maxHeartbeats 4000000 in
theorem t_Yard_finding {a1 : Int32} {S : SS} (hW : WR S) : Ex2 (f_Yard_finding a1 S) (fun r U => WR U ∧ Fr [] [] S U ∧ True) := by
  have hF : Fr [] [] S S := Fr.rf
  refine e_eq (f_Yard_finding.eq_1 _ _) ?_
  refine e_i (fun q1 => ?_) (fun q1 => ?_)
  · exact e_some ⟨hW, hF, trivial⟩
  · refine e_i (fun q3 => ?_) (fun q3 => ?_)
    · exact e_some ⟨hW, hF, trivial⟩
    · refine e_i (fun q5 => ?_) (fun q5 => ?_)
      · exact e_some ⟨hW, hF, trivial⟩
      · refine e_i (fun q7 => ?_) (fun q7 => ?_)
        · exact e_some ⟨hW, hF, trivial⟩
        · exact e_some ⟨hW, hF, trivial⟩
set_option maxRecDepth 20000 in
set_option maxHeartbeats 4000000 in
theorem t_State_damps {S : SS} (hW : WR S) : Ex2 (f_State_damps  S) (fun r U => WR U ∧ Fr [] [] S U ∧ True) := by
  have hF : Fr [] [] S S := Fr.rf
  refine e_eq (f_State_damps.eq_1 _) ?_
  refine e_grd (inb_g (rgl (0) 0 0 rfl) rfl) ?_
  exact e_some ⟨hW, hF, trivial⟩
set_option maxRecDepth 20000 in
set_option maxHeartbeats 4000000 in
theorem t_State_there_L4 {S0 : SS} : ∀ (n : Nat) (x1 : Int32) (x2 : Int32) (S : SS), WR S → Fr [] [] S0 S → rg x2 0 72 → 72 - x2.toInt < (n : Int) → Ex2 (f_State_there_L4 n x1 x2 S) (fun r U => WR U ∧ Fr [] [] S0 U ∧ True) := by
  intro n
  induction n with
  | zero =>
    intro x1 x2 S hW hF h1 hm
    exact up_0 h1 hm rfl
  | succ n ih =>
    intro x1 x2 S hW hF h1 hm
    refine e_eq (f_State_there_L4.eq_2 _ _ _ _) ?_
    refine e_i (fun q1 => ?_) (fun q1 => ?_)
    · exact e_some ⟨hW, hF, trivial⟩
    · have f3 := nle_r 71 (ro_63_1 hW) h1 q1 rfl
      refine e_bnd ?_
      refine e_eq (f_State_isThere.eq_1 _ _) ?_
      refine e_cE (t_State_get hW ((rgl (0) 0 0 rfl).sub rfl)) (fun u4 T4 p4 => ?_)
      obtain ⟨-, hT4, hr4⟩ := p4
      have eT4 := (fr_nil hT4).symm
      subst eT4
      refine e_i (fun q5 => ?_) (fun q5 => ?_)
      · refine e_some ?_
        refine e_t (by decide) ?_
        refine e_eq (f_State_there_j23.eq_1 _ _ _ _) ?_
        refine e_nmG (fun w7 hw7 => ?_)
        have f8 := rg_tr (rg_add 1 72 f3 (rgl (1) 1 1 rfl) rfl) hw7
        exact ih _ _ _ hW hF (f8.sub rfl) (up_s f3 hw7 hm rfl)
      · refine e_some ?_
        refine e_f (by decide) ?_
        refine e_nmG (fun w10 hw10 => ?_)
        refine e_eq (f_State_there_j23.eq_1 _ _ _ _) ?_
        refine e_nmG (fun w11 hw11 => ?_)
        have f12 := rg_tr (rg_add 1 72 f3 (rgl (1) 1 1 rfl) rfl) hw11
        exact ih _ _ _ hW hF (f12.sub rfl) (up_s f3 hw11 hm rfl)
set_option maxRecDepth 20000 in
set_option maxHeartbeats 4000000 in
theorem t_State_there {S : SS} (hW : WR S) : Ex2 (f_State_there  S) (fun r U => WR U ∧ Fr [] [] S U ∧ True) := by
  have hF : Fr [] [] S S := Fr.rf
  refine e_eq (f_State_there.eq_1 _) ?_
  exact t_State_there_L4  NF _ _ _ hW hF ((rgl (0) 0 0 rfl).sub rfl) (up_n (rgl (0) 0 0 rfl) rfl)
set_option maxRecDepth 20000 in
set_option maxHeartbeats 4000000 in
theorem t_Report_ever {a1 : Int32} {S : SS} (hW : WR S) : Ex2 (f_Report_ever a1 S) (fun r U => WR U ∧ Fr [] [] S U ∧ True) := by
  have hF : Fr [] [] S S := Fr.rf
  refine e_eq (f_Report_ever.eq_1 _ _) ?_
  refine e_i (fun q1 => ?_) (fun q1 => ?_)
  · exact e_some ⟨hW, hF, trivial⟩
  · have f3 := nlt_l (rgt _) (rgl (1) 1 1 rfl) q1
    refine e_i (fun q4 => ?_) (fun q4 => ?_)
    · have f5 := le_l f3 (rgl (17) 17 17 rfl) q4
      refine e_grd (inb_g f5 rfl) ?_
      exact e_some ⟨hW, hF, trivial⟩
    · exact e_some ⟨hW, hF, trivial⟩
set_option maxRecDepth 20000 in
set_option maxHeartbeats 4000000 in
theorem t_Yard_count {a1 : Int32} {S : SS} (hW : WR S) : Ex2 (f_Yard_count a1 S) (fun r U => WR U ∧ Fr [] [] S U ∧ True) := by
  have hF : Fr [] [] S S := Fr.rf
  refine e_eq (f_Yard_count.eq_1 _ _) ?_
  refine e_i (fun q1 => ?_) (fun q1 => ?_)
  · exact e_some ⟨hW, hF, trivial⟩
  · refine e_i (fun q3 => ?_) (fun q3 => ?_)
    · exact e_some ⟨hW, hF, trivial⟩
    · refine e_i (fun q5 => ?_) (fun q5 => ?_)
      · exact e_some ⟨hW, hF, trivial⟩
      · refine e_i (fun q7 => ?_) (fun q7 => ?_)
        · exact e_some ⟨hW, hF, trivial⟩
        · refine e_i (fun q9 => ?_) (fun q9 => ?_)
          · exact e_some ⟨hW, hF, trivial⟩
          · refine e_i (fun q11 => ?_) (fun q11 => ?_)
            · refine e_cE (t_State_damps hW) (fun u13 T13 p13 => ?_)
              obtain ⟨-, hT13, hr13⟩ := p13
              have eT13 := (fr_nil hT13).symm
              subst eT13
              exact e_some ⟨hW, hF, trivial⟩
            · refine e_i (fun q14 => ?_) (fun q14 => ?_)
              · refine e_cE (t_State_running hW) (fun u16 T16 p16 => ?_)
                obtain ⟨-, hT16, hr16⟩ := p16
                have eT16 := (fr_nil hT16).symm
                subst eT16
                exact e_some ⟨hW, hF, trivial⟩
              · refine e_i (fun q17 => ?_) (fun q17 => ?_)
                · refine e_cE (t_State_there hW) (fun u19 T19 p19 => ?_)
                  obtain ⟨-, hT19, hr19⟩ := p19
                  have eT19 := (fr_nil hT19).symm
                  subst eT19
                  exact e_some ⟨hW, hF, trivial⟩
                · refine e_i (fun q20 => ?_) (fun q20 => ?_)
                  · exact e_some ⟨hW, hF, trivial⟩
                  · refine e_i (fun q22 => ?_) (fun q22 => ?_)
                    · exact e_some ⟨hW, hF, trivial⟩
                    · refine e_cE (t_Report_ever hW) (fun u24 T24 p24 => ?_)
                      obtain ⟨-, hT24, hr24⟩ := p24
                      have eT24 := (fr_nil hT24).symm
                      subst eT24
                      exact e_some ⟨hW, hF, trivial⟩
set_option maxRecDepth 20000 in
set_option maxHeartbeats 4000000 in
theorem t_Report_bodyAt {a1 : Int32} {S : SS} (hW : WR S) : Ex2 (f_Report_bodyAt a1 S) (fun r U => WR U ∧ Fr [] [] S U ∧ True) := by
  have hF : Fr [] [] S S := Fr.rf
  refine e_eq (f_Report_bodyAt.eq_1 _ _) ?_
  refine e_i (fun q1 => ?_) (fun q1 => ?_)
  · exact e_some ⟨hW, hF, trivial⟩
  · have f3 := nlt_l (rgt _) (rgl 0 0 0 rfl) q1
    refine e_i (fun q4 => ?_) (fun q4 => ?_)
    · exact e_some ⟨hW, hF, trivial⟩
    · have f6 := nle_r 199 (ro_62_2 hW) f3 q4 rfl
      refine e_t (d_lt f6 (rgl (200) 200 200 rfl) rfl) ?_
      refine e_grd (inb_g f6 rfl) ?_
      exact e_some ⟨hW, hF, trivial⟩
set_option maxRecDepth 20000 in
set_option maxHeartbeats 4000000 in
theorem t_Yard_trace {a1 : Int32} {S : SS} (hW : WR S) : Ex2 (f_Yard_trace a1 S) (fun r U => WR U ∧ Fr [] [] S U ∧ True) := by
  have hF : Fr [] [] S S := Fr.rf
  refine e_eq (f_Yard_trace.eq_1 _ _) ?_
  refine e_i (fun q1 => ?_) (fun q1 => ?_)
  · refine e_cE (t_Report_bodyAt hW) (fun u3 T3 p3 => ?_)
    obtain ⟨-, hT3, hr3⟩ := p3
    have eT3 := (fr_nil hT3).symm
    subst eT3
    exact e_some ⟨hW, hF, trivial⟩
  · exact e_some ⟨hW, hF, trivial⟩
set_option maxRecDepth 20000 in
set_option maxHeartbeats 4000000 in
theorem t_Yard_digestThing {a1 : Int64} {a3 : Int32} {S : SS} (hW : WR S) : Ex2 (f_Yard_digestThing a1 a3 S) (fun _ U => WR U ∧ Fr [] [] S U ∧ True) := by
  have hF : Fr [] [] S S := Fr.rf
  refine e_eq (f_Yard_digestThing.eq_1 _ _ _) ?_
  refine e_bnd ?_
  refine e_eq (f_State_isThere.eq_1 _ _) ?_
  refine e_cE (t_State_get hW ((rgl (0) 0 0 rfl).sub rfl)) (fun u1 T1 p1 => ?_)
  obtain ⟨-, hT1, hr1⟩ := p1
  have eT1 := (fr_nil hT1).symm
  subst eT1
  refine e_i (fun q2 => ?_) (fun q2 => ?_)
  · refine e_some ?_
    refine e_t (by decide) ?_
    exact e_some ⟨hW, hF, trivial⟩
  · refine e_some ?_
    refine e_f (by decide) ?_
    refine e_cE (t_State_get hW ((rgl (0) 0 0 rfl).sub rfl)) (fun u5 T5 p5 => ?_)
    obtain ⟨-, hT5, hr5⟩ := p5
    have eT5 := (fr_nil hT5).symm
    subst eT5
    refine e_nmG (fun w6 hw6 => ?_)
    refine e_cE (t_State_get hW ((rgl (1) 1 1 rfl).sub rfl)) (fun u7 T7 p7 => ?_)
    obtain ⟨-, hT7, hr7⟩ := p7
    have eT7 := (fr_nil hT7).symm
    subst eT7
    refine e_nmG (fun w8 hw8 => ?_)
    refine e_cE (t_State_get hW ((rgl (2) 2 2 rfl).sub rfl)) (fun u9 T9 p9 => ?_)
    obtain ⟨-, hT9, hr9⟩ := p9
    have eT9 := (fr_nil hT9).symm
    subst eT9
    refine e_nmG (fun w10 hw10 => ?_)
    refine e_cE (t_State_get hW ((rgl (3) 3 3 rfl).sub rfl)) (fun u11 T11 p11 => ?_)
    obtain ⟨-, hT11, hr11⟩ := p11
    have eT11 := (fr_nil hT11).symm
    subst eT11
    refine e_nmG (fun w12 hw12 => ?_)
    refine e_cE (t_State_get hW ((rgl (5) 5 5 rfl).sub rfl)) (fun u13 T13 p13 => ?_)
    obtain ⟨-, hT13, hr13⟩ := p13
    have eT13 := (fr_nil hT13).symm
    subst eT13
    refine e_nmG (fun w14 hw14 => ?_)
    refine e_cE (t_State_get hW ((rgl (6) 6 6 rfl).sub rfl)) (fun u15 T15 p15 => ?_)
    obtain ⟨-, hT15, hr15⟩ := p15
    have eT15 := (fr_nil hT15).symm
    subst eT15
    refine e_nmG (fun w16 hw16 => ?_)
    refine e_cE (t_State_get hW ((rgl (8) 8 8 rfl).sub rfl)) (fun u17 T17 p17 => ?_)
    obtain ⟨-, hT17, hr17⟩ := p17
    have eT17 := (fr_nil hT17).symm
    subst eT17
    refine e_nmG (fun w18 hw18 => ?_)
    refine e_cE (t_State_get hW ((rgl (7) 7 7 rfl).sub rfl)) (fun u19 T19 p19 => ?_)
    obtain ⟨-, hT19, hr19⟩ := p19
    have eT19 := (fr_nil hT19).symm
    subst eT19
    refine e_nmG (fun w20 hw20 => ?_)
    refine e_cE (t_State_get hW ((rgl (10) 10 10 rfl).sub rfl)) (fun u21 T21 p21 => ?_)
    obtain ⟨-, hT21, hr21⟩ := p21
    have eT21 := (fr_nil hT21).symm
    subst eT21
    exact e_some ⟨hW, hF, trivial⟩
set_option maxRecDepth 20000 in
set_option maxHeartbeats 4000000 in
theorem t_Yard_digest_L32 {S0 : SS} : ∀ (n : Nat) (x1 : Int64) (x3 : Int32) (S : SS), WR S → Fr [] [] S0 S → rg x3 0 40 → 40 - x3.toInt < (n : Int) → Ex2 (f_Yard_digest_L32 n x1 x3 S) (fun _ U => WR U ∧ Fr [] [] S0 U ∧ True) := by
  intro n
  induction n with
  | zero =>
    intro x1 x3 S hW hF h1 hm
    exact up_0 h1 hm rfl
  | succ n ih =>
    intro x1 x3 S hW hF h1 hm
    refine e_eq (f_Yard_digest_L32.eq_2 _ _ _ _) ?_
    refine e_i (fun q1 => ?_) (fun q1 => ?_)
    · exact e_some ⟨hW, hF, trivial⟩
    · have f3 := nle_r 39 (ro_66_8 hW) h1 q1 rfl
      refine e_cE (t_State_setting hW) (fun u4 T4 p4 => ?_)
      obtain ⟨-, hT4, hr4⟩ := p4
      have eT4 := (fr_nil hT4).symm
      subst eT4
      refine e_nmG (fun w5 hw5 => ?_)
      refine e_cE (t_State_locker hW) (fun u6 T6 p6 => ?_)
      obtain ⟨-, hT6, hr6⟩ := p6
      have eT6 := (fr_nil hT6).symm
      subst eT6
      refine e_nmG (fun w7 hw7 => ?_)
      refine e_nmG (fun w8 hw8 => ?_)
      have f9 := rg_tr (rg_add 1 40 f3 (rgl (1) 1 1 rfl) rfl) hw8
      exact ih _ _ _ hW hF (f9.sub rfl) (up_s f3 hw8 hm rfl)
set_option maxRecDepth 20000 in
set_option maxHeartbeats 4000000 in
theorem t_Yard_digest_L6 {S0 : SS} : ∀ (n : Nat) (x1 : Int64) (x3 : Int32) (S : SS), WR S → Fr [] [] S0 S → rg x3 0 72 → 72 - x3.toInt < (n : Int) → Ex2 (f_Yard_digest_L6 n x1 x3 S) (fun _ U => WR U ∧ Fr [] [] S0 U ∧ True) := by
  intro n
  induction n with
  | zero =>
    intro x1 x3 S hW hF h1 hm
    exact up_0 h1 hm rfl
  | succ n ih =>
    intro x1 x3 S hW hF h1 hm
    refine e_eq (f_Yard_digest_L6.eq_2 _ _ _ _) ?_
    refine e_i (fun q1 => ?_) (fun q1 => ?_)
    · exact t_Yard_digest_L32  NF _ _ _ hW hF ((rgl (0) 0 0 rfl).sub rfl) (up_n (rgl (0) 0 0 rfl) rfl)
    · have f3 := nle_r 71 (ro_63_1 hW) h1 q1 rfl
      refine e_cL (t_Yard_digestThing hW) (fun u4 T4 p4 => ?_)
      obtain ⟨-, hT4, hr4⟩ := p4
      have eT4 := (fr_nil hT4).symm
      subst eT4
      refine e_nmG (fun w5 hw5 => ?_)
      have f6 := rg_tr (rg_add 1 72 f3 (rgl (1) 1 1 rfl) rfl) hw5
      exact ih _ _ _ hW hF (f6.sub rfl) (up_s f3 hw5 hm rfl)
set_option maxRecDepth 20000 in
set_option maxHeartbeats 4000000 in
theorem t_Yard_digest {S : SS} (hW : WR S) : Ex2 (f_Yard_digest  S) (fun _ U => WR U ∧ Fr [] [] S U ∧ True) := by
  have hF : Fr [] [] S S := Fr.rf
  refine e_eq (f_Yard_digest.eq_1 _) ?_
  exact t_Yard_digest_L6  NF _ _ _ hW hF ((rgl (0) 0 0 rfl).sub rfl) (up_n (rgl (0) 0 0 rfl) rfl)
set_option maxRecDepth 20000 in
set_option maxHeartbeats 4000000 in
theorem t_History_written {a1 : Int32} {a2 : Int32} {S : SS} (hW : WR S) : Ex2 (f_History_written a1 a2 S) (fun r U => WR U ∧ Fr [] [] S U ∧ True) := by
  have hF : Fr [] [] S S := Fr.rf
  refine e_eq (f_History_written.eq_1 _ _ _) ?_
  refine e_i (fun q1 => ?_) (fun q1 => ?_)
  · exact e_some ⟨hW, hF, trivial⟩
  · have f3 := nlt_l (rgt _) (rgl 0 0 0 rfl) q1
    refine e_i (fun q4 => ?_) (fun q4 => ?_)
    · have f5 := lt_l 39 f3 (ro_64_5 hW) q4 rfl
      refine e_nmG (fun w7 hw7 => ?_)
      have f8 := rg_tr (rg_rem 39 40 (rg_sb 1 79 (rg_add 40 79 (ro_64_4 hW) (rgl (40) 40 40 rfl) rfl) f5 rfl) (by decide) rfl) hw7
      refine e_i (fun q9 => ?_) (fun q9 => ?_)
      · refine e_grd (inb_g f8 rfl) ?_
        exact e_some ⟨hW, hF, trivial⟩
      · refine e_grd (inb_g f8 rfl) ?_
        exact e_some ⟨hW, hF, trivial⟩
    · exact e_some ⟨hW, hF, trivial⟩
set_option maxRecDepth 20000 in
set_option maxHeartbeats 4000000 in
theorem t_Yard_log {a1 : Int32} {a2 : Int32} {S : SS} (hW : WR S) : Ex2 (f_Yard_log a1 a2 S) (fun r U => WR U ∧ Fr [] [] S U ∧ True) := by
  have hF : Fr [] [] S S := Fr.rf
  refine e_eq (f_Yard_log.eq_1 _ _ _) ?_
  refine e_i (fun q1 => ?_) (fun q1 => ?_)
  · exact e_some ⟨hW, hF, trivial⟩
  · refine e_bnd ?_
    refine e_eq (f_Yard_isNot.eq_1 _ _ _ _) ?_
    refine e_i (fun q4 => ?_) (fun q4 => ?_)
    · refine e_some ?_
      refine e_f (by decide) ?_
      exact e_some ⟨hW, hF, trivial⟩
    · refine e_i (fun q7 => ?_) (fun q7 => ?_)
      · refine e_some ?_
        refine e_t (by decide) ?_
        refine e_cE (t_History_written hW) (fun u9 T9 p9 => ?_)
        obtain ⟨-, hT9, hr9⟩ := p9
        have eT9 := (fr_nil hT9).symm
        subst eT9
        exact e_some ⟨hW, hF, trivial⟩
      · refine e_some ?_
        refine e_f (by decide) ?_
        exact e_some ⟨hW, hF, trivial⟩
set_option maxRecDepth 20000 in
set_option maxHeartbeats 4000000 in
theorem t_Plans_setRoom {a1 : Int32} {a2 : Int32} {S : SS} (hW : WR S) : Ex2 (f_Plans_setRoom a1 a2 S) (fun r U => WR U ∧ Fr [106] [] S U ∧ True) := by
  have hF : Fr [106] [] S S := Fr.rf
  refine e_eq (f_Plans_setRoom.eq_1 _ _ _) ?_
  refine e_i (fun q1 => ?_) (fun q1 => ?_)
  · exact e_some ⟨hW, hF, trivial⟩
  · have f3 := nlt_l (rgt _) (rgl 0 0 0 rfl) q1
    refine e_i (fun q4 => ?_) (fun q4 => ?_)
    · exact e_some ⟨hW, hF, trivial⟩
    · have f6 := nle_r 3 (rgl (4) 4 4 rfl) f3 q4 rfl
      refine e_bnd ?_
      refine e_eq (f_Stacks_height_start.eq_1 _ _) ?_
      refine e_f q1 ?_
      refine e_f q4 ?_
      refine e_grd (inb_g f6 rfl) ?_
      refine e_someG (fun w7 hw7 => ?_)
      refine e_i (fun q9 => ?_) (fun q9 => ?_)
      · exact e_some ⟨hW, hF, trivial⟩
      · refine e_bnd ?_
        refine e_eq (f_Stacks_height_goal.eq_1 _ _) ?_
        refine e_f q1 ?_
        refine e_f q4 ?_
        refine e_grd (inb_g f6 rfl) ?_
        refine e_someG (fun w12 hw12 => ?_)
        refine e_i (fun q14 => ?_) (fun q14 => ?_)
        · refine e_grd (inb_g f6 rfl) ?_
          refine e_nmG (fun w15 hw15 => ?_)
          refine e_grd (inb_g f6 rfl) ?_
          refine e_wrA (fun T16 eT16 hT16 v16 => ?_)
          have hW16 := WR.st (k := 106) hW trivial rfl eT16
          have hF16 := hF.tr hT16 rfl
          exact e_some ⟨hW16, hF16, trivial⟩
        · exact e_some ⟨hW, hF, trivial⟩
set_option maxRecDepth 20000 in
set_option maxHeartbeats 4000000 in
theorem t_Yard_room {a1 : Int32} {a2 : Int32} {S : SS} (hW : WR S) : Ex2 (f_Yard_room a1 a2 S) (fun r U => WR U ∧ Fr [106] [] S U ∧ True) := by
  have hF : Fr [106] [] S S := Fr.rf
  refine e_eq (f_Yard_room.eq_1 _ _ _) ?_
  refine e_bnd ?_
  refine e_eq (f_Yard_isNot.eq_1 _ _ _ _) ?_
  refine e_i (fun q1 => ?_) (fun q1 => ?_)
  · refine e_some ?_
    refine e_f (by decide) ?_
    exact e_some ⟨hW, hF, trivial⟩
  · refine e_i (fun q4 => ?_) (fun q4 => ?_)
    · refine e_some ?_
      refine e_t (by decide) ?_
      refine e_bnd ?_
      refine e_eq (f_Yard_isNot.eq_1 _ _ _ _) ?_
      refine e_i (fun q6 => ?_) (fun q6 => ?_)
      · refine e_some ?_
        refine e_f (by decide) ?_
        exact e_some ⟨hW, hF, trivial⟩
      · refine e_i (fun q9 => ?_) (fun q9 => ?_)
        · refine e_some ?_
          refine e_t (by decide) ?_
          refine e_cE (t_Plans_setRoom hW) (fun u11 T11 p11 => ?_)
          obtain ⟨hW11, hT11, hr11⟩ := p11
          have hF11 := hF.tr hT11 rfl
          exact e_some ⟨hW11, hF11, trivial⟩
        · refine e_some ?_
          refine e_f (by decide) ?_
          exact e_some ⟨hW, hF, trivial⟩
    · refine e_some ?_
      refine e_f (by decide) ?_
      exact e_some ⟨hW, hF, trivial⟩
set_option maxRecDepth 20000 in
set_option maxHeartbeats 4000000 in
theorem t_Stacks_wagonAt_start {a1 : Int32} {a2 : Int32} {S : SS} (hW : WR S) : Ex2 (f_Stacks_wagonAt_start a1 a2 S) (fun r U => WR U ∧ Fr [] [] S U ∧ True) := by
  have hF : Fr [] [] S S := Fr.rf
  refine e_eq (f_Stacks_wagonAt_start.eq_1 _ _ _) ?_
  refine e_i (fun q1 => ?_) (fun q1 => ?_)
  · refine e_eq (f_Stacks_wagonAt_start_j27.eq_1 _ _ _) ?_
    refine e_eq (f_Stacks_wagonAt_start_j28.eq_1 _ _ _ _) ?_
    refine e_t (by decide) ?_
    exact e_some ⟨hW, hF, trivial⟩
  · have f3 := nlt_l (rgt _) (rgl 0 0 0 rfl) q1
    refine e_i (fun q4 => ?_) (fun q4 => ?_)
    · refine e_eq (f_Stacks_wagonAt_start_j27.eq_1 _ _ _) ?_
      refine e_eq (f_Stacks_wagonAt_start_j28.eq_1 _ _ _ _) ?_
      refine e_t (by decide) ?_
      exact e_some ⟨hW, hF, trivial⟩
    · have f6 := nle_r 3 (rgl (4) 4 4 rfl) f3 q4 rfl
      refine e_i (fun q7 => ?_) (fun q7 => ?_)
      · refine e_eq (f_Stacks_wagonAt_start_j27.eq_1 _ _ _) ?_
        refine e_eq (f_Stacks_wagonAt_start_j28.eq_1 _ _ _ _) ?_
        refine e_t (by decide) ?_
        exact e_some ⟨hW, hF, trivial⟩
      · have f9 := nlt_l (rgt _) (rgl 0 0 0 rfl) q7
        refine e_grd (inb_g f6 rfl) ?_
        refine e_i (fun q10 => ?_) (fun q10 => ?_)
        · refine e_eq (f_Stacks_wagonAt_start_j27.eq_1 _ _ _) ?_
          refine e_eq (f_Stacks_wagonAt_start_j28.eq_1 _ _ _ _) ?_
          refine e_t (by decide) ?_
          exact e_some ⟨hW, hF, trivial⟩
        · have f12 := nle_r 9 (ro_123 hW _) f9 q10 rfl
          refine e_eq (f_Stacks_wagonAt_start_j28.eq_1 _ _ _ _) ?_
          refine e_f (by decide) ?_
          refine e_grd (inb_g (rg_add 0 39 (rg_mul 0 30 (rgl (10) 10 10 rfl) f6 rfl) f12 rfl) rfl) ?_
          exact e_some ⟨hW, hF, trivial⟩
set_option maxRecDepth 20000 in
set_option maxHeartbeats 4000000 in
theorem t_Stacks_placeOn_start_L2 {S0 : SS} : ∀ (n : Nat) (x1 : Int32) (x2 : Int32) (x3 : Int32) (S : SS), WR S → Fr [] [] S0 S → rg x3 0 10 → 10 - x3.toInt < (n : Int) → Ex2 (f_Stacks_placeOn_start_L2 n x1 x2 x3 S) (fun r U => WR U ∧ Fr [] [] S0 U ∧ rn r 0 9) := by
  intro n
  induction n with
  | zero =>
    intro x1 x2 x3 S hW hF h2 hm
    exact up_0 h2 hm rfl
  | succ n ih =>
    intro x1 x2 x3 S hW hF h2 hm
    refine e_eq (f_Stacks_placeOn_start_L2.eq_2 _ _ _ _ _) ?_
    refine e_bnd ?_
    refine e_eq (f_Stacks_height_start.eq_1 _ _) ?_
    refine e_i (fun q1 => ?_) (fun q1 => ?_)
    · refine e_some ?_
      refine e_t (d_le (rgl (0) 0 0 rfl) h2 rfl) ?_
      exact e_some ⟨hW, hF, (rn4 (d_eq (rgl (-4) (-4) (-4) rfl) (rgl (-4) (-4) (-4) rfl) rfl))⟩
    · have f3 := nlt_l (rgt _) (rgl 0 0 0 rfl) q1
      refine e_i (fun q4 => ?_) (fun q4 => ?_)
      · refine e_some ?_
        refine e_t (d_le (rgl (0) 0 0 rfl) h2 rfl) ?_
        exact e_some ⟨hW, hF, (rn4 (d_eq (rgl (-4) (-4) (-4) rfl) (rgl (-4) (-4) (-4) rfl) rfl))⟩
      · have f6 := nle_r 3 (rgl (4) 4 4 rfl) f3 q4 rfl
        refine e_grd (inb_g f6 rfl) ?_
        refine e_someG (fun w7 hw7 => ?_)
        have f8 := rg_tr (ro_123 hW _) hw7
        refine e_i (fun q9 => ?_) (fun q9 => ?_)
        · exact e_some ⟨hW, hF, (rn4 (d_eq (rgl (-4) (-4) (-4) rfl) (rgl (-4) (-4) (-4) rfl) rfl))⟩
        · have f12 := nle_r 9 f8 h2 q9 rfl
          refine e_cE (t_Stacks_wagonAt_start hW) (fun u13 T13 p13 => ?_)
          obtain ⟨-, hT13, hr13⟩ := p13
          have eT13 := (fr_nil hT13).symm
          subst eT13
          refine e_i (fun q14 => ?_) (fun q14 => ?_)
          · exact e_some ⟨hW, hF, (rg.toN (f12.sub rfl))⟩
          · refine e_nmG (fun w15 hw15 => ?_)
            have f16 := rg_tr (rg_add 1 10 f12 (rgl (1) 1 1 rfl) rfl) hw15
            exact ih _ _ _ _ hW hF (f16.sub rfl) (up_s f12 hw15 hm rfl)
set_option maxRecDepth 20000 in
set_option maxHeartbeats 4000000 in
theorem t_Stacks_placeOn_start {a1 : Int32} {a2 : Int32} {S : SS} (hW : WR S) : Ex2 (f_Stacks_placeOn_start a1 a2 S) (fun r U => WR U ∧ Fr [] [] S U ∧ rn r 0 9) := by
  have hF : Fr [] [] S S := Fr.rf
  refine e_eq (f_Stacks_placeOn_start.eq_1 _ _ _) ?_
  exact t_Stacks_placeOn_start_L2  NF _ _ _ _ hW hF ((rgl (0) 0 0 rfl).sub rfl) (up_n (rgl (0) 0 0 rfl) rfl)
set_option maxRecDepth 20000 in
set_option maxHeartbeats 4000000 in
theorem t_Stacks_stackOf_start_L2 {S0 : SS} : ∀ (n : Nat) (x1 : Int32) (x2 : Int32) (S : SS), WR S → Fr [] [] S0 S → rg x2 0 4 → 4 - x2.toInt < (n : Int) → Ex2 (f_Stacks_stackOf_start_L2 n x1 x2 S) (fun r U => WR U ∧ Fr [] [] S0 U ∧ rn r 0 3) := by
  intro n
  induction n with
  | zero =>
    intro x1 x2 S hW hF h1 hm
    exact up_0 h1 hm rfl
  | succ n ih =>
    intro x1 x2 S hW hF h1 hm
    refine e_eq (f_Stacks_stackOf_start_L2.eq_2 _ _ _ _) ?_
    refine e_i (fun q1 => ?_) (fun q1 => ?_)
    · exact e_some ⟨hW, hF, (rn4 (d_eq (rgl (-4) (-4) (-4) rfl) (rgl (-4) (-4) (-4) rfl) rfl))⟩
    · have f3 := nle_r 3 (rgl (4) 4 4 rfl) h1 q1 rfl
      refine e_cE (t_Stacks_placeOn_start hW) (fun u4 T4 p4 => ?_)
      obtain ⟨-, hT4, hr4⟩ := p4
      have eT4 := (fr_nil hT4).symm
      subst eT4
      refine e_i (fun q5 => ?_) (fun q5 => ?_)
      · refine e_nmG (fun w7 hw7 => ?_)
        have f8 := rg_tr (rg_add 1 4 f3 (rgl (1) 1 1 rfl) rfl) hw7
        exact ih _ _ _ hW hF (f8.sub rfl) (up_s f3 hw7 hm rfl)
      · exact e_some ⟨hW, hF, (rg.toN (f3.sub rfl))⟩
set_option maxRecDepth 20000 in
set_option maxHeartbeats 4000000 in
theorem t_Stacks_stackOf_start {a1 : Int32} {S : SS} (hW : WR S) : Ex2 (f_Stacks_stackOf_start a1 S) (fun r U => WR U ∧ Fr [] [] S U ∧ rn r 0 3) := by
  have hF : Fr [] [] S S := Fr.rf
  refine e_eq (f_Stacks_stackOf_start.eq_1 _ _) ?_
  exact t_Stacks_stackOf_start_L2  NF _ _ _ hW hF ((rgl (0) 0 0 rfl).sub rfl) (up_n (rgl (0) 0 0 rfl) rfl)
set_option maxRecDepth 20000 in
set_option maxHeartbeats 4000000 in
theorem t_Stacks_put_start {a1 : Int32} {a2 : Int32} {S : SS} (hW : WR S) : Ew (f_Stacks_put_start a1 a2 S) (fun U => WR U ∧ Fr [122, 123] [] S U) := by
  have hF : Fr [122, 123] [] S S := Fr.rf
  refine v_eq (f_Stacks_put_start.eq_1 _ _ _) ?_
  refine v_i (fun q1 => ?_) (fun q1 => ?_)
  · exact v_some ⟨hW, hF⟩
  · have f3 := nlt_l (rgt _) (rgl 0 0 0 rfl) q1
    refine v_i (fun q4 => ?_) (fun q4 => ?_)
    · exact v_some ⟨hW, hF⟩
    · have f6 := nle_r 3 (rgl (4) 4 4 rfl) f3 q4 rfl
      refine v_grd (inb_g f6 rfl) ?_
      refine v_i (fun q7 => ?_) (fun q7 => ?_)
      · exact v_some ⟨hW, hF⟩
      · have f9 := nle_r 9 (rgl (10) 10 10 rfl) (ro_123 hW _) q7 rfl
        refine v_grd (inb_g f6 rfl) ?_
        refine v_grd (inb_g (rg_add 0 39 (rg_mul 0 30 (rgl (10) 10 10 rfl) f6 rfl) f9 rfl) rfl) ?_
        refine v_wrA (fun T10 eT10 hT10 v10 => ?_)
        have hW10 := WR.st (k := 122) hW trivial rfl eT10
        have hF10 := hF.tr hT10 rfl
        have f11 := rg_tr f9 (hT10.1 123 _ rfl)
        refine v_grd (inb_g f6 rfl) ?_
        refine v_grd (inb_g f6 rfl) ?_
        refine v_wrA (fun T12 eT12 hT12 v12 => ?_)
        have hW12 := wo_123 hW10 ((rg_add 1 10 f11 (rgl (1) 1 1 rfl) rfl).sub rfl) eT12
        have hF12 := hF10.tr hT12 rfl
        exact v_some ⟨hW12, hF12⟩
set_option maxRecDepth 20000 in
set_option maxHeartbeats 4000000 in
theorem t_Stacks_wagonAt_goal {a1 : Int32} {a2 : Int32} {S : SS} (hW : WR S) : Ex2 (f_Stacks_wagonAt_goal a1 a2 S) (fun r U => WR U ∧ Fr [] [] S U ∧ True) := by
  have hF : Fr [] [] S S := Fr.rf
  refine e_eq (f_Stacks_wagonAt_goal.eq_1 _ _ _) ?_
  refine e_i (fun q1 => ?_) (fun q1 => ?_)
  · refine e_eq (f_Stacks_wagonAt_goal_j27.eq_1 _ _ _) ?_
    refine e_eq (f_Stacks_wagonAt_goal_j28.eq_1 _ _ _ _) ?_
    refine e_t (by decide) ?_
    exact e_some ⟨hW, hF, trivial⟩
  · have f3 := nlt_l (rgt _) (rgl 0 0 0 rfl) q1
    refine e_i (fun q4 => ?_) (fun q4 => ?_)
    · refine e_eq (f_Stacks_wagonAt_goal_j27.eq_1 _ _ _) ?_
      refine e_eq (f_Stacks_wagonAt_goal_j28.eq_1 _ _ _ _) ?_
      refine e_t (by decide) ?_
      exact e_some ⟨hW, hF, trivial⟩
    · have f6 := nle_r 3 (rgl (4) 4 4 rfl) f3 q4 rfl
      refine e_i (fun q7 => ?_) (fun q7 => ?_)
      · refine e_eq (f_Stacks_wagonAt_goal_j27.eq_1 _ _ _) ?_
        refine e_eq (f_Stacks_wagonAt_goal_j28.eq_1 _ _ _ _) ?_
        refine e_t (by decide) ?_
        exact e_some ⟨hW, hF, trivial⟩
      · have f9 := nlt_l (rgt _) (rgl 0 0 0 rfl) q7
        refine e_grd (inb_g f6 rfl) ?_
        refine e_i (fun q10 => ?_) (fun q10 => ?_)
        · refine e_eq (f_Stacks_wagonAt_goal_j27.eq_1 _ _ _) ?_
          refine e_eq (f_Stacks_wagonAt_goal_j28.eq_1 _ _ _ _) ?_
          refine e_t (by decide) ?_
          exact e_some ⟨hW, hF, trivial⟩
        · have f12 := nle_r 9 (ro_125 hW _) f9 q10 rfl
          refine e_eq (f_Stacks_wagonAt_goal_j28.eq_1 _ _ _ _) ?_
          refine e_f (by decide) ?_
          refine e_grd (inb_g (rg_add 0 39 (rg_mul 0 30 (rgl (10) 10 10 rfl) f6 rfl) f12 rfl) rfl) ?_
          exact e_some ⟨hW, hF, trivial⟩
set_option maxRecDepth 20000 in
set_option maxHeartbeats 4000000 in
theorem t_Stacks_placeOn_goal_L2 {S0 : SS} : ∀ (n : Nat) (x1 : Int32) (x2 : Int32) (x3 : Int32) (S : SS), WR S → Fr [] [] S0 S → rg x3 0 10 → 10 - x3.toInt < (n : Int) → Ex2 (f_Stacks_placeOn_goal_L2 n x1 x2 x3 S) (fun r U => WR U ∧ Fr [] [] S0 U ∧ rn r 0 9) := by
  intro n
  induction n with
  | zero =>
    intro x1 x2 x3 S hW hF h2 hm
    exact up_0 h2 hm rfl
  | succ n ih =>
    intro x1 x2 x3 S hW hF h2 hm
    refine e_eq (f_Stacks_placeOn_goal_L2.eq_2 _ _ _ _ _) ?_
    refine e_bnd ?_
    refine e_eq (f_Stacks_height_goal.eq_1 _ _) ?_
    refine e_i (fun q1 => ?_) (fun q1 => ?_)
    · refine e_some ?_
      refine e_t (d_le (rgl (0) 0 0 rfl) h2 rfl) ?_
      exact e_some ⟨hW, hF, (rn4 (d_eq (rgl (-4) (-4) (-4) rfl) (rgl (-4) (-4) (-4) rfl) rfl))⟩
    · have f3 := nlt_l (rgt _) (rgl 0 0 0 rfl) q1
      refine e_i (fun q4 => ?_) (fun q4 => ?_)
      · refine e_some ?_
        refine e_t (d_le (rgl (0) 0 0 rfl) h2 rfl) ?_
        exact e_some ⟨hW, hF, (rn4 (d_eq (rgl (-4) (-4) (-4) rfl) (rgl (-4) (-4) (-4) rfl) rfl))⟩
      · have f6 := nle_r 3 (rgl (4) 4 4 rfl) f3 q4 rfl
        refine e_grd (inb_g f6 rfl) ?_
        refine e_someG (fun w7 hw7 => ?_)
        have f8 := rg_tr (ro_125 hW _) hw7
        refine e_i (fun q9 => ?_) (fun q9 => ?_)
        · exact e_some ⟨hW, hF, (rn4 (d_eq (rgl (-4) (-4) (-4) rfl) (rgl (-4) (-4) (-4) rfl) rfl))⟩
        · have f12 := nle_r 9 f8 h2 q9 rfl
          refine e_cE (t_Stacks_wagonAt_goal hW) (fun u13 T13 p13 => ?_)
          obtain ⟨-, hT13, hr13⟩ := p13
          have eT13 := (fr_nil hT13).symm
          subst eT13
          refine e_i (fun q14 => ?_) (fun q14 => ?_)
          · exact e_some ⟨hW, hF, (rg.toN (f12.sub rfl))⟩
          · refine e_nmG (fun w15 hw15 => ?_)
            have f16 := rg_tr (rg_add 1 10 f12 (rgl (1) 1 1 rfl) rfl) hw15
            exact ih _ _ _ _ hW hF (f16.sub rfl) (up_s f12 hw15 hm rfl)
set_option maxRecDepth 20000 in
set_option maxHeartbeats 4000000 in
theorem t_Stacks_placeOn_goal {a1 : Int32} {a2 : Int32} {S : SS} (hW : WR S) : Ex2 (f_Stacks_placeOn_goal a1 a2 S) (fun r U => WR U ∧ Fr [] [] S U ∧ rn r 0 9) := by
  have hF : Fr [] [] S S := Fr.rf
  refine e_eq (f_Stacks_placeOn_goal.eq_1 _ _ _) ?_
  exact t_Stacks_placeOn_goal_L2  NF _ _ _ _ hW hF ((rgl (0) 0 0 rfl).sub rfl) (up_n (rgl (0) 0 0 rfl) rfl)
set_option maxRecDepth 20000 in
set_option maxHeartbeats 4000000 in
theorem t_Stacks_stackOf_goal_L2 {S0 : SS} : ∀ (n : Nat) (x1 : Int32) (x2 : Int32) (S : SS), WR S → Fr [] [] S0 S → rg x2 0 4 → 4 - x2.toInt < (n : Int) → Ex2 (f_Stacks_stackOf_goal_L2 n x1 x2 S) (fun r U => WR U ∧ Fr [] [] S0 U ∧ rn r 0 3) := by
  intro n
  induction n with
  | zero =>
    intro x1 x2 S hW hF h1 hm
    exact up_0 h1 hm rfl
  | succ n ih =>
    intro x1 x2 S hW hF h1 hm
    refine e_eq (f_Stacks_stackOf_goal_L2.eq_2 _ _ _ _) ?_
    refine e_i (fun q1 => ?_) (fun q1 => ?_)
    · exact e_some ⟨hW, hF, (rn4 (d_eq (rgl (-4) (-4) (-4) rfl) (rgl (-4) (-4) (-4) rfl) rfl))⟩
    · have f3 := nle_r 3 (rgl (4) 4 4 rfl) h1 q1 rfl
      refine e_cE (t_Stacks_placeOn_goal hW) (fun u4 T4 p4 => ?_)
      obtain ⟨-, hT4, hr4⟩ := p4
      have eT4 := (fr_nil hT4).symm
      subst eT4
      refine e_i (fun q5 => ?_) (fun q5 => ?_)
      · refine e_nmG (fun w7 hw7 => ?_)
        have f8 := rg_tr (rg_add 1 4 f3 (rgl (1) 1 1 rfl) rfl) hw7
        exact ih _ _ _ hW hF (f8.sub rfl) (up_s f3 hw7 hm rfl)
      · exact e_some ⟨hW, hF, (rg.toN (f3.sub rfl))⟩
set_option maxRecDepth 20000 in
set_option maxHeartbeats 4000000 in
theorem t_Stacks_stackOf_goal {a1 : Int32} {S : SS} (hW : WR S) : Ex2 (f_Stacks_stackOf_goal a1 S) (fun r U => WR U ∧ Fr [] [] S U ∧ rn r 0 3) := by
  have hF : Fr [] [] S S := Fr.rf
  refine e_eq (f_Stacks_stackOf_goal.eq_1 _ _) ?_
  exact t_Stacks_stackOf_goal_L2  NF _ _ _ hW hF ((rgl (0) 0 0 rfl).sub rfl) (up_n (rgl (0) 0 0 rfl) rfl)
set_option maxRecDepth 20000 in
set_option maxHeartbeats 4000000 in
theorem t_Stacks_put_goal {a1 : Int32} {a2 : Int32} {S : SS} (hW : WR S) : Ew (f_Stacks_put_goal a1 a2 S) (fun U => WR U ∧ Fr [124, 125] [] S U) := by
  have hF : Fr [124, 125] [] S S := Fr.rf
  refine v_eq (f_Stacks_put_goal.eq_1 _ _ _) ?_
  refine v_i (fun q1 => ?_) (fun q1 => ?_)
  · exact v_some ⟨hW, hF⟩
  · have f3 := nlt_l (rgt _) (rgl 0 0 0 rfl) q1
    refine v_i (fun q4 => ?_) (fun q4 => ?_)
    · exact v_some ⟨hW, hF⟩
    · have f6 := nle_r 3 (rgl (4) 4 4 rfl) f3 q4 rfl
      refine v_grd (inb_g f6 rfl) ?_
      refine v_i (fun q7 => ?_) (fun q7 => ?_)
      · exact v_some ⟨hW, hF⟩
      · have f9 := nle_r 9 (rgl (10) 10 10 rfl) (ro_125 hW _) q7 rfl
        refine v_grd (inb_g f6 rfl) ?_
        refine v_grd (inb_g (rg_add 0 39 (rg_mul 0 30 (rgl (10) 10 10 rfl) f6 rfl) f9 rfl) rfl) ?_
        refine v_wrA (fun T10 eT10 hT10 v10 => ?_)
        have hW10 := WR.st (k := 124) hW trivial rfl eT10
        have hF10 := hF.tr hT10 rfl
        have f11 := rg_tr f9 (hT10.1 125 _ rfl)
        refine v_grd (inb_g f6 rfl) ?_
        refine v_grd (inb_g f6 rfl) ?_
        refine v_wrA (fun T12 eT12 hT12 v12 => ?_)
        have hW12 := wo_125 hW10 ((rg_add 1 10 f11 (rgl (1) 1 1 rfl) rfl).sub rfl) eT12
        have hF12 := hF10.tr hT12 rfl
        exact v_some ⟨hW12, hF12⟩
set_option maxRecDepth 20000 in
set_option maxHeartbeats 4000000 in
theorem t_Plans_put {a1 : Int32} {a2 : Int32} {a3 : Int32} {S : SS} (hW : WR S) : Ex2 (f_Plans_put a1 a2 a3 S) (fun r U => WR U ∧ Fr [122, 123, 124, 125] [] S U ∧ rg r (-1) 10) := by
  have hF : Fr [122, 123, 124, 125] [] S S := Fr.rf
  refine e_eq (f_Plans_put.eq_1 _ _ _ _) ?_
  refine e_i (fun q1 => ?_) (fun q1 => ?_)
  · refine e_eq (f_Plans_put_j15.eq_1 _ _ _) ?_
    refine e_i (fun q3 => ?_) (fun q3 => ?_)
    · exact e_some ⟨hW, hF, ((rgl (-1) (-1) (-1) rfl).sub rfl)⟩
    · have f5 := nlt_l (rgt _) (rgl 0 0 0 rfl) q3
      refine e_i (fun q6 => ?_) (fun q6 => ?_)
      · exact e_some ⟨hW, hF, ((rgl (-1) (-1) (-1) rfl).sub rfl)⟩
      · have f8 := nle_r 3 (rgl (4) 4 4 rfl) f5 q6 rfl
        refine e_bnd ?_
        refine e_eq (f_Stacks_height_start.eq_1 _ _) ?_
        refine e_f q3 ?_
        refine e_f q6 ?_
        refine e_grd (inb_g f8 rfl) ?_
        refine e_someG (fun w9 hw9 => ?_)
        refine e_grd (inb_g f8 rfl) ?_
        refine e_i (fun q11 => ?_) (fun q11 => ?_)
        · exact e_some ⟨hW, hF, ((rgl (-1) (-1) (-1) rfl).sub rfl)⟩
        · refine e_cE (t_Stacks_stackOf_start hW) (fun u14 T14 p14 => ?_)
          obtain ⟨-, hT14, hr14⟩ := p14
          have eT14 := (fr_nil hT14).symm
          subst eT14
          refine e_i (fun q15 => ?_) (fun q15 => ?_)
          · refine e_cV (t_Stacks_put_start hW) (fun T17 p17 => ?_)
            obtain ⟨hW17, hT17⟩ := p17
            have hF17 := hF.tr hT17 rfl
            refine e_bnd ?_
            refine e_eq (f_Stacks_height_start.eq_1 _ _) ?_
            refine e_f q3 ?_
            refine e_f q6 ?_
            refine e_grd (inb_g f8 rfl) ?_
            refine e_someG (fun w19 hw19 => ?_)
            have f20 := rg_tr (ro_123 hW17 _) hw19
            exact e_some ⟨hW17, hF17, (f20.sub rfl)⟩
          · exact e_some ⟨hW, hF, ((rgl (-1) (-1) (-1) rfl).sub rfl)⟩
  · refine e_eq (f_Plans_put_j15_1.eq_1 _ _ _) ?_
    refine e_i (fun q22 => ?_) (fun q22 => ?_)
    · exact e_some ⟨hW, hF, ((rgl (-1) (-1) (-1) rfl).sub rfl)⟩
    · have f24 := nlt_l (rgt _) (rgl 0 0 0 rfl) q22
      refine e_i (fun q25 => ?_) (fun q25 => ?_)
      · exact e_some ⟨hW, hF, ((rgl (-1) (-1) (-1) rfl).sub rfl)⟩
      · have f27 := nle_r 3 (rgl (4) 4 4 rfl) f24 q25 rfl
        refine e_bnd ?_
        refine e_eq (f_Stacks_height_goal.eq_1 _ _) ?_
        refine e_f q22 ?_
        refine e_f q25 ?_
        refine e_grd (inb_g f27 rfl) ?_
        refine e_someG (fun w28 hw28 => ?_)
        refine e_grd (inb_g f27 rfl) ?_
        refine e_i (fun q30 => ?_) (fun q30 => ?_)
        · exact e_some ⟨hW, hF, ((rgl (-1) (-1) (-1) rfl).sub rfl)⟩
        · refine e_cE (t_Stacks_stackOf_goal hW) (fun u33 T33 p33 => ?_)
          obtain ⟨-, hT33, hr33⟩ := p33
          have eT33 := (fr_nil hT33).symm
          subst eT33
          refine e_i (fun q34 => ?_) (fun q34 => ?_)
          · refine e_cV (t_Stacks_put_goal hW) (fun T36 p36 => ?_)
            obtain ⟨hW36, hT36⟩ := p36
            have hF36 := hF.tr hT36 rfl
            refine e_bnd ?_
            refine e_eq (f_Stacks_height_goal.eq_1 _ _) ?_
            refine e_f q22 ?_
            refine e_f q25 ?_
            refine e_grd (inb_g f27 rfl) ?_
            refine e_someG (fun w38 hw38 => ?_)
            have f39 := rg_tr (ro_125 hW36 _) hw38
            exact e_some ⟨hW36, hF36, (f39.sub rfl)⟩
          · exact e_some ⟨hW, hF, ((rgl (-1) (-1) (-1) rfl).sub rfl)⟩
set_option maxRecDepth 20000 in
set_option maxHeartbeats 4000000 in
theorem t_Yard_lay {a1 : Int32} {a2 : Int32} {a3 : Int32} {S : SS} (hW : WR S) : Ex2 (f_Yard_lay a1 a2 a3 S) (fun r U => WR U ∧ Fr [122, 123, 124, 125] [] S U ∧ rg r (-1) 10) := by
  have hF : Fr [122, 123, 124, 125] [] S S := Fr.rf
  refine e_eq (f_Yard_lay.eq_1 _ _ _ _) ?_
  refine e_bnd ?_
  refine e_eq (f_Yard_isNot.eq_1 _ _ _ _) ?_
  refine e_i (fun q1 => ?_) (fun q1 => ?_)
  · refine e_some ?_
    refine e_f (by decide) ?_
    exact e_some ⟨hW, hF, ((rgl (-1) (-1) (-1) rfl).sub rfl)⟩
  · refine e_i (fun q4 => ?_) (fun q4 => ?_)
    · refine e_some ?_
      refine e_t (by decide) ?_
      refine e_bnd ?_
      refine e_eq (f_Yard_isNot.eq_1 _ _ _ _) ?_
      refine e_i (fun q6 => ?_) (fun q6 => ?_)
      · refine e_some ?_
        refine e_f (by decide) ?_
        exact e_some ⟨hW, hF, ((rgl (-1) (-1) (-1) rfl).sub rfl)⟩
      · refine e_i (fun q9 => ?_) (fun q9 => ?_)
        · refine e_some ?_
          refine e_t (by decide) ?_
          refine e_cE (t_Plans_put hW) (fun u11 T11 p11 => ?_)
          obtain ⟨hW11, hT11, hr11⟩ := p11
          have hF11 := hF.tr hT11 rfl
          exact e_some ⟨hW11, hF11, hr11⟩
        · refine e_some ?_
          refine e_f (by decide) ?_
          exact e_some ⟨hW, hF, ((rgl (-1) (-1) (-1) rfl).sub rfl)⟩
    · refine e_some ?_
      refine e_f (by decide) ?_
      exact e_some ⟨hW, hF, ((rgl (-1) (-1) (-1) rfl).sub rfl)⟩
set_option maxRecDepth 20000 in
set_option maxHeartbeats 4000000 in
theorem t_Stacks_members_start_L11 {S0 : SS} {K : Int32 → Int32 → SS → Option (Int32 × SS)} {x2 : Int32} (hK : ∀ (k0 : Int32) (k1 : Int32) (S' : SS), WR S' → Fr [] [] S0 S' → rg k1 0 4 → k1 = x2 + 1 → Ex2 (K k0 k1 S') (fun r U => WR U ∧ Fr [] [] S0 U ∧ True)) : ∀ (n : Nat) (x1 : Int32) (x3 : Int32) (S : SS), WR S → Fr [] [] S0 S → rg x2 0 3 → rg x3 0 10 → 10 - x3.toInt < (n : Int) → Ex2 (f_Stacks_members_start_L11 K n x1 x2 x3 S) (fun r U => WR U ∧ Fr [] [] S0 U ∧ True) := by
  intro n
  induction n with
  | zero =>
    intro x1 x3 S hW hF h1 h2 hm
    exact up_0 h2 hm rfl
  | succ n ih =>
    intro x1 x3 S hW hF h1 h2 hm
    refine e_eq (f_Stacks_members_start_L11.eq_2 _ _ _ _ _ _) ?_
    refine e_grd (inb_g h1 rfl) ?_
    refine e_i (fun q1 => ?_) (fun q1 => ?_)
    · refine e_nmG (fun w2 hw2 => ?_)
      have f3 := rg_tr (rg_add 1 4 h1 (rgl (1) 1 1 rfl) rfl) hw2
      exact hK _ _ _ hW hF (f3.sub rfl) hw2
    · have f5 := nle_r 9 (ro_123 hW _) h2 q1 rfl
      refine e_cE (t_Stacks_wagonAt_start hW) (fun u6 T6 p6 => ?_)
      obtain ⟨-, hT6, hr6⟩ := p6
      have eT6 := (fr_nil hT6).symm
      subst eT6
      refine e_nmG (fun w7 hw7 => ?_)
      refine e_nmG (fun w8 hw8 => ?_)
      have f9 := rg_tr (rg_add 1 10 f5 (rgl (1) 1 1 rfl) rfl) hw8
      exact ih _ _ _ hW hF h1 (f9.sub rfl) (up_s f5 hw8 hm rfl)
set_option maxRecDepth 20000 in
set_option maxHeartbeats 4000000 in
theorem t_Stacks_members_start_L4 {S0 : SS} : ∀ (n : Nat) (x1 : Int32) (x2 : Int32) (S : SS), WR S → Fr [] [] S0 S → rg x2 0 4 → 4 - x2.toInt < (n : Int) → Ex2 (f_Stacks_members_start_L4 n x1 x2 S) (fun r U => WR U ∧ Fr [] [] S0 U ∧ True) := by
  intro n
  induction n with
  | zero =>
    intro x1 x2 S hW hF h1 hm
    exact up_0 h1 hm rfl
  | succ n ih =>
    intro x1 x2 S hW hF h1 hm
    refine e_eq (f_Stacks_members_start_L4.eq_2 _ _ _ _) ?_
    refine e_i (fun q1 => ?_) (fun q1 => ?_)
    · exact e_some ⟨hW, hF, trivial⟩
    · have f3 := nle_r 3 (rgl (4) 4 4 rfl) h1 q1 rfl
      exact t_Stacks_members_start_L11 (fun _ _ S' hW' hF' hk1 ke => ih _ _ S' hW' hF' hk1 (up_s f3 ke hm rfl)) NF _ _ _ hW hF f3 ((rgl (0) 0 0 rfl).sub rfl) (up_n (rgl (0) 0 0 rfl) rfl)
set_option maxRecDepth 20000 in
set_option maxHeartbeats 4000000 in
theorem t_Stacks_members_start {S : SS} (hW : WR S) : Ex2 (f_Stacks_members_start  S) (fun r U => WR U ∧ Fr [] [] S U ∧ True) := by
  have hF : Fr [] [] S S := Fr.rf
  refine e_eq (f_Stacks_members_start.eq_1 _) ?_
  exact t_Stacks_members_start_L4  NF _ _ _ hW hF ((rgl (0) 0 0 rfl).sub rfl) (up_n (rgl (0) 0 0 rfl) rfl)
set_option maxRecDepth 20000 in
set_option maxHeartbeats 4000000 in
theorem t_Integer_bitCount_0f7a4 {a0 : Int32} {S : SS} (hW : WR S) : Ex2 (f_Integer_bitCount_0f7a4 a0 S) (fun r U => WR U ∧ Fr [] [] S U ∧ True) := by
  have hF : Fr [] [] S S := Fr.rf
  refine e_eq (f_Integer_bitCount_0f7a4.eq_1 _ _) ?_
  refine e_nmG (fun w1 hw1 => ?_)
  refine e_nmG (fun w2 hw2 => ?_)
  refine e_nmG (fun w3 hw3 => ?_)
  refine e_nmG (fun w4 hw4 => ?_)
  refine e_nmG (fun w5 hw5 => ?_)
  exact e_some ⟨hW, hF, trivial⟩
set_option maxRecDepth 20000 in
set_option maxHeartbeats 4000000 in
theorem t_Arrays_fill_53178_start_heights_L5 {S0 : SS} : ∀ (n : Nat) (x1 : Int32) (x2 : Int32) (x3 : Int32) (S : SS), WR S → Fr [123] [] S0 S → rg x1 0 10 → rg x2 0 4 → rg x3 4 4 → 4 - x2.toInt < (n : Int) → Ew (f_Arrays_fill_53178_start_heights_L5 n x1 x2 x3 S) (fun U => WR U ∧ Fr [123] [] S0 U) := by
  intro n
  induction n with
  | zero =>
    intro x1 x2 x3 S hW hF h0 h1 h2 hm
    exact up_0 h1 hm rfl
  | succ n ih =>
    intro x1 x2 x3 S hW hF h0 h1 h2 hm
    refine v_eq (f_Arrays_fill_53178_start_heights_L5.eq_2 _ _ _ _ _) ?_
    refine v_i (fun q1 => ?_) (fun q1 => ?_)
    · exact v_some ⟨hW, hF⟩
    · have f3 := nle_r 3 h2 h1 q1 rfl
      refine v_grd (inb_g f3 rfl) ?_
      refine v_wrA (fun T4 eT4 hT4 v4 => ?_)
      have hW4 := wo_123 hW h0 eT4
      have hF4 := hF.tr hT4 rfl
      refine v_nmG (fun w6 hw6 => ?_)
      have f7 := rg_tr (rg_add 1 4 f3 (rgl (1) 1 1 rfl) rfl) hw6
      exact ih _ _ _ _ hW4 hF4 h0 (f7.sub rfl) h2 (up_s f3 hw6 hm rfl)
set_option maxRecDepth 20000 in
set_option maxHeartbeats 4000000 in
theorem t_Arrays_fill_53178_start_heights {a1 : Int32} {S : SS} (hW : WR S) (h0 : rg a1 0 10) : Ew (f_Arrays_fill_53178_start_heights a1 S) (fun U => WR U ∧ Fr [123] [] S U) := by
  have hF : Fr [123] [] S S := Fr.rf
  refine v_eq (f_Arrays_fill_53178_start_heights.eq_1 _ _) ?_
  refine v_nmG (fun w1 hw1 => ?_)
  have f2 := rg_tr (rgl (Int32.ofNat 4) 4 4 rfl) hw1
  exact t_Arrays_fill_53178_start_heights_L5  NF _ _ _ _ hW hF h0 ((rgl (0) 0 0 rfl).sub rfl) f2 (up_n (rgl (0) 0 0 rfl) rfl)
set_option maxRecDepth 20000 in
set_option maxHeartbeats 4000000 in
theorem t_Stacks_empty_start {S : SS} (hW : WR S) : Ew (f_Stacks_empty_start  S) (fun U => WR U ∧ Fr [123] [] S U) := by
  have hF : Fr [123] [] S S := Fr.rf
  refine v_eq (f_Stacks_empty_start.eq_1 _) ?_
  refine v_cV (t_Arrays_fill_53178_start_heights hW ((rgl (0) 0 0 rfl).sub rfl)) (fun T1 p1 => ?_)
  obtain ⟨hW1, hT1⟩ := p1
  have hF1 := hF.tr hT1 rfl
  exact v_some ⟨hW1, hF1⟩
set_option maxRecDepth 20000 in
set_option maxHeartbeats 4000000 in
theorem t_Arrays_fill_53178_goal_heights_L5 {S0 : SS} : ∀ (n : Nat) (x1 : Int32) (x2 : Int32) (x3 : Int32) (S : SS), WR S → Fr [125] [] S0 S → rg x1 0 10 → rg x2 0 4 → rg x3 4 4 → 4 - x2.toInt < (n : Int) → Ew (f_Arrays_fill_53178_goal_heights_L5 n x1 x2 x3 S) (fun U => WR U ∧ Fr [125] [] S0 U) := by
  intro n
  induction n with
  | zero =>
    intro x1 x2 x3 S hW hF h0 h1 h2 hm
    exact up_0 h1 hm rfl
  | succ n ih =>
    intro x1 x2 x3 S hW hF h0 h1 h2 hm
    refine v_eq (f_Arrays_fill_53178_goal_heights_L5.eq_2 _ _ _ _ _) ?_
    refine v_i (fun q1 => ?_) (fun q1 => ?_)
    · exact v_some ⟨hW, hF⟩
    · have f3 := nle_r 3 h2 h1 q1 rfl
      refine v_grd (inb_g f3 rfl) ?_
      refine v_wrA (fun T4 eT4 hT4 v4 => ?_)
      have hW4 := wo_125 hW h0 eT4
      have hF4 := hF.tr hT4 rfl
      refine v_nmG (fun w6 hw6 => ?_)
      have f7 := rg_tr (rg_add 1 4 f3 (rgl (1) 1 1 rfl) rfl) hw6
      exact ih _ _ _ _ hW4 hF4 h0 (f7.sub rfl) h2 (up_s f3 hw6 hm rfl)
set_option maxRecDepth 20000 in
set_option maxHeartbeats 4000000 in
theorem t_Arrays_fill_53178_goal_heights {a1 : Int32} {S : SS} (hW : WR S) (h0 : rg a1 0 10) : Ew (f_Arrays_fill_53178_goal_heights a1 S) (fun U => WR U ∧ Fr [125] [] S U) := by
  have hF : Fr [125] [] S S := Fr.rf
  refine v_eq (f_Arrays_fill_53178_goal_heights.eq_1 _ _) ?_
  refine v_nmG (fun w1 hw1 => ?_)
  have f2 := rg_tr (rgl (Int32.ofNat 4) 4 4 rfl) hw1
  exact t_Arrays_fill_53178_goal_heights_L5  NF _ _ _ _ hW hF h0 ((rgl (0) 0 0 rfl).sub rfl) f2 (up_n (rgl (0) 0 0 rfl) rfl)
set_option maxRecDepth 20000 in
set_option maxHeartbeats 4000000 in
theorem t_Stacks_empty_goal {S : SS} (hW : WR S) : Ew (f_Stacks_empty_goal  S) (fun U => WR U ∧ Fr [125] [] S U) := by
  have hF : Fr [125] [] S S := Fr.rf
  refine v_eq (f_Stacks_empty_goal.eq_1 _) ?_
  refine v_cV (t_Arrays_fill_53178_goal_heights hW ((rgl (0) 0 0 rfl).sub rfl)) (fun T1 p1 => ?_)
  obtain ⟨hW1, hT1⟩ := p1
  have hF1 := hF.tr hT1 rfl
  exact v_some ⟨hW1, hF1⟩
set_option maxRecDepth 20000 in
set_option maxHeartbeats 4000000 in
theorem t_Plans_drop {S : SS} (hW : WR S) : Ew (f_Plans_drop  S) (fun U => WR U ∧ Fr [] [(70, 7), (70, 8)] S U) := by
  have hF : Fr [] [(70, 7), (70, 8)] S S := Fr.rf
  refine v_eq (f_Plans_drop.eq_1 _) ?_
  refine v_wrO (fun T1 eT1 hT1 v1 => ?_)
  have hW1 := WR.st (k := 70) (i := 8) hW trivial rfl eT1
  have hF1 := hF.tr hT1 rfl
  refine v_wrO (fun T3 eT3 hT3 v3 => ?_)
  have hW3 := wo_70_7 hW1 ((rgl (0) 0 0 rfl).sub rfl) eT3
  have hF3 := hF1.tr hT3 rfl
  exact v_some ⟨hW3, hF3⟩
set_option maxRecDepth 20000 in
set_option maxHeartbeats 4000000 in
theorem t_Plans_clear {S : SS} (hW : WR S) : Ex2 (f_Plans_clear  S) (fun r U => WR U ∧ Fr [123, 125] [(70, 7), (70, 8)] S U ∧ True) := by
  have hF : Fr [123, 125] [(70, 7), (70, 8)] S S := Fr.rf
  refine e_eq (f_Plans_clear.eq_1 _) ?_
  refine e_cE (t_Stacks_members_start hW) (fun u1 T1 p1 => ?_)
  obtain ⟨-, hT1, hr1⟩ := p1
  have eT1 := (fr_nil hT1).symm
  subst eT1
  refine e_cE (t_Integer_bitCount_0f7a4 hW) (fun u2 T2 p2 => ?_)
  obtain ⟨-, hT2, hr2⟩ := p2
  have eT2 := (fr_nil hT2).symm
  subst eT2
  refine e_cV (t_Stacks_empty_start hW) (fun T3 p3 => ?_)
  obtain ⟨hW3, hT3⟩ := p3
  have hF3 := hF.tr hT3 rfl
  refine e_cV (t_Stacks_empty_goal hW3) (fun T4 p4 => ?_)
  obtain ⟨hW4, hT4⟩ := p4
  have hF4 := hF3.tr hT4 rfl
  refine e_cV (t_Plans_drop hW4) (fun T5 p5 => ?_)
  obtain ⟨hW5, hT5⟩ := p5
  have hF5 := hF4.tr hT5 rfl
  exact e_some ⟨hW5, hF5, trivial⟩
set_option maxRecDepth 20000 in
set_option maxHeartbeats 4000000 in
theorem t_Yard_wipe {S : SS} (hW : WR S) : Ex2 (f_Yard_wipe  S) (fun r U => WR U ∧ Fr [123, 125] [(70, 7), (70, 8)] S U ∧ True) := by
  have hF : Fr [123, 125] [(70, 7), (70, 8)] S S := Fr.rf
  refine e_eq (f_Yard_wipe.eq_1 _) ?_
  refine e_cE (t_Plans_clear hW) (fun u1 T1 p1 => ?_)
  obtain ⟨hW1, hT1, hr1⟩ := p1
  have hF1 := hF.tr hT1 rfl
  exact e_some ⟨hW1, hF1, trivial⟩
set_option maxRecDepth 20000 in
set_option maxHeartbeats 4000000 in
theorem t_Plans_moveAt {a1 : Int32} {a2 : Int32} {S : SS} (hW : WR S) : Ex2 (f_Plans_moveAt a1 a2 S) (fun r U => WR U ∧ Fr [] [] S U ∧ True) := by
  have hF : Fr [] [] S S := Fr.rf
  refine e_eq (f_Plans_moveAt.eq_1 _ _ _) ?_
  refine e_i (fun q1 => ?_) (fun q1 => ?_)
  · exact e_some ⟨hW, hF, trivial⟩
  · have f3 := nlt_l (rgt _) (rgl 0 0 0 rfl) q1
    refine e_i (fun q4 => ?_) (fun q4 => ?_)
    · exact e_some ⟨hW, hF, trivial⟩
    · have f6 := nle_r 127 (ro_70_7 hW) f3 q4 rfl
      refine e_t (d_lt f6 (rgl (128) 128 128 rfl) rfl) ?_
      refine e_i (fun q7 => ?_) (fun q7 => ?_)
      · refine e_grd (inb_g f6 rfl) ?_
        exact e_some ⟨hW, hF, trivial⟩
      · refine e_i (fun q9 => ?_) (fun q9 => ?_)
        · refine e_grd (inb_g f6 rfl) ?_
          exact e_some ⟨hW, hF, trivial⟩
        · refine e_grd (inb_g f6 rfl) ?_
          exact e_some ⟨hW, hF, trivial⟩
set_option maxRecDepth 20000 in
set_option maxHeartbeats 4000000 in
theorem t_Yard_move {a1 : Int32} {a2 : Int32} {S : SS} (hW : WR S) : Ex2 (f_Yard_move a1 a2 S) (fun r U => WR U ∧ Fr [] [] S U ∧ True) := by
  have hF : Fr [] [] S S := Fr.rf
  refine e_eq (f_Yard_move.eq_1 _ _ _) ?_
  refine e_i (fun q1 => ?_) (fun q1 => ?_)
  · exact e_some ⟨hW, hF, trivial⟩
  · refine e_bnd ?_
    refine e_eq (f_Yard_isNot.eq_1 _ _ _ _) ?_
    refine e_i (fun q4 => ?_) (fun q4 => ?_)
    · refine e_some ?_
      refine e_f (by decide) ?_
      exact e_some ⟨hW, hF, trivial⟩
    · refine e_i (fun q7 => ?_) (fun q7 => ?_)
      · refine e_some ?_
        refine e_t (by decide) ?_
        refine e_cE (t_Plans_moveAt hW) (fun u9 T9 p9 => ?_)
        obtain ⟨-, hT9, hr9⟩ := p9
        have eT9 := (fr_nil hT9).symm
        subst eT9
        exact e_some ⟨hW, hF, trivial⟩
      · refine e_some ?_
        refine e_f (by decide) ?_
        exact e_some ⟨hW, hF, trivial⟩
set_option maxRecDepth 20000 in
set_option maxHeartbeats 4000000 in
theorem t_Stacks_members_goal_L11 {S0 : SS} {K : Int32 → Int32 → SS → Option (Int32 × SS)} {x2 : Int32} (hK : ∀ (k0 : Int32) (k1 : Int32) (S' : SS), WR S' → Fr [] [] S0 S' → rg k1 0 4 → k1 = x2 + 1 → Ex2 (K k0 k1 S') (fun r U => WR U ∧ Fr [] [] S0 U ∧ True)) : ∀ (n : Nat) (x1 : Int32) (x3 : Int32) (S : SS), WR S → Fr [] [] S0 S → rg x2 0 3 → rg x3 0 10 → 10 - x3.toInt < (n : Int) → Ex2 (f_Stacks_members_goal_L11 K n x1 x2 x3 S) (fun r U => WR U ∧ Fr [] [] S0 U ∧ True) := by
  intro n
  induction n with
  | zero =>
    intro x1 x3 S hW hF h1 h2 hm
    exact up_0 h2 hm rfl
  | succ n ih =>
    intro x1 x3 S hW hF h1 h2 hm
    refine e_eq (f_Stacks_members_goal_L11.eq_2 _ _ _ _ _ _) ?_
    refine e_grd (inb_g h1 rfl) ?_
    refine e_i (fun q1 => ?_) (fun q1 => ?_)
    · refine e_nmG (fun w2 hw2 => ?_)
      have f3 := rg_tr (rg_add 1 4 h1 (rgl (1) 1 1 rfl) rfl) hw2
      exact hK _ _ _ hW hF (f3.sub rfl) hw2
    · have f5 := nle_r 9 (ro_125 hW _) h2 q1 rfl
      refine e_cE (t_Stacks_wagonAt_goal hW) (fun u6 T6 p6 => ?_)
      obtain ⟨-, hT6, hr6⟩ := p6
      have eT6 := (fr_nil hT6).symm
      subst eT6
      refine e_nmG (fun w7 hw7 => ?_)
      refine e_nmG (fun w8 hw8 => ?_)
      have f9 := rg_tr (rg_add 1 10 f5 (rgl (1) 1 1 rfl) rfl) hw8
      exact ih _ _ _ hW hF h1 (f9.sub rfl) (up_s f5 hw8 hm rfl)
set_option maxRecDepth 20000 in
set_option maxHeartbeats 4000000 in
theorem t_Stacks_members_goal_L4 {S0 : SS} : ∀ (n : Nat) (x1 : Int32) (x2 : Int32) (S : SS), WR S → Fr [] [] S0 S → rg x2 0 4 → 4 - x2.toInt < (n : Int) → Ex2 (f_Stacks_members_goal_L4 n x1 x2 S) (fun r U => WR U ∧ Fr [] [] S0 U ∧ True) := by
  intro n
  induction n with
  | zero =>
    intro x1 x2 S hW hF h1 hm
    exact up_0 h1 hm rfl
  | succ n ih =>
    intro x1 x2 S hW hF h1 hm
    refine e_eq (f_Stacks_members_goal_L4.eq_2 _ _ _ _) ?_
    refine e_i (fun q1 => ?_) (fun q1 => ?_)
    · exact e_some ⟨hW, hF, trivial⟩
    · have f3 := nle_r 3 (rgl (4) 4 4 rfl) h1 q1 rfl
      exact t_Stacks_members_goal_L11 (fun _ _ S' hW' hF' hk1 ke => ih _ _ S' hW' hF' hk1 (up_s f3 ke hm rfl)) NF _ _ _ hW hF f3 ((rgl (0) 0 0 rfl).sub rfl) (up_n (rgl (0) 0 0 rfl) rfl)
set_option maxRecDepth 20000 in
set_option maxHeartbeats 4000000 in
theorem t_Stacks_members_goal {S : SS} (hW : WR S) : Ex2 (f_Stacks_members_goal  S) (fun r U => WR U ∧ Fr [] [] S U ∧ True) := by
  have hF : Fr [] [] S S := Fr.rf
  refine e_eq (f_Stacks_members_goal.eq_1 _) ?_
  exact t_Stacks_members_goal_L4  NF _ _ _ hW hF ((rgl (0) 0 0 rfl).sub rfl) (up_n (rgl (0) 0 0 rfl) rfl)
set_option maxRecDepth 20000 in
set_option maxHeartbeats 4000000 in
theorem t_Plans_haveSameWagons {S : SS} (hW : WR S) : Ex2 (f_Plans_haveSameWagons  S) (fun r U => WR U ∧ Fr [] [] S U ∧ rg r 0 1) := by
  have hF : Fr [] [] S S := Fr.rf
  refine e_eq (f_Plans_haveSameWagons.eq_1 _) ?_
  refine e_cE (t_Stacks_members_start hW) (fun u1 T1 p1 => ?_)
  obtain ⟨-, hT1, hr1⟩ := p1
  have eT1 := (fr_nil hT1).symm
  subst eT1
  refine e_cE (t_Stacks_members_goal hW) (fun u2 T2 p2 => ?_)
  obtain ⟨-, hT2, hr2⟩ := p2
  have eT2 := (fr_nil hT2).symm
  subst eT2
  refine e_i (fun q3 => ?_) (fun q3 => ?_)
  · exact e_some ⟨hW, hF, ((rgl (1) 1 1 rfl).sub rfl)⟩
  · exact e_some ⟨hW, hF, ((rgl (0) 0 0 rfl).sub rfl)⟩
set_option maxRecDepth 20000 in
set_option maxHeartbeats 4000000 in
theorem t_Stacks_below_start {a1 : Int32} {S : SS} (hW : WR S) : Ex2 (f_Stacks_below_start a1 S) (fun r U => WR U ∧ Fr [] [] S U ∧ True) := by
  have hF : Fr [] [] S S := Fr.rf
  refine e_eq (f_Stacks_below_start.eq_1 _ _) ?_
  refine e_cE (t_Stacks_stackOf_start hW) (fun u1 T1 p1 => ?_)
  obtain ⟨-, hT1, hr1⟩ := p1
  have eT1 := (fr_nil hT1).symm
  subst eT1
  refine e_cE (t_Stacks_placeOn_start hW) (fun u2 T2 p2 => ?_)
  obtain ⟨-, hT2, hr2⟩ := p2
  have eT2 := (fr_nil hT2).symm
  subst eT2
  refine e_i (fun q3 => ?_) (fun q3 => ?_)
  · exact e_some ⟨hW, hF, trivial⟩
  · refine e_cE (t_Stacks_wagonAt_start hW) (fun u6 T6 p6 => ?_)
    obtain ⟨-, hT6, hr6⟩ := p6
    have eT6 := (fr_nil hT6).symm
    subst eT6
    exact e_some ⟨hW, hF, trivial⟩
set_option maxRecDepth 20000 in
set_option maxHeartbeats 4000000 in
theorem t_Stacks_below_goal {a1 : Int32} {S : SS} (hW : WR S) : Ex2 (f_Stacks_below_goal a1 S) (fun r U => WR U ∧ Fr [] [] S U ∧ True) := by
  have hF : Fr [] [] S S := Fr.rf
  refine e_eq (f_Stacks_below_goal.eq_1 _ _) ?_
  refine e_cE (t_Stacks_stackOf_goal hW) (fun u1 T1 p1 => ?_)
  obtain ⟨-, hT1, hr1⟩ := p1
  have eT1 := (fr_nil hT1).symm
  subst eT1
  refine e_cE (t_Stacks_placeOn_goal hW) (fun u2 T2 p2 => ?_)
  obtain ⟨-, hT2, hr2⟩ := p2
  have eT2 := (fr_nil hT2).symm
  subst eT2
  refine e_i (fun q3 => ?_) (fun q3 => ?_)
  · exact e_some ⟨hW, hF, trivial⟩
  · refine e_cE (t_Stacks_wagonAt_goal hW) (fun u6 T6 p6 => ?_)
    obtain ⟨-, hT6, hr6⟩ := p6
    have eT6 := (fr_nil hT6).symm
    subst eT6
    exact e_some ⟨hW, hF, trivial⟩
set_option maxRecDepth 20000 in
set_option maxHeartbeats 4000000 in
theorem t_Plans_countMoved_L12 {S0 : SS} : ∀ (n : Nat) (x1 : Int32) (x2 : Int32) (x3 : Int32) (S : SS), WR S → Fr [] [] S0 S → rg x3 0 10 → 10 - x3.toInt < (n : Int) → Ex2 (f_Plans_countMoved_L12 n x1 x2 x3 S) (fun r U => WR U ∧ Fr [] [] S0 U ∧ True) := by
  intro n
  induction n with
  | zero =>
    intro x1 x2 x3 S hW hF h2 hm
    exact up_0 h2 hm rfl
  | succ n ih =>
    intro x1 x2 x3 S hW hF h2 hm
    refine e_eq (f_Plans_countMoved_L12.eq_2 _ _ _ _ _) ?_
    refine e_i (fun q1 => ?_) (fun q1 => ?_)
    · exact e_some ⟨hW, hF, trivial⟩
    · have f3 := nle_r 9 (rgl (10) 10 10 rfl) h2 q1 rfl
      refine e_i (fun q4 => ?_) (fun q4 => ?_)
      · refine e_cE (t_Stacks_below_start hW) (fun u6 T6 p6 => ?_)
        obtain ⟨-, hT6, hr6⟩ := p6
        have eT6 := (fr_nil hT6).symm
        subst eT6
        refine e_cE (t_Stacks_below_goal hW) (fun u7 T7 p7 => ?_)
        obtain ⟨-, hT7, hr7⟩ := p7
        have eT7 := (fr_nil hT7).symm
        subst eT7
        refine e_i (fun q8 => ?_) (fun q8 => ?_)
        · refine e_eq (f_Plans_countMoved_j49.eq_1 _ _ _ _ _) ?_
          refine e_nmG (fun w9 hw9 => ?_)
          have f10 := rg_tr (rg_add 1 10 f3 (rgl (1) 1 1 rfl) rfl) hw9
          exact ih _ _ _ _ hW hF (f10.sub rfl) (up_s f3 hw9 hm rfl)
        · refine e_nmG (fun w11 hw11 => ?_)
          refine e_eq (f_Plans_countMoved_j49.eq_1 _ _ _ _ _) ?_
          refine e_nmG (fun w12 hw12 => ?_)
          have f13 := rg_tr (rg_add 1 10 f3 (rgl (1) 1 1 rfl) rfl) hw12
          exact ih _ _ _ _ hW hF (f13.sub rfl) (up_s f3 hw12 hm rfl)
      · refine e_eq (f_Plans_countMoved_j49.eq_1 _ _ _ _ _) ?_
        refine e_nmG (fun w15 hw15 => ?_)
        have f16 := rg_tr (rg_add 1 10 f3 (rgl (1) 1 1 rfl) rfl) hw15
        exact ih _ _ _ _ hW hF (f16.sub rfl) (up_s f3 hw15 hm rfl)
set_option maxRecDepth 20000 in
set_option maxHeartbeats 4000000 in
theorem t_Plans_countMoved {S : SS} (hW : WR S) : Ex2 (f_Plans_countMoved  S) (fun r U => WR U ∧ Fr [] [] S U ∧ True) := by
  have hF : Fr [] [] S S := Fr.rf
  refine e_eq (f_Plans_countMoved.eq_1 _) ?_
  refine e_cE (t_Stacks_members_start hW) (fun u1 T1 p1 => ?_)
  obtain ⟨-, hT1, hr1⟩ := p1
  have eT1 := (fr_nil hT1).symm
  subst eT1
  exact t_Plans_countMoved_L12  NF _ _ _ _ hW hF ((rgl (0) 0 0 rfl).sub rfl) (up_n (rgl (0) 0 0 rfl) rfl)
set_option maxRecDepth 20000 in
set_option maxHeartbeats 4000000 in
theorem t_Yard_bound {S : SS} (hW : WR S) : Ex2 (f_Yard_bound  S) (fun r U => WR U ∧ Fr [] [] S U ∧ True) := by
  have hF : Fr [] [] S S := Fr.rf
  refine e_eq (f_Yard_bound.eq_1 _) ?_
  refine e_cE (t_Plans_haveSameWagons hW) (fun u1 T1 p1 => ?_)
  obtain ⟨-, hT1, hr1⟩ := p1
  have eT1 := (fr_nil hT1).symm
  subst eT1
  refine e_i (fun q2 => ?_) (fun q2 => ?_)
  · exact e_some ⟨hW, hF, trivial⟩
  · refine e_cE (t_Plans_countMoved hW) (fun u5 T5 p5 => ?_)
    obtain ⟨-, hT5, hr5⟩ := p5
    have eT5 := (fr_nil hT5).symm
    subst eT5
    exact e_some ⟨hW, hF, trivial⟩
set_option maxRecDepth 20000 in
set_option maxHeartbeats 4000000 in
theorem t_Potentials_isRank {a1 : Int32} {S : SS} (hW : WR S) : Ex2 (f_Potentials_isRank a1 S) (fun r U => WR U ∧ Fr [] [] S U ∧ rg r 0 1) := by
  have hF : Fr [] [] S S := Fr.rf
  refine e_eq (f_Potentials_isRank.eq_1 _ _) ?_
  refine e_i (fun q1 => ?_) (fun q1 => ?_)
  · exact e_some ⟨hW, hF, ((rgl (0) 0 0 rfl).sub rfl)⟩
  · refine e_i (fun q4 => ?_) (fun q4 => ?_)
    · exact e_some ⟨hW, hF, ((rgl (0) 0 0 rfl).sub rfl)⟩
    · exact e_some ⟨hW, hF, ((rgl (1) 1 1 rfl).sub rfl)⟩
theorem t_Stacks_become_work_start {S : SS} (hW : WR S) : Ew (f_Stacks_become_work_start S) (fun U => WR U ∧ Fr [126, 127] [] S U) := by
  have hF : Fr [126, 127] [] S S := Fr.rf
  refine v_eq (f_Stacks_become_work_start.eq_1 _) ?_
  refine v_grd (by decide) ?_
  refine v_cpw ?_
  have hW1 := wr_cp (k0 := 122) (k1 := 126) (sp := (0 : Int32).toNatClampNeg) (dp := (0 : Int32).toNatClampNeg) (n := (Int32.ofNat 40).toNatClampNeg) hW (fun _ _ => trivial) (fun _ => rfl)
  have g1 := fr_cp (S := S) (k0 := 122) (k1 := 126) (sp := (0 : Int32).toNatClampNeg) (dp := (0 : Int32).toNatClampNeg) (n := (Int32.ofNat 40).toNatClampNeg)
  generalize cp S 122 126 (0 : Int32).toNatClampNeg (0 : Int32).toNatClampNeg (Int32.ofNat 40).toNatClampNeg = T at hW1 g1 ⊢
  refine v_grd (by decide) ?_
  refine v_cpw ?_
  have hW2 := wr_cp (k0 := 123) (k1 := 127) (sp := (0 : Int32).toNatClampNeg) (dp := (0 : Int32).toNatClampNeg) (n := (Int32.ofNat 4).toNatClampNeg) hW1 (fun _ j => ro_123 hW1 j) (fun _ => rfl)
  exact v_some ⟨hW2, (hF.tr g1 rfl).tr fr_cp rfl⟩
set_option maxRecDepth 20000 in
set_option maxHeartbeats 4000000 in
theorem t_Stacks_wagonAt_work {a1 : Int32} {a2 : Int32} {S : SS} (hW : WR S) : Ex2 (f_Stacks_wagonAt_work a1 a2 S) (fun r U => WR U ∧ Fr [] [] S U ∧ True) := by
  have hF : Fr [] [] S S := Fr.rf
  refine e_eq (f_Stacks_wagonAt_work.eq_1 _ _ _) ?_
  refine e_i (fun q1 => ?_) (fun q1 => ?_)
  · refine e_eq (f_Stacks_wagonAt_work_j27.eq_1 _ _ _) ?_
    refine e_eq (f_Stacks_wagonAt_work_j28.eq_1 _ _ _ _) ?_
    refine e_t (by decide) ?_
    exact e_some ⟨hW, hF, trivial⟩
  · have f3 := nlt_l (rgt _) (rgl 0 0 0 rfl) q1
    refine e_i (fun q4 => ?_) (fun q4 => ?_)
    · refine e_eq (f_Stacks_wagonAt_work_j27.eq_1 _ _ _) ?_
      refine e_eq (f_Stacks_wagonAt_work_j28.eq_1 _ _ _ _) ?_
      refine e_t (by decide) ?_
      exact e_some ⟨hW, hF, trivial⟩
    · have f6 := nle_r 3 (rgl (4) 4 4 rfl) f3 q4 rfl
      refine e_i (fun q7 => ?_) (fun q7 => ?_)
      · refine e_eq (f_Stacks_wagonAt_work_j27.eq_1 _ _ _) ?_
        refine e_eq (f_Stacks_wagonAt_work_j28.eq_1 _ _ _ _) ?_
        refine e_t (by decide) ?_
        exact e_some ⟨hW, hF, trivial⟩
      · have f9 := nlt_l (rgt _) (rgl 0 0 0 rfl) q7
        refine e_grd (inb_g f6 rfl) ?_
        refine e_i (fun q10 => ?_) (fun q10 => ?_)
        · refine e_eq (f_Stacks_wagonAt_work_j27.eq_1 _ _ _) ?_
          refine e_eq (f_Stacks_wagonAt_work_j28.eq_1 _ _ _ _) ?_
          refine e_t (by decide) ?_
          exact e_some ⟨hW, hF, trivial⟩
        · have f12 := nle_r 9 (ro_127 hW _) f9 q10 rfl
          refine e_eq (f_Stacks_wagonAt_work_j28.eq_1 _ _ _ _) ?_
          refine e_f (by decide) ?_
          refine e_grd (inb_g (rg_add 0 39 (rg_mul 0 30 (rgl (10) 10 10 rfl) f6 rfl) f12 rfl) rfl) ?_
          exact e_some ⟨hW, hF, trivial⟩
