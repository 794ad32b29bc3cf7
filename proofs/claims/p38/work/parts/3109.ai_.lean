set_option maxRecDepth 20000 in
set_option maxHeartbeats 4000000 in
theorem t_State_beginRun {a1 : Int32} {a2 : Int32} {a3 : Int32} {S : SS} (hW : WR S) : Ew (f_State_beginRun a1 a2 a3 S) (fun U => WR U ∧ Fr [79] [] S U) := by
  have hF : Fr [79] [] S S := Fr.rf
  refine v_eq (f_State_beginRun.eq_1 _ _ _ _) ?_
  refine v_i (fun q1 => ?_) (fun q1 => ?_)
  · exact v_some ⟨hW, hF⟩
  · refine v_grd (inb_g (rgl (1) 1 1 rfl) rfl) ?_
    refine v_i (fun q4 => ?_) (fun q4 => ?_)
    · have f5 := lt_l 71 (hW.1 79 1) (rgl (72) 72 72 rfl) q4 rfl
      refine v_bndv ?_
      refine v_eq (f_State_set.eq_1 _ _ _ _) ?_
      refine v_i (fun q6 => ?_) (fun q6 => ?_)
      · refine v_some ?_
        refine v_bndv ?_
        refine v_eq (f_State_set.eq_1 _ _ _ _) ?_
        refine v_t q6 ?_
        refine v_some ?_
        refine v_grd (inb_g (rgl (1) 1 1 rfl) rfl) ?_
        refine v_grd (inb_g (rg_add 2 73 (rgl (2) 2 2 rfl) f5 rfl) rfl) ?_
        refine v_wrA (fun T8 eT8 hT8 v8 => ?_)
        have hW8 := WR.st (k := 79) hW (okS_g (rg_add 2 73 (rgl (2) 2 2 rfl) f5 rfl) rfl) rfl eT8
        have hF8 := hF.tr hT8 rfl
        have f9 := rg_tr f5 (st_i1 eT8 (rg_add 2 73 (rgl (2) 2 2 rfl) f5 rfl) rfl)
        refine v_grd (inb_g (rgl (1) 1 1 rfl) rfl) ?_
        refine v_grd (inb_g (rgl (1) 1 1 rfl) rfl) ?_
        refine v_wrA (fun T11 eT11 hT11 v11 => ?_)
        have hW11 := wo_79_1 hW8 ((rg_add 1 72 f9 (rgl (1) 1 1 rfl) rfl).sub rfl) eT11
        have hF11 := hF8.tr hT11 rfl
        exact v_some ⟨hW11, hF11⟩
      · have f13 := nlt_l (rgt _) (rgl 0 0 0 rfl) q6
        refine v_i (fun q14 => ?_) (fun q14 => ?_)
        · refine v_some ?_
          refine v_bndv ?_
          refine v_eq (f_State_set.eq_1 _ _ _ _) ?_
          refine v_f q6 ?_
          refine v_t q14 ?_
          refine v_some ?_
          refine v_grd (inb_g (rgl (1) 1 1 rfl) rfl) ?_
          refine v_grd (inb_g (rg_add 2 73 (rgl (2) 2 2 rfl) f5 rfl) rfl) ?_
          refine v_wrA (fun T15 eT15 hT15 v15 => ?_)
          have hW15 := WR.st (k := 79) hW (okS_g (rg_add 2 73 (rgl (2) 2 2 rfl) f5 rfl) rfl) rfl eT15
          have hF15 := hF.tr hT15 rfl
          have f16 := rg_tr f5 (st_i1 eT15 (rg_add 2 73 (rgl (2) 2 2 rfl) f5 rfl) rfl)
          refine v_grd (inb_g (rgl (1) 1 1 rfl) rfl) ?_
          refine v_grd (inb_g (rgl (1) 1 1 rfl) rfl) ?_
          refine v_wrA (fun T18 eT18 hT18 v18 => ?_)
          have hW18 := wo_79_1 hW15 ((rg_add 1 72 f16 (rgl (1) 1 1 rfl) rfl).sub rfl) eT18
          have hF18 := hF15.tr hT18 rfl
          exact v_some ⟨hW18, hF18⟩
        · have f21 := nle_r 71 (ro_63_1 hW) f13 q14 rfl
          refine v_grd (inb_g (rg_add 162 943 (rg_add 154 935 (rgl (154) 154 154 rfl) (rg_mul 0 781 (rgl (11) 11 11 rfl) f21 rfl) rfl) (rgl (8) 8 8 rfl) rfl) rfl) ?_
          refine v_wrA (fun T22 eT22 hT22 v22 => ?_)
          have hW22 := WR.st (k := 79) hW (okS_g (rg_add 162 943 (rg_add 154 935 (rgl (154) 154 154 rfl) (rg_mul 0 781 (rgl (11) 11 11 rfl) f21 rfl) rfl) (rgl (8) 8 8 rfl) rfl) rfl) rfl eT22
          have hF22 := hF.tr hT22 rfl
          have f24 := rg_tr f5 (st_i1 eT22 (rg_add 162 943 (rg_add 154 935 (rgl (154) 154 154 rfl) (rg_mul 0 781 (rgl (11) 11 11 rfl) f21 rfl) rfl) (rgl (8) 8 8 rfl) rfl) rfl)
          refine v_some ?_
          refine v_bndv ?_
          refine v_eq (f_State_set.eq_1 _ _ _ _) ?_
          refine v_f q6 ?_
          refine v_i (fun q26 => ?_) (fun q26 => ?_)
          · refine v_some ?_
            refine v_grd (inb_g (rgl (1) 1 1 rfl) rfl) ?_
            refine v_grd (inb_g (rg_add 2 73 (rgl (2) 2 2 rfl) f24 rfl) rfl) ?_
            refine v_wrA (fun T29 eT29 hT29 v29 => ?_)
            have hW29 := WR.st (k := 79) hW22 (okS_g (rg_add 2 73 (rgl (2) 2 2 rfl) f24 rfl) rfl) rfl eT29
            have hF29 := hF22.tr hT29 rfl
            have f31 := rg_tr f24 (st_i1 eT29 (rg_add 2 73 (rgl (2) 2 2 rfl) f24 rfl) rfl)
            refine v_grd (inb_g (rgl (1) 1 1 rfl) rfl) ?_
            refine v_grd (inb_g (rgl (1) 1 1 rfl) rfl) ?_
            refine v_wrA (fun T33 eT33 hT33 v33 => ?_)
            have hW33 := wo_79_1 hW29 ((rg_add 1 72 f31 (rgl (1) 1 1 rfl) rfl).sub rfl) eT33
            have hF33 := hF29.tr hT33 rfl
            exact v_some ⟨hW33, hF33⟩
          · refine v_grd (inb_g (rg_add 163 944 (rg_add 154 935 (rgl (154) 154 154 rfl) (rg_mul 0 781 (rgl (11) 11 11 rfl) f21 rfl) rfl) (rgl (9) 9 9 rfl) rfl) rfl) ?_
            refine v_wrA (fun T36 eT36 hT36 v36 => ?_)
            have hW36 := WR.st (k := 79) hW22 (okS_g (rg_add 163 944 (rg_add 154 935 (rgl (154) 154 154 rfl) (rg_mul 0 781 (rgl (11) 11 11 rfl) f21 rfl) rfl) (rgl (9) 9 9 rfl) rfl) rfl) rfl eT36
            have hF36 := hF22.tr hT36 rfl
            have f38 := rg_tr f24 (st_i1 eT36 (rg_add 163 944 (rg_add 154 935 (rgl (154) 154 154 rfl) (rg_mul 0 781 (rgl (11) 11 11 rfl) f21 rfl) rfl) (rgl (9) 9 9 rfl) rfl) rfl)
            refine v_some ?_
            refine v_grd (inb_g (rgl (1) 1 1 rfl) rfl) ?_
            refine v_grd (inb_g (rg_add 2 73 (rgl (2) 2 2 rfl) f38 rfl) rfl) ?_
            refine v_wrA (fun T39 eT39 hT39 v39 => ?_)
            have hW39 := WR.st (k := 79) hW36 (okS_g (rg_add 2 73 (rgl (2) 2 2 rfl) f38 rfl) rfl) rfl eT39
            have hF39 := hF36.tr hT39 rfl
            have f41 := rg_tr f38 (st_i1 eT39 (rg_add 2 73 (rgl (2) 2 2 rfl) f38 rfl) rfl)
            refine v_grd (inb_g (rgl (1) 1 1 rfl) rfl) ?_
            refine v_grd (inb_g (rgl (1) 1 1 rfl) rfl) ?_
            refine v_wrA (fun T43 eT43 hT43 v43 => ?_)
            have hW43 := wo_79_1 hW39 ((rg_add 1 72 f41 (rgl (1) 1 1 rfl) rfl).sub rfl) eT43
            have hF43 := hF39.tr hT43 rfl
            exact v_some ⟨hW43, hF43⟩
    · exact v_some ⟨hW, hF⟩
set_option maxRecDepth 20000 in
set_option maxHeartbeats 4000000 in
theorem t_Yard_kickTo {a1 : Int32} {a2 : Int32} {S : SS} (hW : WR S) : Ex2 (f_Yard_kickTo a1 a2 S) (fun r U => WR U ∧ Fr [77, 78, 79] [(62, 2), (62, 3)] S U ∧ True) := by
  have hF : Fr [77, 78, 79] [(62, 2), (62, 3)] S S := Fr.rf
  refine e_eq (f_Yard_kickTo.eq_1 _ _ _) ?_
  refine e_bnd ?_
  refine e_eq (f_Yard_namedSide.eq_1 _ _ _ _) ?_
  refine e_bnd ?_
  refine e_eq (f_Yard_named.eq_1 _ _ _) ?_
  refine e_bnd ?_
  refine e_eq (f_Yard_isNot.eq_1 _ _ _ _) ?_
  refine e_i (fun q1 => ?_) (fun q1 => ?_)
  · refine e_some ?_
    refine e_f (by decide) ?_
    refine e_some ?_
    refine e_f (by decide) ?_
    refine e_some ?_
    refine e_f (by decide) ?_
    refine e_eq (f_Yard_kickTo_j44.eq_1 _ _ _ _) ?_
    refine e_f (by decide) ?_
    refine e_eq (f_Yard_kickTo_j62.eq_1 _ _ _ _) ?_
    refine e_f (by decide) ?_
    refine e_cE (t_Report_found hW) (fun u3 T3 p3 => ?_)
    obtain ⟨hW3, hT3, hr3⟩ := p3
    have hF3 := hF.tr hT3 rfl
    exact e_some ⟨hW3, hF3, trivial⟩
  · refine e_i (fun q5 => ?_) (fun q5 => ?_)
    · refine e_some ?_
      refine e_t (by decide) ?_
      refine e_i (fun q7 => ?_) (fun q7 => ?_)
      · refine e_bnd ?_
        refine e_eq (f_Stock_isAs.eq_1 _ _ _) ?_
        refine e_cE (t_Stock_get hW ((rgl (0) 0 0 rfl).sub rfl)) (fun u9 T9 p9 => ?_)
        obtain ⟨-, hT9, hr9⟩ := p9
        have eT9 := (fr_nil hT9).symm
        subst eT9
        refine e_i (fun q10 => ?_) (fun q10 => ?_)
        · refine e_some ?_
          refine e_t (by decide) ?_
          refine e_some ?_
          refine e_f (by decide) ?_
          refine e_some ?_
          refine e_f (by decide) ?_
          refine e_eq (f_Yard_kickTo_j44.eq_1 _ _ _ _) ?_
          refine e_f (by decide) ?_
          refine e_eq (f_Yard_kickTo_j62.eq_1 _ _ _ _) ?_
          refine e_f (by decide) ?_
          refine e_cE (t_Report_found hW) (fun u12 T12 p12 => ?_)
          obtain ⟨hW12, hT12, hr12⟩ := p12
          have hF12 := hF.tr hT12 rfl
          exact e_some ⟨hW12, hF12, trivial⟩
        · refine e_i (fun q15 => ?_) (fun q15 => ?_)
          · refine e_some ?_
            refine e_f (by decide) ?_
            refine e_bnd ?_
            refine e_eq (f_State_isThere.eq_1 _ _) ?_
            refine e_cE (t_State_get hW ((rgl (0) 0 0 rfl).sub rfl)) (fun u17 T17 p17 => ?_)
            obtain ⟨-, hT17, hr17⟩ := p17
            have eT17 := (fr_nil hT17).symm
            subst eT17
            refine e_i (fun q18 => ?_) (fun q18 => ?_)
            · refine e_some ?_
              refine e_t (by decide) ?_
              refine e_some ?_
              refine e_f (by decide) ?_
              refine e_some ?_
              refine e_f (by decide) ?_
              refine e_eq (f_Yard_kickTo_j44.eq_1 _ _ _ _) ?_
              refine e_f (by decide) ?_
              refine e_eq (f_Yard_kickTo_j62.eq_1 _ _ _ _) ?_
              refine e_f (by decide) ?_
              refine e_cE (t_Report_found hW) (fun u20 T20 p20 => ?_)
              obtain ⟨hW20, hT20, hr20⟩ := p20
              have hF20 := hF.tr hT20 rfl
              exact e_some ⟨hW20, hF20, trivial⟩
            · refine e_some ?_
              refine e_f (by decide) ?_
              refine e_some ?_
              refine e_t (by decide) ?_
              refine e_bnd ?_
              refine e_eq (f_Yard_isNot.eq_1 _ _ _ _) ?_
              refine e_i (fun q23 => ?_) (fun q23 => ?_)
              · refine e_some ?_
                refine e_f (by decide) ?_
                refine e_some ?_
                refine e_f (by decide) ?_
                refine e_eq (f_Yard_kickTo_j44.eq_1 _ _ _ _) ?_
                refine e_f (by decide) ?_
                refine e_eq (f_Yard_kickTo_j62.eq_1 _ _ _ _) ?_
                refine e_f (by decide) ?_
                refine e_cE (t_Report_found hW) (fun u25 T25 p25 => ?_)
                obtain ⟨hW25, hT25, hr25⟩ := p25
                have hF25 := hF.tr hT25 rfl
                exact e_some ⟨hW25, hF25, trivial⟩
              · refine e_i (fun q28 => ?_) (fun q28 => ?_)
                · refine e_some ?_
                  refine e_t (by decide) ?_
                  refine e_some ?_
                  refine e_t (by decide) ?_
                  refine e_cE (t_State_get hW ((rgl (2) 2 2 rfl).sub rfl)) (fun u30 T30 p30 => ?_)
                  obtain ⟨-, hT30, hr30⟩ := p30
                  have eT30 := (fr_nil hT30).symm
                  subst eT30
                  refine e_i (fun q31 => ?_) (fun q31 => ?_)
                  · refine e_cE (t_State_get hW ((rgl (3) 3 3 rfl).sub rfl)) (fun u33 T33 p33 => ?_)
                    obtain ⟨-, hT33, hr33⟩ := p33
                    have eT33 := (fr_nil hT33).symm
                    subst eT33
                    refine e_i (fun q34 => ?_) (fun q34 => ?_)
                    · refine e_eq (f_Yard_kickTo_j44.eq_1 _ _ _ _) ?_
                      refine e_t (by decide) ?_
                      refine e_cE (t_State_isRunning hW) (fun u36 T36 p36 => ?_)
                      obtain ⟨-, hT36, hr36⟩ := p36
                      have eT36 := (fr_nil hT36).symm
                      subst eT36
                      refine e_i (fun q37 => ?_) (fun q37 => ?_)
                      · refine e_eq (f_Yard_kickTo_j62.eq_1 _ _ _ _) ?_
                        refine e_t (by decide) ?_
                        refine e_cE (t_Bodies_heavy hW) (fun u39 T39 p39 => ?_)
                        obtain ⟨hW39, hT39, hr39⟩ := p39
                        have hF39 := hF.tr hT39 rfl
                        refine e_bnd ?_
                        refine e_eq (f_Math_min_7cf53.eq_1 _ _ _) ?_
                        refine e_i (fun q41 => ?_) (fun q41 => ?_)
                        · refine e_some ?_
                          refine e_t (by decide) ?_
                          refine e_grd (inb_g (rgl (7) 7 7 rfl) rfl) ?_
                          refine e_eq (f_Yard_kickTo_j109.eq_1 _ _ _ _) ?_
                          refine e_cV (t_State_beginRun hW39) (fun T43 p43 => ?_)
                          obtain ⟨hW43, hT43⟩ := p43
                          have hF43 := hF39.tr hT43 rfl
                          exact e_some ⟨hW43, hF43, trivial⟩
                        · have f45 := nlt_r (rgl (7) 7 7 rfl) (rgt _) q41
                          refine e_someG (fun w46 hw46 => ?_)
                          have f47 := rg_tr f45 hw46
                          refine e_i (fun q48 => ?_) (fun q48 => ?_)
                          · have f49 := le_r (rgl 0 0 0 rfl) f47 q48
                            refine e_grd (inb_g f49 rfl) ?_
                            refine e_eq (f_Yard_kickTo_j109.eq_1 _ _ _ _) ?_
                            refine e_cV (t_State_beginRun hW39) (fun T50 p50 => ?_)
                            obtain ⟨hW50, hT50⟩ := p50
                            have hF50 := hF39.tr hT50 rfl
                            exact e_some ⟨hW50, hF50, trivial⟩
                          · refine e_eq (f_Yard_kickTo_j109.eq_1 _ _ _ _) ?_
                            refine e_cV (t_State_beginRun hW39) (fun T53 p53 => ?_)
                            obtain ⟨hW53, hT53⟩ := p53
                            have hF53 := hF39.tr hT53 rfl
                            exact e_some ⟨hW53, hF53, trivial⟩
                      · refine e_eq (f_Yard_kickTo_j62.eq_1 _ _ _ _) ?_
                        refine e_f (by decide) ?_
                        refine e_cE (t_Report_found hW) (fun u56 T56 p56 => ?_)
                        obtain ⟨hW56, hT56, hr56⟩ := p56
                        have hF56 := hF.tr hT56 rfl
                        exact e_some ⟨hW56, hF56, trivial⟩
                    · refine e_eq (f_Yard_kickTo_j41.eq_1 _ _ _) ?_
                      refine e_eq (f_Yard_kickTo_j44.eq_1 _ _ _ _) ?_
                      refine e_f (by decide) ?_
                      refine e_eq (f_Yard_kickTo_j62.eq_1 _ _ _ _) ?_
                      refine e_f (by decide) ?_
                      refine e_cE (t_Report_found hW) (fun u58 T58 p58 => ?_)
                      obtain ⟨hW58, hT58, hr58⟩ := p58
                      have hF58 := hF.tr hT58 rfl
                      exact e_some ⟨hW58, hF58, trivial⟩
                  · refine e_eq (f_Yard_kickTo_j41.eq_1 _ _ _) ?_
                    refine e_eq (f_Yard_kickTo_j44.eq_1 _ _ _ _) ?_
                    refine e_f (by decide) ?_
                    refine e_eq (f_Yard_kickTo_j62.eq_1 _ _ _ _) ?_
                    refine e_f (by decide) ?_
                    refine e_cE (t_Report_found hW) (fun u60 T60 p60 => ?_)
                    obtain ⟨hW60, hT60, hr60⟩ := p60
                    have hF60 := hF.tr hT60 rfl
                    exact e_some ⟨hW60, hF60, trivial⟩
                · refine e_some ?_
                  refine e_f (by decide) ?_
                  refine e_some ?_
                  refine e_f (by decide) ?_
                  refine e_eq (f_Yard_kickTo_j44.eq_1 _ _ _ _) ?_
                  refine e_f (by decide) ?_
                  refine e_eq (f_Yard_kickTo_j62.eq_1 _ _ _ _) ?_
                  refine e_f (by decide) ?_
                  refine e_cE (t_Report_found hW) (fun u63 T63 p63 => ?_)
                  obtain ⟨hW63, hT63, hr63⟩ := p63
                  have hF63 := hF.tr hT63 rfl
                  exact e_some ⟨hW63, hF63, trivial⟩
          · refine e_some ?_
            refine e_t (by decide) ?_
            refine e_some ?_
            refine e_f (by decide) ?_
            refine e_some ?_
            refine e_f (by decide) ?_
            refine e_eq (f_Yard_kickTo_j44.eq_1 _ _ _ _) ?_
            refine e_f (by decide) ?_
            refine e_eq (f_Yard_kickTo_j62.eq_1 _ _ _ _) ?_
            refine e_f (by decide) ?_
            refine e_cE (t_Report_found hW) (fun u66 T66 p66 => ?_)
            obtain ⟨hW66, hT66, hr66⟩ := p66
            have hF66 := hF.tr hT66 rfl
            exact e_some ⟨hW66, hF66, trivial⟩
      · refine e_some ?_
        refine e_f (by decide) ?_
        refine e_some ?_
        refine e_f (by decide) ?_
        refine e_eq (f_Yard_kickTo_j44.eq_1 _ _ _ _) ?_
        refine e_f (by decide) ?_
        refine e_eq (f_Yard_kickTo_j62.eq_1 _ _ _ _) ?_
        refine e_f (by decide) ?_
        refine e_cE (t_Report_found hW) (fun u69 T69 p69 => ?_)
        obtain ⟨hW69, hT69, hr69⟩ := p69
        have hF69 := hF.tr hT69 rfl
        exact e_some ⟨hW69, hF69, trivial⟩
    · refine e_some ?_
      refine e_f (by decide) ?_
      refine e_some ?_
      refine e_f (by decide) ?_
      refine e_some ?_
      refine e_f (by decide) ?_
      refine e_eq (f_Yard_kickTo_j44.eq_1 _ _ _ _) ?_
      refine e_f (by decide) ?_
      refine e_eq (f_Yard_kickTo_j62.eq_1 _ _ _ _) ?_
      refine e_f (by decide) ?_
      refine e_cE (t_Report_found hW) (fun u72 T72 p72 => ?_)
      obtain ⟨hW72, hT72, hr72⟩ := p72
      have hF72 := hF.tr hT72 rfl
      exact e_some ⟨hW72, hF72, trivial⟩
set_option maxRecDepth 20000 in
set_option maxHeartbeats 4000000 in
theorem t_Yard_kick {a1 : Int32} {a2 : Int32} {S : SS} (hW : WR S) : Ex2 (f_Yard_kick a1 a2 S) (fun r U => WR U ∧ Fr [77, 78, 79, 81, 82, 83, 84, 85, 86, 87, 88, 89, 90] [(62, 2), (62, 3), (62, 4), (62, 5), (62, 6), (64, 3), (64, 4), (64, 5), (64, 6), (64, 7)] S U ∧ True) := by
  have hF : Fr [77, 78, 79, 81, 82, 83, 84, 85, 86, 87, 88, 89, 90] [(62, 2), (62, 3), (62, 4), (62, 5), (62, 6), (64, 3), (64, 4), (64, 5), (64, 6), (64, 7)] S S := Fr.rf
  refine e_eq (f_Yard_kick.eq_1 _ _ _) ?_
  refine e_cV (t_Yard_beginAct hW) (fun T1 p1 => ?_)
  obtain ⟨hW1, hT1⟩ := p1
  have hF1 := hF.tr hT1 rfl
  refine e_cE (t_Yard_kickTo hW1) (fun u2 T2 p2 => ?_)
  obtain ⟨hW2, hT2, hr2⟩ := p2
  have hF2 := hF1.tr hT2 rfl
  refine e_cE (t_Yard_endAct hW2) (fun u3 T3 p3 => ?_)
  obtain ⟨hW3, hT3, hr3⟩ := p3
  have hF3 := hF2.tr hT3 rfl
  exact e_some ⟨hW3, hF3, trivial⟩
set_option maxRecDepth 20000 in
set_option maxHeartbeats 4000000 in
theorem t_State_running {S : SS} (hW : WR S) : Ex2 (f_State_running  S) (fun r U => WR U ∧ Fr [] [] S U ∧ rg r 0 72) := by
  have hF : Fr [] [] S S := Fr.rf
  refine e_eq (f_State_running.eq_1 _) ?_
  refine e_grd (inb_g (rgl (1) 1 1 rfl) rfl) ?_
  exact e_some ⟨hW, hF, (hW.1 79 1)⟩
set_option maxRecDepth 20000 in
set_option maxHeartbeats 4000000 in
theorem t_State_runner {a1 : Int32} {S : SS} (hW : WR S) : Ex2 (f_State_runner a1 S) (fun r U => WR U ∧ Fr [] [] S U ∧ True) := by
  have hF : Fr [] [] S S := Fr.rf
  refine e_eq (f_State_runner.eq_1 _ _) ?_
  refine e_i (fun q1 => ?_) (fun q1 => ?_)
  · exact e_some ⟨hW, hF, trivial⟩
  · have f3 := nlt_l (rgt _) (rgl 0 0 0 rfl) q1
    refine e_grd (inb_g (rgl (1) 1 1 rfl) rfl) ?_
    refine e_i (fun q4 => ?_) (fun q4 => ?_)
    · exact e_some ⟨hW, hF, trivial⟩
    · have f6 := nle_r 71 (hW.1 79 1) f3 q4 rfl
      refine e_t (d_lt f6 (rgl (72) 72 72 rfl) rfl) ?_
      refine e_grd (inb_g (rg_add 2 73 (rgl (2) 2 2 rfl) f6 rfl) rfl) ?_
      exact e_some ⟨hW, hF, trivial⟩
set_option maxRecDepth 20000 in
set_option maxHeartbeats 4000000 in
theorem t_State_addDamp {S : SS} (hW : WR S) : Ew (f_State_addDamp  S) (fun U => WR U ∧ Fr [79] [] S U) := by
  have hF : Fr [79] [] S S := Fr.rf
  refine v_eq (f_State_addDamp.eq_1 _) ?_
  refine v_grd (inb_g (rgl (0) 0 0 rfl) rfl) ?_
  refine v_grd (inb_g (rgl (0) 0 0 rfl) rfl) ?_
  refine v_wrA (fun T1 eT1 hT1 v1 => ?_)
  have hW1 := wo_79_0 hW eT1
  have hF1 := hF.tr hT1 rfl
  exact v_some ⟨hW1, hF1⟩
set_option maxRecDepth 20000 in
set_option maxHeartbeats 4000000 in
theorem t_Trains_runsOn {a1 : Int32} {S : SS} (hW : WR S) : Ex2 (f_Trains_runsOn a1 S) (fun r U => WR U ∧ Fr [79] [] S U ∧ rg r 0 1) := by
  have hF : Fr [79] [] S S := Fr.rf
  refine e_eq (f_Trains_runsOn.eq_1 _ _) ?_
  refine e_cE (t_State_get hW ((rgl (9) 9 9 rfl).sub rfl)) (fun u1 T1 p1 => ?_)
  obtain ⟨-, hT1, hr1⟩ := p1
  have eT1 := (fr_nil hT1).symm
  subst eT1
  refine e_nmG (fun w2 hw2 => ?_)
  refine e_cE (t_Trains_nextFrom hW) (fun u3 T3 p3 => ?_)
  obtain ⟨-, hT3, hr3⟩ := p3
  have eT3 := (fr_nil hT3).symm
  subst eT3
  refine e_i (fun q4 => ?_) (fun q4 => ?_)
  · exact e_some ⟨hW, hF, ((rgl (0) 0 0 rfl).sub rfl)⟩
  · refine e_cE (t_State_standsAt hW) (fun u6 T6 p6 => ?_)
    obtain ⟨-, hT6, hr6⟩ := p6
    have eT6 := (fr_nil hT6).symm
    subst eT6
    refine e_i (fun q7 => ?_) (fun q7 => ?_)
    · refine e_cV (t_State_goTo hW) (fun T9 p9 => ?_)
      obtain ⟨hW9, hT9⟩ := p9
      have hF9 := hF.tr hT9 rfl
      refine e_eq (f_Trains_runsOn_j86.eq_1 _ _) ?_
      refine e_cE (t_State_get hW9 ((rgl (8) 8 8 rfl).sub rfl)) (fun u10 T10 p10 => ?_)
      obtain ⟨-, hT10, hr10⟩ := p10
      have eT10 := (fr_nil hT10).symm
      subst eT10
      refine e_nmG (fun w11 hw11 => ?_)
      refine e_bndv ?_
      refine v_eq (f_State_set.eq_1 _ _ _ _) ?_
      refine v_i (fun q12 => ?_) (fun q12 => ?_)
      · refine v_some ?_
        refine e_i (fun q14 => ?_) (fun q14 => ?_)
        · exact e_some ⟨hW9, hF9, ((rgl (0) 0 0 rfl).sub rfl)⟩
        · exact e_some ⟨hW9, hF9, ((rgl (1) 1 1 rfl).sub rfl)⟩
      · have f17 := nlt_l (rgt _) (rgl 0 0 0 rfl) q12
        refine v_i (fun q18 => ?_) (fun q18 => ?_)
        · refine v_some ?_
          refine e_i (fun q19 => ?_) (fun q19 => ?_)
          · exact e_some ⟨hW9, hF9, ((rgl (0) 0 0 rfl).sub rfl)⟩
          · exact e_some ⟨hW9, hF9, ((rgl (1) 1 1 rfl).sub rfl)⟩
        · have f23 := nle_r 71 (ro_63_1 hW9) f17 q18 rfl
          refine v_grd (inb_g (rg_add 162 943 (rg_add 154 935 (rgl (154) 154 154 rfl) (rg_mul 0 781 (rgl (11) 11 11 rfl) f23 rfl) rfl) (rgl (8) 8 8 rfl) rfl) rfl) ?_
          refine v_wrA (fun T24 eT24 hT24 v24 => ?_)
          have hW24 := WR.st (k := 79) hW9 (okS_g (rg_add 162 943 (rg_add 154 935 (rgl (154) 154 154 rfl) (rg_mul 0 781 (rgl (11) 11 11 rfl) f23 rfl) rfl) (rgl (8) 8 8 rfl) rfl) rfl) rfl eT24
          have hF24 := hF9.tr hT24 rfl
          refine v_some ?_
          refine e_i (fun q26 => ?_) (fun q26 => ?_)
          · exact e_some ⟨hW24, hF24, ((rgl (0) 0 0 rfl).sub rfl)⟩
          · exact e_some ⟨hW24, hF24, ((rgl (1) 1 1 rfl).sub rfl)⟩
    · refine e_cE (t_State_isRunning hW) (fun u30 T30 p30 => ?_)
      obtain ⟨-, hT30, hr30⟩ := p30
      have eT30 := (fr_nil hT30).symm
      subst eT30
      refine e_i (fun q31 => ?_) (fun q31 => ?_)
      · refine e_cV (t_State_addDamp hW) (fun T33 p33 => ?_)
        obtain ⟨hW33, hT33⟩ := p33
        have hF33 := hF.tr hT33 rfl
        exact e_some ⟨hW33, hF33, ((rgl (0) 0 0 rfl).sub rfl)⟩
      · refine e_eq (f_Trains_runsOn_j86.eq_1 _ _) ?_
        refine e_cE (t_State_get hW ((rgl (8) 8 8 rfl).sub rfl)) (fun u35 T35 p35 => ?_)
        obtain ⟨-, hT35, hr35⟩ := p35
        have eT35 := (fr_nil hT35).symm
        subst eT35
        refine e_nmG (fun w36 hw36 => ?_)
        refine e_bndv ?_
        refine v_eq (f_State_set.eq_1 _ _ _ _) ?_
        refine v_i (fun q37 => ?_) (fun q37 => ?_)
        · refine v_some ?_
          refine e_i (fun q39 => ?_) (fun q39 => ?_)
          · exact e_some ⟨hW, hF, ((rgl (0) 0 0 rfl).sub rfl)⟩
          · exact e_some ⟨hW, hF, ((rgl (1) 1 1 rfl).sub rfl)⟩
        · have f42 := nlt_l (rgt _) (rgl 0 0 0 rfl) q37
          refine v_i (fun q43 => ?_) (fun q43 => ?_)
          · refine v_some ?_
            refine e_i (fun q44 => ?_) (fun q44 => ?_)
            · exact e_some ⟨hW, hF, ((rgl (0) 0 0 rfl).sub rfl)⟩
            · exact e_some ⟨hW, hF, ((rgl (1) 1 1 rfl).sub rfl)⟩
          · have f48 := nle_r 71 (ro_63_1 hW) f42 q43 rfl
            refine v_grd (inb_g (rg_add 162 943 (rg_add 154 935 (rgl (154) 154 154 rfl) (rg_mul 0 781 (rgl (11) 11 11 rfl) f48 rfl) rfl) (rgl (8) 8 8 rfl) rfl) rfl) ?_
            refine v_wrA (fun T49 eT49 hT49 v49 => ?_)
            have hW49 := WR.st (k := 79) hW (okS_g (rg_add 162 943 (rg_add 154 935 (rgl (154) 154 154 rfl) (rg_mul 0 781 (rgl (11) 11 11 rfl) f48 rfl) rfl) (rgl (8) 8 8 rfl) rfl) rfl) rfl eT49
            have hF49 := hF.tr hT49 rfl
            refine v_some ?_
            refine e_i (fun q51 => ?_) (fun q51 => ?_)
            · exact e_some ⟨hW49, hF49, ((rgl (0) 0 0 rfl).sub rfl)⟩
            · exact e_some ⟨hW49, hF49, ((rgl (1) 1 1 rfl).sub rfl)⟩
set_option maxRecDepth 20000 in
set_option maxHeartbeats 4000000 in
theorem t_State_endRun_L39 {S0 : SS} : ∀ (n : Nat) (x2 : Int32) (S : SS), WR S → Fr [79] [] S0 S → rg x2 0 72 → 72 - x2.toInt < (n : Int) → Ew (f_State_endRun_L39 n x2 S) (fun U => WR U ∧ Fr [79] [] S0 U) := by
  intro n
  induction n with
  | zero =>
    intro x2 S hW hF h0 hm
    exact up_0 h0 hm rfl
  | succ n ih =>
    intro x2 S hW hF h0 hm
    refine v_eq (f_State_endRun_L39.eq_2 _ _ _) ?_
    refine v_grd (inb_g (rgl (1) 1 1 rfl) rfl) ?_
    refine v_i (fun q1 => ?_) (fun q1 => ?_)
    · exact v_some ⟨hW, hF⟩
    · have f3 := nle_r 71 (hW.1 79 1) h0 q1 rfl
      refine v_grd (inb_g (rg_add 3 74 (rg_add 2 73 (rgl (2) 2 2 rfl) f3 rfl) (rgl (1) 1 1 rfl) rfl) rfl) ?_
      refine v_grd (inb_g (rg_add 2 73 (rgl (2) 2 2 rfl) f3 rfl) rfl) ?_
      refine v_wrA (fun T4 eT4 hT4 v4 => ?_)
      have hW4 := WR.st (k := 79) hW (okS_g (rg_add 2 73 (rgl (2) 2 2 rfl) f3 rfl) rfl) rfl eT4
      have hF4 := hF.tr hT4 rfl
      refine v_nmG (fun w6 hw6 => ?_)
      have f7 := rg_tr (rg_add 1 72 f3 (rgl (1) 1 1 rfl) rfl) hw6
      exact ih _ _ hW4 hF4 (f7.sub rfl) (up_s f3 hw6 hm rfl)
set_option maxRecDepth 20000 in
set_option maxHeartbeats 4000000 in
theorem t_State_endRun {a1 : Int32} {S : SS} (hW : WR S) : Ew (f_State_endRun a1 S) (fun U => WR U ∧ Fr [79] [] S U) := by
  have hF : Fr [79] [] S S := Fr.rf
  refine v_eq (f_State_endRun.eq_1 _ _) ?_
  refine v_i (fun q1 => ?_) (fun q1 => ?_)
  · exact v_some ⟨hW, hF⟩
  · have f3 := nlt_l (rgt _) (rgl 0 0 0 rfl) q1
    refine v_grd (inb_g (rgl (1) 1 1 rfl) rfl) ?_
    refine v_i (fun q4 => ?_) (fun q4 => ?_)
    · have f5 := lt_l 71 f3 (hW.1 79 1) q4 rfl
      have f6 := lt_r 1 f3 (hW.1 79 1) q4 rfl
      refine v_bnd ?_
      refine e_eq (f_State_runner.eq_1 _ _) ?_
      refine e_f q1 ?_
      refine e_grd (inb_g (rgl (1) 1 1 rfl) rfl) ?_
      refine e_i (fun q7 => ?_) (fun q7 => ?_)
      · have f8 := le_l f6 f5 q7
        have f9 := le_r f6 f5 q7
        refine e_some ?_
        refine v_bndv ?_
        refine v_eq (f_State_set.eq_1 _ _ _ _) ?_
        refine v_t (by decide) ?_
        refine v_some ?_
        refine v_grd (inb_g (rgl (1) 1 1 rfl) rfl) ?_
        refine v_grd (inb_g (rgl (1) 1 1 rfl) rfl) ?_
        refine v_wrA (fun T10 eT10 hT10 v10 => ?_)
        have hW10 := wo_79_1 hW ((rg_sb 0 70 f8 (rgl (1) 1 1 rfl) rfl).sub rfl) eT10
        have hF10 := hF.tr hT10 rfl
        exact t_State_endRun_L39  NF _ _ hW10 hF10 (f9.sub rfl) (up_n f9 rfl)
      · refine e_t (d_lt f5 (rgl (72) 72 72 rfl) rfl) ?_
        refine e_grd (inb_g (rg_add 2 73 (rgl (2) 2 2 rfl) f5 rfl) rfl) ?_
        refine e_someG (fun w12 hw12 => ?_)
        refine v_bndv ?_
        refine v_eq (f_State_set.eq_1 _ _ _ _) ?_
        refine v_i (fun q13 => ?_) (fun q13 => ?_)
        · refine v_some ?_
          refine v_grd (inb_g (rgl (1) 1 1 rfl) rfl) ?_
          refine v_grd (inb_g (rgl (1) 1 1 rfl) rfl) ?_
          refine v_wrA (fun T16 eT16 hT16 v16 => ?_)
          have hW16 := wo_79_1 hW ((rg_sb 0 71 f6 (rgl (1) 1 1 rfl) rfl).sub rfl) eT16
          have hF16 := hF.tr hT16 rfl
          exact t_State_endRun_L39  NF _ _ hW16 hF16 (f5.sub rfl) (up_n f5 rfl)
        · have f18 := nlt_l (rgt _) (rgl 0 0 0 rfl) q13
          refine v_i (fun q20 => ?_) (fun q20 => ?_)
          · refine v_some ?_
            refine v_grd (inb_g (rgl (1) 1 1 rfl) rfl) ?_
            refine v_grd (inb_g (rgl (1) 1 1 rfl) rfl) ?_
            refine v_wrA (fun T21 eT21 hT21 v21 => ?_)
            have hW21 := wo_79_1 hW ((rg_sb 0 71 f6 (rgl (1) 1 1 rfl) rfl).sub rfl) eT21
            have hF21 := hF.tr hT21 rfl
            exact t_State_endRun_L39  NF _ _ hW21 hF21 (f5.sub rfl) (up_n f5 rfl)
          · have f24 := nle_r 71 (ro_63_1 hW) f18 q20 rfl
            refine v_grd (inb_g (rg_add 162 943 (rg_add 154 935 (rgl (154) 154 154 rfl) (rg_mul 0 781 (rgl (11) 11 11 rfl) f24 rfl) rfl) (rgl (8) 8 8 rfl) rfl) rfl) ?_
            refine v_wrA (fun T26 eT26 hT26 v26 => ?_)
            have hW26 := WR.st (k := 79) hW (okS_g (rg_add 162 943 (rg_add 154 935 (rgl (154) 154 154 rfl) (rg_mul 0 781 (rgl (11) 11 11 rfl) f24 rfl) rfl) (rgl (8) 8 8 rfl) rfl) rfl) rfl eT26
            have hF26 := hF.tr hT26 rfl
            have f28 := rg_tr f6 (st_i1 eT26 (rg_add 162 943 (rg_add 154 935 (rgl (154) 154 154 rfl) (rg_mul 0 781 (rgl (11) 11 11 rfl) f24 rfl) rfl) (rgl (8) 8 8 rfl) rfl) rfl)
            refine v_some ?_
            refine v_grd (inb_g (rgl (1) 1 1 rfl) rfl) ?_
            refine v_grd (inb_g (rgl (1) 1 1 rfl) rfl) ?_
            refine v_wrA (fun T30 eT30 hT30 v30 => ?_)
            have hW30 := wo_79_1 hW26 ((rg_sb 0 71 f28 (rgl (1) 1 1 rfl) rfl).sub rfl) eT30
            have hF30 := hF26.tr hT30 rfl
            exact t_State_endRun_L39  NF _ _ hW30 hF30 (f5.sub rfl) (up_n f5 rfl)
    · exact v_some ⟨hW, hF⟩
theorem run18 {K : Int32 → Int32 → SS → Option (Int32 × SS)} {S0 : SS} {x1 x2 : Int32} {P : Int32 → SS → Prop} (hK : ∀ S', WR S' → Fr [79] [] S0 S' → Ex2 (K x1 (x2 + 1) S') P) : ∀ (n : Nat) (x3 x4 : Int32) (S : SS), WR S → Fr [79] [] S0 S → rg x4 0 72 → x4.toInt - 0 < (n : Int) → Ex2 (f_Trains_runAll_L18 K n x1 x2 x3 x4 S) P := by
  intro n
  induction n with
  | zero =>
    intro x3 x4 S hW hF h4 hm
    exact dn_0 h4 hm rfl
  | succ n ih =>
    intro x3 x4 S hW hF h4 hm
    refine e_eq (f_Trains_runAll_L18.eq_2 _ _ _ _ _ _ _) ?_
    refine e_i (fun q => ?_) (fun q => ?_)
    · exact e_nm (hK S hW hF)
    · have h4' := nle_l 1 h4 (rgl 0 0 0 rfl) q rfl
      refine e_cE (t_State_runner hW) (fun u1 T1 p1 => ?_)
      obtain ⟨hW1, g1, -⟩ := p1
      refine e_cE (t_Trains_runsOn hW1) (fun u2 T2 p2 => ?_)
      obtain ⟨hW2, g2, -⟩ := p2
      have hF2 := (hF.tr g1 rfl).tr g2 rfl
      refine e_i (fun q2 => ?_) (fun q2 => ?_)
      · refine e_cV (t_State_endRun hW2) (fun T3 p3 => ?_)
        obtain ⟨hW3, g3⟩ := p3
        refine e_eq (f_Trains_runAll_j52.eq_1 _ _ _ _ _ _) ?_
        refine e_nmG (fun z hz => ?_)
        exact ih _ _ _ hW3 (hF2.tr g3 rfl) (by rw [hz]; exact (rg_add 0 71 h4' (rgl (-1) (-1) (-1) rfl) rfl).sub rfl) (dn_sp h4' hz hm rfl)
      · refine e_nm ?_
        refine e_eq (f_Trains_runAll_j52.eq_1 _ _ _ _ _ _) ?_
        refine e_nmG (fun z hz => ?_)
        exact ih _ _ _ hW2 hF2 (by rw [hz]; exact (rg_add 0 71 h4' (rgl (-1) (-1) (-1) rfl) rfl).sub rfl) (dn_sp h4' hz hm rfl)
theorem run2 {S0 : SS} {x1 : Int32} (h1 : rg x1 1 50) : ∀ (n : Nat) (x2 : Int32) (S : SS), WR S → Fr [79] [] S0 S → rg x2 0 50 → 50 - x2.toInt < (n : Int) → Ex2 (f_Trains_runAll_L2 n x1 x2 S) (fun r U => WR U ∧ Fr [79] [] S0 U ∧ True) := by
  intro n
  induction n with
  | zero =>
    intro x2 S hW hF h2 hm
    exact up_0 h2 hm rfl
  | succ n ih =>
    intro x2 S hW hF h2 hm
    refine e_eq (f_Trains_runAll_L2.eq_2 _ _ _ _) ?_
    refine e_i (fun q => ?_) (fun q => ?_)
    · refine e_cE (t_State_running hW) (fun u T p => ?_)
      obtain ⟨hW1, g1, -⟩ := p
      exact e_some ⟨hW1, hF.tr g1 rfl, trivial⟩
    · have h2' := nle_r 49 h1 h2 q rfl
      refine e_cE (t_State_running hW) (fun u T p => ?_)
      obtain ⟨hW1, g1, hr⟩ := p
      refine run18 (fun S' hW' hF' => ?_) NF 0 u T hW1 (hF.tr g1 rfl) hr (dn_n hr rfl)
      exact ih _ S' hW' hF' ((rg_add 1 50 h2' (rgl 1 1 1 rfl) rfl).sub rfl) (up_s h2' rfl hm rfl)
theorem t_Trains_runAll {a1 : Int32} {S : SS} (hW : WR S) (h0 : rg a1 1 50) : Ex2 (f_Trains_runAll a1 S) (fun r U => WR U ∧ Fr [79] [] S U ∧ True) := by
  refine e_eq (f_Trains_runAll.eq_1 _ _) ?_
  exact run2 h0 NF 0 S hW Fr.rf (rgl 0 0 50 rfl) (up_n (rgl 0 0 50 rfl) rfl)
set_option maxRecDepth 20000 in
set_option maxHeartbeats 4000000 in
theorem t_Yard_step {a1 : Int32} {S : SS} (hW : WR S) : Ex2 (f_Yard_step a1 S) (fun r U => WR U ∧ Fr [79, 81, 82, 83, 84, 85, 86, 87, 88, 89, 90] [(64, 3), (64, 4), (64, 5), (64, 6), (64, 7)] S U ∧ True) := by
  have hF : Fr [79, 81, 82, 83, 84, 85, 86, 87, 88, 89, 90] [(64, 3), (64, 4), (64, 5), (64, 6), (64, 7)] S S := Fr.rf
  refine e_eq (f_Yard_step.eq_1 _ _) ?_
  refine e_bnd ?_
  refine e_eq (f_Yard_isNot.eq_1 _ _ _ _) ?_
  refine e_i (fun q1 => ?_) (fun q1 => ?_)
  · refine e_some ?_
    refine e_f (by decide) ?_
    exact e_some ⟨hW, hF, trivial⟩
  · have f3 := nlt_l (rgt _) (rgl (1) 1 1 rfl) q1
    refine e_i (fun q4 => ?_) (fun q4 => ?_)
    · have f5 := le_l f3 (rgl (50) 50 50 rfl) q4
      refine e_some ?_
      refine e_t (by decide) ?_
      refine e_cV (t_History_keep hW) (fun T6 p6 => ?_)
      obtain ⟨hW6, hT6⟩ := p6
      have hF6 := hF.tr hT6 rfl
      refine e_cE (t_Trains_runAll hW6 f5) (fun u7 T7 p7 => ?_)
      obtain ⟨hW7, hT7, hr7⟩ := p7
      have hF7 := hF6.tr hT7 rfl
      refine e_cE (t_Yard_endAct hW7) (fun u8 T8 p8 => ?_)
      obtain ⟨hW8, hT8, hr8⟩ := p8
      have hF8 := hF7.tr hT8 rfl
      exact e_some ⟨hW8, hF8, trivial⟩
    · refine e_some ?_
      refine e_f (by decide) ?_
      exact e_some ⟨hW, hF, trivial⟩
set_option maxRecDepth 20000 in
set_option maxHeartbeats 4000000 in
theorem t_Bodies_flatBrake {a1 : Int32} {S : SS} (hW : WR S) : Ex2 (f_Bodies_flatBrake a1 S) (fun r U => WR U ∧ Fr [78] [(62, 2)] S U ∧ True) := by
  have hF : Fr [78] [(62, 2)] S S := Fr.rf
  refine e_eq (f_Bodies_flatBrake.eq_1 _ _) ?_
  refine e_cV (t_Report_beginBody hW) (fun T1 p1 => ?_)
  obtain ⟨hW1, hT1⟩ := p1
  have hF1 := hF.tr hT1 rfl
  exact e_some ⟨hW1, hF1, trivial⟩
set_option maxRecDepth 20000 in
set_option maxHeartbeats 4000000 in
theorem t_Bodies_engineBrake {S : SS} (hW : WR S) : Ex2 (f_Bodies_engineBrake  S) (fun r U => WR U ∧ Fr [78] [(62, 2)] S U ∧ rg r 30 30) := by
  have hF : Fr [78] [(62, 2)] S S := Fr.rf
  refine e_eq (f_Bodies_engineBrake.eq_1 _) ?_
  refine e_cV (t_Report_beginBody hW) (fun T1 p1 => ?_)
  obtain ⟨hW1, hT1⟩ := p1
  have hF1 := hF.tr hT1 rfl
  exact e_some ⟨hW1, hF1, (rgl (30) 30 30 rfl)⟩
set_option maxRecDepth 20000 in
set_option maxHeartbeats 4000000 in
theorem t_Bodies_brake {a1 : Int32} {S : SS} (hW : WR S) : Ex2 (f_Bodies_brake a1 S) (fun r U => WR U ∧ Fr [78] [(62, 2)] S U ∧ True) := by
  have hF : Fr [78] [(62, 2)] S S := Fr.rf
  refine e_eq (f_Bodies_brake.eq_1 _ _) ?_
  refine e_cE (t_Stock_get hW ((rgl (1) 1 1 rfl).sub rfl)) (fun u1 T1 p1 => ?_)
  obtain ⟨-, hT1, hr1⟩ := p1
  have eT1 := (fr_nil hT1).symm
  subst eT1
  refine e_cE (t_Bodies_kindOf hW) (fun u2 T2 p2 => ?_)
  obtain ⟨-, hT2, hr2⟩ := p2
  have eT2 := (fr_nil hT2).symm
  subst eT2
  refine e_i (fun q3 => ?_) (fun q3 => ?_)
  · refine e_cV (t_Report_beginBody hW) (fun T5 p5 => ?_)
    obtain ⟨hW5, hT5⟩ := p5
    have hF5 := hF.tr hT5 rfl
    refine e_cE (t_Bodies_flatBrake hW5) (fun u6 T6 p6 => ?_)
    obtain ⟨hW6, hT6, hr6⟩ := p6
    have hF6 := hF5.tr hT6 rfl
    exact e_some ⟨hW6, hF6, trivial⟩
  · refine e_i (fun q7 => ?_) (fun q7 => ?_)
    · refine e_cV (t_Report_beginBody hW) (fun T9 p9 => ?_)
      obtain ⟨hW9, hT9⟩ := p9
      have hF9 := hF.tr hT9 rfl
      exact e_some ⟨hW9, hF9, trivial⟩
    · refine e_i (fun q10 => ?_) (fun q10 => ?_)
      · refine e_cV (t_Report_beginBody hW) (fun T12 p12 => ?_)
        obtain ⟨hW12, hT12⟩ := p12
        have hF12 := hF.tr hT12 rfl
        exact e_some ⟨hW12, hF12, trivial⟩
      · refine e_i (fun q13 => ?_) (fun q13 => ?_)
        · refine e_cE (t_Bodies_engineBrake hW) (fun u15 T15 p15 => ?_)
          obtain ⟨hW15, hT15, hr15⟩ := p15
          have hF15 := hF.tr hT15 rfl
          exact e_some ⟨hW15, hF15, trivial⟩
        · refine e_i (fun q16 => ?_) (fun q16 => ?_)
          · refine e_cV (t_Report_beginBody hW) (fun T18 p18 => ?_)
            obtain ⟨hW18, hT18⟩ := p18
            have hF18 := hF.tr hT18 rfl
            refine e_cE (t_Bodies_engineBrake hW18) (fun u19 T19 p19 => ?_)
            obtain ⟨hW19, hT19, hr19⟩ := p19
            have hF19 := hF18.tr hT19 rfl
            exact e_some ⟨hW19, hF19, trivial⟩
          · refine e_cE (t_Bodies_flatBrake hW) (fun u20 T20 p20 => ?_)
            obtain ⟨hW20, hT20, hr20⟩ := p20
            have hF20 := hF.tr hT20 rfl
            exact e_some ⟨hW20, hF20, trivial⟩
set_option maxRecDepth 20000 in
set_option maxHeartbeats 4000000 in
theorem t_Bodies_perAxle {a1 : Int32} {S : SS} (hW : WR S) : Ex2 (f_Bodies_perAxle a1 S) (fun r U => WR U ∧ Fr [78] [(62, 2)] S U ∧ True) := by
  have hF : Fr [78] [(62, 2)] S S := Fr.rf
  refine e_eq (f_Bodies_perAxle.eq_1 _ _) ?_
  refine e_cV (t_Report_beginBody hW) (fun T1 p1 => ?_)
  obtain ⟨hW1, hT1⟩ := p1
  have hF1 := hF.tr hT1 rfl
  refine e_cE (t_Bodies_weight hW1) (fun u2 T2 p2 => ?_)
  obtain ⟨hW2, hT2, hr2⟩ := p2
  have hF2 := hF1.tr hT2 rfl
  refine e_cE (t_Stock_get hW2 ((rgl (1) 1 1 rfl).sub rfl)) (fun u3 T3 p3 => ?_)
  obtain ⟨-, hT3, hr3⟩ := p3
  have eT3 := (fr_nil hT3).symm
  subst eT3
  refine e_i (fun q4 => ?_) (fun q4 => ?_)
  · have f5 := lt_r 1 (rgl 0 0 0 rfl) (rgt _) q4 rfl
    refine e_grd (nz_g f5 rfl) ?_
    exact e_some ⟨hW2, hF2, trivial⟩
  · exact e_some ⟨hW2, hF2, trivial⟩
set_option maxRecDepth 20000 in
set_option maxHeartbeats 4000000 in
theorem t_Yard_testAll_L36 {S0 : SS} : ∀ (n : Nat) (x3 : Int32) (x4 : Int32) (S : SS), WR S → Fr [77, 78, 79, 104] [(62, 2), (62, 3), (68, 4)] S0 S → rg x4 0 72 → 72 - x4.toInt < (n : Int) → Ex2 (f_Yard_testAll_L36 n x3 x4 S) (fun r U => WR U ∧ Fr [77, 78, 79, 104] [(62, 2), (62, 3), (68, 4)] S0 U ∧ True) := by
  intro n
  induction n with
  | zero =>
    intro x3 x4 S hW hF h1 hm
    exact up_0 h1 hm rfl
  | succ n ih =>
    intro x3 x4 S hW hF h1 hm
    refine e_eq (f_Yard_testAll_L36.eq_2 _ _ _ _) ?_
    refine e_i (fun q1 => ?_) (fun q1 => ?_)
    · refine e_i (fun q2 => ?_) (fun q2 => ?_)
      · refine e_cV (t_Trains_setLine hW ((rgl (10) 10 10 rfl).sub rfl)) (fun T4 p4 => ?_)
        obtain ⟨hW4, hT4⟩ := p4
        have hF4 := hF.tr hT4 rfl
        exact e_some ⟨hW4, hF4, trivial⟩
      · refine e_cV (t_Trains_setLine hW ((rgl (10) 10 10 rfl).sub rfl)) (fun T5 p5 => ?_)
        obtain ⟨hW5, hT5⟩ := p5
        have hF5 := hF.tr hT5 rfl
        exact e_some ⟨hW5, hF5, trivial⟩
    · have f7 := nle_r 71 (ro_68_4 hW) h1 q1 rfl
      refine e_cE (t_Trains_inLine hW) (fun u8 T8 p8 => ?_)
      obtain ⟨-, hT8, hr8⟩ := p8
      have eT8 := (fr_nil hT8).symm
      subst eT8
      refine e_cE (t_Bodies_brake hW) (fun u9 T9 p9 => ?_)
      obtain ⟨hW9, hT9, hr9⟩ := p9
      have hF9 := hF.tr hT9 rfl
      refine e_cE (t_Trains_inLine hW9) (fun u11 T11 p11 => ?_)
      obtain ⟨-, hT11, hr11⟩ := p11
      have eT11 := (fr_nil hT11).symm
      subst eT11
      refine e_cE (t_Bodies_perAxle hW9) (fun u12 T12 p12 => ?_)
      obtain ⟨hW12, hT12, hr12⟩ := p12
      have hF12 := hF9.tr hT12 rfl
      refine e_i (fun q14 => ?_) (fun q14 => ?_)
      · refine e_cE (t_Report_found hW12) (fun u16 T16 p16 => ?_)
        obtain ⟨hW16, hT16, hr16⟩ := p16
        have hF16 := hF12.tr hT16 rfl
        exact e_some ⟨hW16, hF16, trivial⟩
      · refine e_i (fun q18 => ?_) (fun q18 => ?_)
        · refine e_eq (f_Yard_testAll_j113.eq_1 _ _ _ _) ?_
          refine e_nmG (fun w21 hw21 => ?_)
          have f22 := rg_tr (rg_add 1 72 f7 (rgl (1) 1 1 rfl) rfl) hw21
          exact ih _ _ _ hW12 hF12 (f22.sub rfl) (up_s f7 hw21 hm rfl)
        · refine e_nmG (fun w23 hw23 => ?_)
          refine e_eq (f_Yard_testAll_j113.eq_1 _ _ _ _) ?_
          refine e_nmG (fun w24 hw24 => ?_)
          have f25 := rg_tr (rg_add 1 72 f7 (rgl (1) 1 1 rfl) rfl) hw24
          exact ih _ _ _ hW12 hF12 (f25.sub rfl) (up_s f7 hw24 hm rfl)
set_option maxRecDepth 20000 in
set_option maxHeartbeats 4000000 in
theorem t_Yard_testAll {a1 : Int32} {S : SS} (hW : WR S) : Ex2 (f_Yard_testAll a1 S) (fun r U => WR U ∧ Fr [77, 78, 79, 104] [(62, 2), (62, 3), (68, 4)] S U ∧ True) := by
  have hF : Fr [77, 78, 79, 104] [(62, 2), (62, 3), (68, 4)] S S := Fr.rf
  refine e_eq (f_Yard_testAll.eq_1 _ _) ?_
  refine e_bnd ?_
  refine e_eq (f_Yard_named.eq_1 _ _ _) ?_
  refine e_bnd ?_
  refine e_eq (f_Yard_isNot.eq_1 _ _ _ _) ?_
  refine e_i (fun q1 => ?_) (fun q1 => ?_)
  · refine e_some ?_
    refine e_f (by decide) ?_
    refine e_some ?_
    refine e_f (by decide) ?_
    refine e_cE (t_Report_found hW) (fun u3 T3 p3 => ?_)
    obtain ⟨hW3, hT3, hr3⟩ := p3
    have hF3 := hF.tr hT3 rfl
    exact e_some ⟨hW3, hF3, trivial⟩
  · refine e_i (fun q5 => ?_) (fun q5 => ?_)
    · refine e_some ?_
      refine e_t (by decide) ?_
      refine e_i (fun q7 => ?_) (fun q7 => ?_)
      · refine e_bnd ?_
        refine e_eq (f_Stock_isAs.eq_1 _ _ _) ?_
        refine e_cE (t_Stock_get hW ((rgl (0) 0 0 rfl).sub rfl)) (fun u9 T9 p9 => ?_)
        obtain ⟨-, hT9, hr9⟩ := p9
        have eT9 := (fr_nil hT9).symm
        subst eT9
        refine e_i (fun q10 => ?_) (fun q10 => ?_)
        · refine e_some ?_
          refine e_t (by decide) ?_
          refine e_some ?_
          refine e_f (by decide) ?_
          refine e_cE (t_Report_found hW) (fun u12 T12 p12 => ?_)
          obtain ⟨hW12, hT12, hr12⟩ := p12
          have hF12 := hF.tr hT12 rfl
          exact e_some ⟨hW12, hF12, trivial⟩
        · refine e_i (fun q15 => ?_) (fun q15 => ?_)
          · refine e_some ?_
            refine e_f (by decide) ?_
            refine e_bnd ?_
            refine e_eq (f_State_isThere.eq_1 _ _) ?_
            refine e_cE (t_State_get hW ((rgl (0) 0 0 rfl).sub rfl)) (fun u17 T17 p17 => ?_)
            obtain ⟨-, hT17, hr17⟩ := p17
            have eT17 := (fr_nil hT17).symm
            subst eT17
            refine e_i (fun q18 => ?_) (fun q18 => ?_)
            · refine e_some ?_
              refine e_t (by decide) ?_
              refine e_some ?_
              refine e_f (by decide) ?_
              refine e_cE (t_Report_found hW) (fun u20 T20 p20 => ?_)
              obtain ⟨hW20, hT20, hr20⟩ := p20
              have hF20 := hF.tr hT20 rfl
              exact e_some ⟨hW20, hF20, trivial⟩
            · refine e_some ?_
              refine e_f (by decide) ?_
              refine e_some ?_
              refine e_t (by decide) ?_
              refine e_cV (t_Trains_lineUp hW) (fun T23 p23 => ?_)
              obtain ⟨hW23, hT23⟩ := p23
              have hF23 := hF.tr hT23 rfl
              exact t_Yard_testAll_L36  NF _ _ _ hW23 hF23 ((rgl (0) 0 0 rfl).sub rfl) (up_n (rgl (0) 0 0 rfl) rfl)
          · refine e_some ?_
            refine e_t (by decide) ?_
            refine e_some ?_
            refine e_f (by decide) ?_
            refine e_cE (t_Report_found hW) (fun u26 T26 p26 => ?_)
            obtain ⟨hW26, hT26, hr26⟩ := p26
            have hF26 := hF.tr hT26 rfl
            exact e_some ⟨hW26, hF26, trivial⟩
      · refine e_some ?_
        refine e_f (by decide) ?_
        refine e_cE (t_Report_found hW) (fun u29 T29 p29 => ?_)
        obtain ⟨hW29, hT29, hr29⟩ := p29
        have hF29 := hF.tr hT29 rfl
        exact e_some ⟨hW29, hF29, trivial⟩
    · refine e_some ?_
      refine e_f (by decide) ?_
      refine e_some ?_
      refine e_f (by decide) ?_
      refine e_cE (t_Report_found hW) (fun u32 T32 p32 => ?_)
      obtain ⟨hW32, hT32, hr32⟩ := p32
      have hF32 := hF.tr hT32 rfl
      exact e_some ⟨hW32, hF32, trivial⟩
set_option maxRecDepth 20000 in
set_option maxHeartbeats 4000000 in
theorem t_Yard_test {a1 : Int32} {S : SS} (hW : WR S) : Ex2 (f_Yard_test a1 S) (fun r U => WR U ∧ Fr [77, 78, 79, 81, 82, 83, 84, 85, 86, 87, 88, 89, 90, 104] [(62, 2), (62, 3), (62, 4), (62, 5), (62, 6), (64, 3), (64, 4), (64, 5), (64, 6), (64, 7), (68, 4)] S U ∧ True) := by
  have hF : Fr [77, 78, 79, 81, 82, 83, 84, 85, 86, 87, 88, 89, 90, 104] [(62, 2), (62, 3), (62, 4), (62, 5), (62, 6), (64, 3), (64, 4), (64, 5), (64, 6), (64, 7), (68, 4)] S S := Fr.rf
  refine e_eq (f_Yard_test.eq_1 _ _) ?_
  refine e_cV (t_Yard_beginAct hW) (fun T1 p1 => ?_)
  obtain ⟨hW1, hT1⟩ := p1
  have hF1 := hF.tr hT1 rfl
  refine e_cE (t_Yard_testAll hW1) (fun u2 T2 p2 => ?_)
  obtain ⟨hW2, hT2, hr2⟩ := p2
  have hF2 := hF1.tr hT2 rfl
  refine e_cE (t_Yard_endAct hW2) (fun u3 T3 p3 => ?_)
  obtain ⟨hW3, hT3, hr3⟩ := p3
  have hF3 := hF2.tr hT3 rfl
  exact e_some ⟨hW3, hF3, trivial⟩
set_option maxRecDepth 20000 in
set_option maxHeartbeats 4000000 in
theorem t_Layout_isWayOut {a1 : Int32} {a2 : Int32} {S : SS} (hW : WR S) : Ex2 (f_Layout_isWayOut a1 a2 S) (fun r U => WR U ∧ Fr [] [] S U ∧ rg r 0 1) := by
  have hF : Fr [] [] S S := Fr.rf
  refine e_eq (f_Layout_isWayOut.eq_1 _ _ _) ?_
  refine e_cE (t_Layout_endNextTo hW) (fun u1 T1 p1 => ?_)
  obtain ⟨-, hT1, hr1⟩ := p1
  have eT1 := (fr_nil hT1).symm
  subst eT1
  refine e_bnd ?_
  refine e_eq (f_Layout_isEnd.eq_1 _ _) ?_
  refine e_i (fun q2 => ?_) (fun q2 => ?_)
  · refine e_some ?_
    refine e_t (by decide) ?_
    exact e_some ⟨hW, hF, ((rgl (0) 0 0 rfl).sub rfl)⟩
  · have f4 := nlt_l (rgt _) (rgl 0 0 0 rfl) q2
    refine e_i (fun q5 => ?_) (fun q5 => ?_)
    · refine e_some ?_
      refine e_t (by decide) ?_
      exact e_some ⟨hW, hF, ((rgl (0) 0 0 rfl).sub rfl)⟩
    · have f7 := nle_r 47 (rgl (48) 48 48 rfl) f4 q5 rfl
      refine e_some ?_
      refine e_f (by decide) ?_
      refine e_grd (inb_g f7 rfl) ?_
      refine e_i (fun q8 => ?_) (fun q8 => ?_)
      · exact e_some ⟨hW, hF, ((rgl (0) 0 0 rfl).sub rfl)⟩
      · exact e_some ⟨hW, hF, ((rgl (1) 1 1 rfl).sub rfl)⟩
set_option maxRecDepth 20000 in
set_option maxHeartbeats 4000000 in
theorem t_Trains_looksOut {a1 : Int32} {S : SS} (hW : WR S) : Ex2 (f_Trains_looksOut a1 S) (fun r U => WR U ∧ Fr [] [] S U ∧ rg r 0 1) := by
  have hF : Fr [] [] S S := Fr.rf
  refine e_eq (f_Trains_looksOut.eq_1 _ _) ?_
  refine e_cE (t_State_get hW ((rgl (0) 0 0 rfl).sub rfl)) (fun u1 T1 p1 => ?_)
  obtain ⟨-, hT1, hr1⟩ := p1
  have eT1 := (fr_nil hT1).symm
  subst eT1
  refine e_cE (t_State_looks hW) (fun u2 T2 p2 => ?_)
  obtain ⟨-, hT2, hr2⟩ := p2
  have eT2 := (fr_nil hT2).symm
  subst eT2
  refine e_cE (t_Layout_isWayOut hW) (fun u3 T3 p3 => ?_)
  obtain ⟨-, hT3, hr3⟩ := p3
  have eT3 := (fr_nil hT3).symm
  subst eT3
  refine e_grd (isB_g hr3 rfl) ?_
  exact e_some ⟨hW, hF, hr3⟩
set_option maxRecDepth 20000 in
set_option maxHeartbeats 4000000 in
theorem t_Trains_leaveFinding_L2 {S0 : SS} : ∀ (n : Nat) (x1 : Int32) (S : SS), WR S → Fr [] [] S0 S → rg x1 0 72 → 72 - x1.toInt < (n : Int) → Ex2 (f_Trains_leaveFinding_L2 n x1 S) (fun r U => WR U ∧ Fr [] [] S0 U ∧ rg r 0 17) := by
  intro n
  induction n with
  | zero =>
    intro x1 S hW hF h0 hm
    exact up_0 h0 hm rfl
  | succ n ih =>
    intro x1 S hW hF h0 hm
    refine e_eq (f_Trains_leaveFinding_L2.eq_2 _ _ _) ?_
    refine e_i (fun q1 => ?_) (fun q1 => ?_)
    · refine e_cE (t_Trains_hookInLine hW) (fun u2 T2 p2 => ?_)
      obtain ⟨-, hT2, hr2⟩ := p2
      have eT2 := (fr_nil hT2).symm
      subst eT2
      refine e_cE (t_Trains_looksOut hW) (fun u3 T3 p3 => ?_)
      obtain ⟨-, hT3, hr3⟩ := p3
      have eT3 := (fr_nil hT3).symm
      subst eT3
      refine e_i (fun q4 => ?_) (fun q4 => ?_)
      · refine e_cE (t_Trains_hookInLine hW) (fun u6 T6 p6 => ?_)
        obtain ⟨-, hT6, hr6⟩ := p6
        have eT6 := (fr_nil hT6).symm
        subst eT6
        refine e_cE (t_Trains_looksOut hW) (fun u7 T7 p7 => ?_)
        obtain ⟨-, hT7, hr7⟩ := p7
        have eT7 := (fr_nil hT7).symm
        subst eT7
        refine e_i (fun q8 => ?_) (fun q8 => ?_)
        · exact e_some ⟨hW, hF, ((rgl (10) 10 10 rfl).sub rfl)⟩
        · exact e_some ⟨hW, hF, ((rgl (0) 0 0 rfl).sub rfl)⟩
      · exact e_some ⟨hW, hF, ((rgl (0) 0 0 rfl).sub rfl)⟩
    · have f13 := nle_r 71 (ro_68_4 hW) h0 q1 rfl
      refine e_cE (t_Trains_inLine hW) (fun u14 T14 p14 => ?_)
      obtain ⟨-, hT14, hr14⟩ := p14
      have eT14 := (fr_nil hT14).symm
      subst eT14
      refine e_cE (t_State_get hW ((rgl (10) 10 10 rfl).sub rfl)) (fun u15 T15 p15 => ?_)
      obtain ⟨-, hT15, hr15⟩ := p15
      have eT15 := (fr_nil hT15).symm
      subst eT15
      refine e_i (fun q16 => ?_) (fun q16 => ?_)
      · exact e_some ⟨hW, hF, ((rgl (17) 17 17 rfl).sub rfl)⟩
      · refine e_nmG (fun w18 hw18 => ?_)
        have f19 := rg_tr (rg_add 1 72 f13 (rgl (1) 1 1 rfl) rfl) hw18
        exact ih _ _ hW hF (f19.sub rfl) (up_s f13 hw18 hm rfl)
set_option maxRecDepth 20000 in
set_option maxHeartbeats 4000000 in
theorem t_Trains_leaveFinding {S : SS} (hW : WR S) : Ex2 (f_Trains_leaveFinding  S) (fun r U => WR U ∧ Fr [] [] S U ∧ rg r 0 17) := by
  have hF : Fr [] [] S S := Fr.rf
  refine e_eq (f_Trains_leaveFinding.eq_1 _) ?_
  exact t_Trains_leaveFinding_L2  NF _ _ hW hF ((rgl (0) 0 0 rfl).sub rfl) (up_n (rgl (0) 0 0 rfl) rfl)
set_option maxRecDepth 20000 in
set_option maxHeartbeats 4000000 in
theorem t_Yard_leaveYard {a1 : Int32} {S : SS} (hW : WR S) : Ex2 (f_Yard_leaveYard a1 S) (fun r U => WR U ∧ Fr [77, 79, 104] [(62, 3), (68, 4)] S U ∧ rg r (-2) 72) := by
  have hF : Fr [77, 79, 104] [(62, 3), (68, 4)] S S := Fr.rf
  refine e_eq (f_Yard_leaveYard.eq_1 _ _) ?_
  refine e_bnd ?_
  refine e_eq (f_Yard_named.eq_1 _ _ _) ?_
  refine e_bnd ?_
  refine e_eq (f_Yard_isNot.eq_1 _ _ _ _) ?_
  refine e_i (fun q1 => ?_) (fun q1 => ?_)
  · refine e_some ?_
    refine e_f (by decide) ?_
    refine e_some ?_
    refine e_f (by decide) ?_
    refine e_eq (f_Yard_leaveYard_j30.eq_1 _ _) ?_
    refine e_f (by decide) ?_
    refine e_cE (t_Report_found hW) (fun u3 T3 p3 => ?_)
    obtain ⟨hW3, hT3, hr3⟩ := p3
    have hF3 := hF.tr hT3 rfl
    exact e_some ⟨hW3, hF3, (hr3.sub rfl)⟩
  · refine e_i (fun q5 => ?_) (fun q5 => ?_)
    · refine e_some ?_
      refine e_t (by decide) ?_
      refine e_i (fun q7 => ?_) (fun q7 => ?_)
      · refine e_bnd ?_
        refine e_eq (f_Stock_isAs.eq_1 _ _ _) ?_
        refine e_cE (t_Stock_get hW ((rgl (0) 0 0 rfl).sub rfl)) (fun u9 T9 p9 => ?_)
        obtain ⟨-, hT9, hr9⟩ := p9
        have eT9 := (fr_nil hT9).symm
        subst eT9
        refine e_i (fun q10 => ?_) (fun q10 => ?_)
        · refine e_some ?_
          refine e_t (by decide) ?_
          refine e_some ?_
          refine e_f (by decide) ?_
          refine e_eq (f_Yard_leaveYard_j30.eq_1 _ _) ?_
          refine e_f (by decide) ?_
          refine e_cE (t_Report_found hW) (fun u12 T12 p12 => ?_)
          obtain ⟨hW12, hT12, hr12⟩ := p12
          have hF12 := hF.tr hT12 rfl
          exact e_some ⟨hW12, hF12, (hr12.sub rfl)⟩
        · refine e_i (fun q15 => ?_) (fun q15 => ?_)
          · refine e_some ?_
            refine e_f (by decide) ?_
            refine e_bnd ?_
            refine e_eq (f_State_isThere.eq_1 _ _) ?_
            refine e_cE (t_State_get hW ((rgl (0) 0 0 rfl).sub rfl)) (fun u17 T17 p17 => ?_)
            obtain ⟨-, hT17, hr17⟩ := p17
            have eT17 := (fr_nil hT17).symm
            subst eT17
            refine e_i (fun q18 => ?_) (fun q18 => ?_)
            · refine e_some ?_
              refine e_t (by decide) ?_
              refine e_some ?_
              refine e_f (by decide) ?_
              refine e_eq (f_Yard_leaveYard_j30.eq_1 _ _) ?_
              refine e_f (by decide) ?_
              refine e_cE (t_Report_found hW) (fun u20 T20 p20 => ?_)
              obtain ⟨hW20, hT20, hr20⟩ := p20
              have hF20 := hF.tr hT20 rfl
              exact e_some ⟨hW20, hF20, (hr20.sub rfl)⟩
            · refine e_some ?_
              refine e_f (by decide) ?_
              refine e_some ?_
              refine e_t (by decide) ?_
              refine e_cV (t_Trains_lineUp hW) (fun T23 p23 => ?_)
              obtain ⟨hW23, hT23⟩ := p23
              have hF23 := hF.tr hT23 rfl
              refine e_cE (t_Trains_leaveFinding hW23) (fun u25 T25 p25 => ?_)
              obtain ⟨-, hT25, hr25⟩ := p25
              have eT25 := (fr_nil hT25).symm
              subst eT25
              refine e_eq (f_Yard_leaveYard_j30.eq_1 _ _) ?_
              refine e_i (fun q26 => ?_) (fun q26 => ?_)
              · refine e_cV (t_Trains_setLine hW23 ((rgl (0) 0 0 rfl).sub rfl)) (fun T28 p28 => ?_)
                obtain ⟨hW28, hT28⟩ := p28
                have hF28 := hF23.tr hT28 rfl
                exact e_some ⟨hW28, hF28, ((ro_68_4 hW28).sub rfl)⟩
              · refine e_cE (t_Report_found hW23) (fun u31 T31 p31 => ?_)
                obtain ⟨hW31, hT31, hr31⟩ := p31
                have hF31 := hF23.tr hT31 rfl
                exact e_some ⟨hW31, hF31, (hr31.sub rfl)⟩
          · refine e_some ?_
            refine e_t (by decide) ?_
            refine e_some ?_
            refine e_f (by decide) ?_
            refine e_eq (f_Yard_leaveYard_j30.eq_1 _ _) ?_
            refine e_f (by decide) ?_
            refine e_cE (t_Report_found hW) (fun u34 T34 p34 => ?_)
            obtain ⟨hW34, hT34, hr34⟩ := p34
            have hF34 := hF.tr hT34 rfl
            exact e_some ⟨hW34, hF34, (hr34.sub rfl)⟩
      · refine e_some ?_
        refine e_f (by decide) ?_
        refine e_eq (f_Yard_leaveYard_j30.eq_1 _ _) ?_
        refine e_f (by decide) ?_
        refine e_cE (t_Report_found hW) (fun u37 T37 p37 => ?_)
        obtain ⟨hW37, hT37, hr37⟩ := p37
        have hF37 := hF.tr hT37 rfl
        exact e_some ⟨hW37, hF37, (hr37.sub rfl)⟩
    · refine e_some ?_
      refine e_f (by decide) ?_
      refine e_some ?_
      refine e_f (by decide) ?_
      refine e_eq (f_Yard_leaveYard_j30.eq_1 _ _) ?_
      refine e_f (by decide) ?_
      refine e_cE (t_Report_found hW) (fun u40 T40 p40 => ?_)
      obtain ⟨hW40, hT40, hr40⟩ := p40
      have hF40 := hF.tr hT40 rfl
      exact e_some ⟨hW40, hF40, (hr40.sub rfl)⟩
set_option maxRecDepth 20000 in
set_option maxHeartbeats 4000000 in
theorem t_Yard_leave {a1 : Int32} {S : SS} (hW : WR S) : Ex2 (f_Yard_leave a1 S) (fun r U => WR U ∧ Fr [77, 79, 81, 82, 83, 84, 85, 86, 87, 88, 89, 90, 104] [(62, 2), (62, 3), (62, 4), (62, 5), (62, 6), (64, 3), (64, 4), (64, 5), (64, 6), (64, 7), (68, 4)] S U ∧ True) := by
  have hF : Fr [77, 79, 81, 82, 83, 84, 85, 86, 87, 88, 89, 90, 104] [(62, 2), (62, 3), (62, 4), (62, 5), (62, 6), (64, 3), (64, 4), (64, 5), (64, 6), (64, 7), (68, 4)] S S := Fr.rf
  refine e_eq (f_Yard_leave.eq_1 _ _) ?_
  refine e_cV (t_Yard_beginAct hW) (fun T1 p1 => ?_)
  obtain ⟨hW1, hT1⟩ := p1
  have hF1 := hF.tr hT1 rfl
  refine e_cE (t_Yard_leaveYard hW1) (fun u2 T2 p2 => ?_)
  obtain ⟨hW2, hT2, hr2⟩ := p2
  have hF2 := hF1.tr hT2 rfl
  refine e_cE (t_Yard_endAct hW2) (fun u3 T3 p3 => ?_)
  obtain ⟨hW3, hT3, hr3⟩ := p3
  have hF3 := hF2.tr hT3 rfl
  exact e_some ⟨hW3, hF3, trivial⟩
set_option maxRecDepth 20000 in
set_option maxHeartbeats 4000000 in
theorem t_Yard_roll_L71 {S0 : SS} : ∀ (n : Nat) (x1 : Int32) (x2 : Int32) (x3 : Int32) (x5 : Int32) (S : SS), WR S → Fr [76, 77] [(62, 2), (62, 3), (62, 4), (62, 5), (62, 6)] S0 S → rg x3 0 8 → rg x5 0 8 → 8 - x5.toInt < (n : Int) → Ex2 (f_Yard_roll_L71 n x1 x2 x3 x5 S) (fun r U => WR U ∧ Fr [76, 77] [(62, 2), (62, 3), (62, 4), (62, 5), (62, 6)] S0 U ∧ rg r (-2) 8) := by
  intro n
  induction n with
  | zero =>
    intro x1 x2 x3 x5 S hW hF h2 h3 hm
    exact up_0 h3 hm rfl
  | succ n ih =>
    intro x1 x2 x3 x5 S hW hF h2 h3 hm
    refine e_eq (f_Yard_roll_L71.eq_2 _ _ _ _ _ _) ?_
    refine e_i (fun q1 => ?_) (fun q1 => ?_)
    · exact e_some ⟨hW, hF, (h2.sub rfl)⟩
    · have f2 := nle_l 1 h2 h3 q1 rfl
      have f3 := nle_r 7 h2 h3 q1 rfl
      refine e_bnd ?_
      refine e_eq (f_Layout_spot.eq_1 _ _ _) ?_
      refine e_someG (fun w4 hw4 => ?_)
      refine e_cE (t_State_standsAt hW) (fun u5 T5 p5 => ?_)
      obtain ⟨-, hT5, hr5⟩ := p5
      have eT5 := (fr_nil hT5).symm
      subst eT5
      refine e_i (fun q6 => ?_) (fun q6 => ?_)
      · refine e_eq (f_Yard_roll_j124.eq_1 _ _ _ _ _ _ _) ?_
        refine e_grd (inb_g f3 rfl) ?_
        refine e_wrA (fun T8 eT8 hT8 v8 => ?_)
        have hW8 := WR.st (k := 76) hW trivial rfl eT8
        have hF8 := hF.tr hT8 rfl
        refine e_nmG (fun w10 hw10 => ?_)
        have f11 := rg_tr (rg_add 1 8 f3 (rgl (1) 1 1 rfl) rfl) hw10
        exact ih _ _ _ _ _ hW8 hF8 (f2.sub rfl) (f11.sub rfl) (up_s f3 hw10 hm rfl)
      · refine e_bnd ?_
        refine e_eq (f_Stock_isAs.eq_1 _ _ _) ?_
        refine e_cE (t_Stock_get hW ((rgl (0) 0 0 rfl).sub rfl)) (fun u13 T13 p13 => ?_)
        obtain ⟨-, hT13, hr13⟩ := p13
        have eT13 := (fr_nil hT13).symm
        subst eT13
        refine e_i (fun q14 => ?_) (fun q14 => ?_)
        · refine e_some ?_
          refine e_t (by decide) ?_
          refine e_cE (t_Report_found hW) (fun u16 T16 p16 => ?_)
          obtain ⟨hW16, hT16, hr16⟩ := p16
          have hF16 := hF.tr hT16 rfl
          exact e_some ⟨hW16, hF16, (hr16.sub rfl)⟩
        · refine e_i (fun q18 => ?_) (fun q18 => ?_)
          · refine e_some ?_
            refine e_f (by decide) ?_
            refine e_eq (f_Yard_roll_j124.eq_1 _ _ _ _ _ _ _) ?_
            refine e_grd (inb_g f3 rfl) ?_
            refine e_wrA (fun T20 eT20 hT20 v20 => ?_)
            have hW20 := WR.st (k := 76) hW trivial rfl eT20
            have hF20 := hF.tr hT20 rfl
            refine e_nmG (fun w22 hw22 => ?_)
            have f23 := rg_tr (rg_add 1 8 f3 (rgl (1) 1 1 rfl) rfl) hw22
            exact ih _ _ _ _ _ hW20 hF20 (f2.sub rfl) (f23.sub rfl) (up_s f3 hw22 hm rfl)
          · refine e_some ?_
            refine e_t (by decide) ?_
            refine e_cE (t_Report_found hW) (fun u25 T25 p25 => ?_)
            obtain ⟨hW25, hT25, hr25⟩ := p25
            have hF25 := hF.tr hT25 rfl
            exact e_some ⟨hW25, hF25, (hr25.sub rfl)⟩
set_option maxRecDepth 20000 in
set_option maxHeartbeats 4000000 in
theorem t_Yard_roll {a1 : Int32} {a2 : Int32} {a3 : Int32} {S : SS} (hW : WR S) : Ex2 (f_Yard_roll a1 a2 a3 S) (fun r U => WR U ∧ Fr [76, 77] [(62, 2), (62, 3), (62, 4), (62, 5), (62, 6)] S U ∧ rg r (-2) 8) := by
  have hF : Fr [76, 77] [(62, 2), (62, 3), (62, 4), (62, 5), (62, 6)] S S := Fr.rf
  refine e_eq (f_Yard_roll.eq_1 _ _ _ _) ?_
  refine e_cV (t_Report_begin hW) (fun T1 p1 => ?_)
  obtain ⟨hW1, hT1⟩ := p1
  have hF1 := hF.tr hT1 rfl
  refine e_bnd ?_
  refine e_eq (f_Layout_trackFinding.eq_1 _ _) ?_
  refine e_i (fun q2 => ?_) (fun q2 => ?_)
  · refine e_some ?_
    refine e_f (by decide) ?_
    refine e_eq (f_Yard_roll_j53.eq_1 _ _ _ _ _) ?_
    refine e_f (by decide) ?_
    refine e_cE (t_Report_found hW1) (fun u4 T4 p4 => ?_)
    obtain ⟨hW4, hT4, hr4⟩ := p4
    have hF4 := hF1.tr hT4 rfl
    exact e_some ⟨hW4, hF4, (hr4.sub rfl)⟩
  · have f5 := nlt_l (rgt _) (rgl 0 0 0 rfl) q2
    refine e_i (fun q6 => ?_) (fun q6 => ?_)
    · have f7 := lt_l 23 f5 (rgl (24) 24 24 rfl) q6 rfl
      refine e_i (fun q8 => ?_) (fun q8 => ?_)
      · refine e_some ?_
        refine e_f (by decide) ?_
        refine e_eq (f_Yard_roll_j53.eq_1 _ _ _ _ _) ?_
        refine e_f (by decide) ?_
        refine e_cE (t_Report_found hW1) (fun u10 T10 p10 => ?_)
        obtain ⟨hW10, hT10, hr10⟩ := p10
        have hF10 := hF1.tr hT10 rfl
        exact e_some ⟨hW10, hF10, (hr10.sub rfl)⟩
      · refine e_some ?_
        refine e_t (by decide) ?_
        refine e_i (fun q13 => ?_) (fun q13 => ?_)
        · refine e_eq (f_Yard_roll_j50.eq_1 _ _ _ _) ?_
          refine e_eq (f_Yard_roll_j53.eq_1 _ _ _ _ _) ?_
          refine e_f (by decide) ?_
          refine e_cE (t_Report_found hW1) (fun u15 T15 p15 => ?_)
          obtain ⟨hW15, hT15, hr15⟩ := p15
          have hF15 := hF1.tr hT15 rfl
          exact e_some ⟨hW15, hF15, (hr15.sub rfl)⟩
        · refine e_i (fun q18 => ?_) (fun q18 => ?_)
          · refine e_eq (f_Yard_roll_j50.eq_1 _ _ _ _) ?_
            refine e_eq (f_Yard_roll_j53.eq_1 _ _ _ _ _) ?_
            refine e_f (by decide) ?_
            refine e_cE (t_Report_found hW1) (fun u20 T20 p20 => ?_)
            obtain ⟨hW20, hT20, hr20⟩ := p20
            have hF20 := hF1.tr hT20 rfl
            exact e_some ⟨hW20, hF20, (hr20.sub rfl)⟩
          · have f22 := nlt_l (rgt _) (rgl 0 0 0 rfl) q18
            refine e_i (fun q23 => ?_) (fun q23 => ?_)
            · refine e_eq (f_Yard_roll_j50.eq_1 _ _ _ _) ?_
              refine e_eq (f_Yard_roll_j53.eq_1 _ _ _ _ _) ?_
              refine e_f (by decide) ?_
              refine e_cE (t_Report_found hW1) (fun u25 T25 p25 => ?_)
              obtain ⟨hW25, hT25, hr25⟩ := p25
              have hF25 := hF1.tr hT25 rfl
              exact e_some ⟨hW25, hF25, (hr25.sub rfl)⟩
            · have f27 := nlt_r (rgl (8) 8 8 rfl) f22 q23
              refine e_bnd ?_
              refine e_eq (f_Layout_placesOf.eq_1 _ _) ?_
              refine e_f q2 ?_
              refine e_f q8 ?_
              refine e_grd (inb_g f7 rfl) ?_
              refine e_someG (fun w28 hw28 => ?_)
              refine e_i (fun q29 => ?_) (fun q29 => ?_)
              · refine e_eq (f_Yard_roll_j53.eq_1 _ _ _ _ _) ?_
                refine e_t (by decide) ?_
                exact t_Yard_roll_L71  NF _ _ _ _ _ hW1 hF1 f27 ((rgl (0) 0 0 rfl).sub rfl) (up_n (rgl (0) 0 0 rfl) rfl)
              · refine e_eq (f_Yard_roll_j50.eq_1 _ _ _ _) ?_
                refine e_eq (f_Yard_roll_j53.eq_1 _ _ _ _ _) ?_
                refine e_f (by decide) ?_
                refine e_cE (t_Report_found hW1) (fun u32 T32 p32 => ?_)
                obtain ⟨hW32, hT32, hr32⟩ := p32
                have hF32 := hF1.tr hT32 rfl
                exact e_some ⟨hW32, hF32, (hr32.sub rfl)⟩
    · refine e_some ?_
      refine e_f (by decide) ?_
      refine e_eq (f_Yard_roll_j53.eq_1 _ _ _ _ _) ?_
      refine e_f (by decide) ?_
      refine e_cE (t_Report_found hW1) (fun u35 T35 p35 => ?_)
      obtain ⟨hW35, hT35, hr35⟩ := p35
      have hF35 := hF1.tr hT35 rfl
      exact e_some ⟨hW35, hF35, (hr35.sub rfl)⟩
set_option maxRecDepth 20000 in
set_option maxHeartbeats 4000000 in
theorem t_Yard_store {a1 : Int32} {a2 : Int32} {S : SS} (hW : WR S) : Ex2 (f_Yard_store a1 a2 S) (fun r U => WR U ∧ Fr [76, 77] [(62, 2), (62, 3), (62, 4), (62, 5), (62, 6)] S U ∧ rg r (-2) 1) := by
  have hF : Fr [76, 77] [(62, 2), (62, 3), (62, 4), (62, 5), (62, 6)] S S := Fr.rf
  refine e_eq (f_Yard_store.eq_1 _ _ _) ?_
  refine e_cV (t_Report_begin hW) (fun T1 p1 => ?_)
  obtain ⟨hW1, hT1⟩ := p1
  have hF1 := hF.tr hT1 rfl
  refine e_bnd ?_
  refine e_eq (f_Yard_named.eq_1 _ _ _) ?_
  refine e_bnd ?_
  refine e_eq (f_Yard_isNot.eq_1 _ _ _ _) ?_
  refine e_i (fun q2 => ?_) (fun q2 => ?_)
  · refine e_some ?_
    refine e_f (by decide) ?_
    refine e_some ?_
    refine e_f (by decide) ?_
    refine e_eq (f_Yard_store_j31.eq_1 _ _ _ _) ?_
    refine e_f (by decide) ?_
    refine e_eq (f_Yard_store_j50.eq_1 _ _ _ _) ?_
    refine e_f (by decide) ?_
    refine e_cE (t_Report_found hW1) (fun u4 T4 p4 => ?_)
    obtain ⟨hW4, hT4, hr4⟩ := p4
    have hF4 := hF1.tr hT4 rfl
    exact e_some ⟨hW4, hF4, (hr4.sub rfl)⟩
  · refine e_i (fun q6 => ?_) (fun q6 => ?_)
    · refine e_some ?_
      refine e_t (by decide) ?_
      refine e_i (fun q8 => ?_) (fun q8 => ?_)
      · refine e_bnd ?_
        refine e_eq (f_Stock_isAs.eq_1 _ _ _) ?_
        refine e_cE (t_Stock_get hW1 ((rgl (0) 0 0 rfl).sub rfl)) (fun u10 T10 p10 => ?_)
        obtain ⟨-, hT10, hr10⟩ := p10
        have eT10 := (fr_nil hT10).symm
        subst eT10
        refine e_i (fun q11 => ?_) (fun q11 => ?_)
        · refine e_some ?_
          refine e_t (by decide) ?_
          refine e_some ?_
          refine e_f (by decide) ?_
          refine e_eq (f_Yard_store_j31.eq_1 _ _ _ _) ?_
          refine e_f (by decide) ?_
          refine e_eq (f_Yard_store_j50.eq_1 _ _ _ _) ?_
          refine e_f (by decide) ?_
          refine e_cE (t_Report_found hW1) (fun u13 T13 p13 => ?_)
          obtain ⟨hW13, hT13, hr13⟩ := p13
          have hF13 := hF1.tr hT13 rfl
          exact e_some ⟨hW13, hF13, (hr13.sub rfl)⟩
        · refine e_i (fun q16 => ?_) (fun q16 => ?_)
          · refine e_some ?_
            refine e_f (by decide) ?_
            refine e_bnd ?_
            refine e_eq (f_State_isThere.eq_1 _ _) ?_
            refine e_cE (t_State_get hW1 ((rgl (0) 0 0 rfl).sub rfl)) (fun u18 T18 p18 => ?_)
            obtain ⟨-, hT18, hr18⟩ := p18
            have eT18 := (fr_nil hT18).symm
            subst eT18
            refine e_i (fun q19 => ?_) (fun q19 => ?_)
            · refine e_some ?_
              refine e_t (by decide) ?_
              refine e_some ?_
              refine e_f (by decide) ?_
              refine e_eq (f_Yard_store_j31.eq_1 _ _ _ _) ?_
              refine e_f (by decide) ?_
              refine e_eq (f_Yard_store_j50.eq_1 _ _ _ _) ?_
              refine e_f (by decide) ?_
              refine e_cE (t_Report_found hW1) (fun u21 T21 p21 => ?_)
              obtain ⟨hW21, hT21, hr21⟩ := p21
              have hF21 := hF1.tr hT21 rfl
              exact e_some ⟨hW21, hF21, (hr21.sub rfl)⟩
            · refine e_some ?_
              refine e_f (by decide) ?_
              refine e_some ?_
              refine e_t (by decide) ?_
              refine e_bnd ?_
              refine e_eq (f_Yard_isNot.eq_1 _ _ _ _) ?_
              refine e_i (fun q24 => ?_) (fun q24 => ?_)
              · refine e_some ?_
                refine e_f (by decide) ?_
                refine e_eq (f_Yard_store_j31.eq_1 _ _ _ _) ?_
                refine e_f (by decide) ?_
                refine e_eq (f_Yard_store_j50.eq_1 _ _ _ _) ?_
                refine e_f (by decide) ?_
                refine e_cE (t_Report_found hW1) (fun u26 T26 p26 => ?_)
                obtain ⟨hW26, hT26, hr26⟩ := p26
                have hF26 := hF1.tr hT26 rfl
                exact e_some ⟨hW26, hF26, (hr26.sub rfl)⟩
              · have f28 := nlt_l (rgt _) (rgl (0) 0 0 rfl) q24
                refine e_i (fun q29 => ?_) (fun q29 => ?_)
                · have f30 := le_l f28 (rgl (7) 7 7 rfl) q29
                  refine e_some ?_
                  refine e_t (by decide) ?_
                  refine e_eq (f_Yard_store_j31.eq_1 _ _ _ _) ?_
                  refine e_t (by decide) ?_
                  refine e_bnd ?_
                  refine e_eq (f_Stock_isAs.eq_1 _ _ _) ?_
                  refine e_cE (t_Stock_get hW1 ((rgl (0) 0 0 rfl).sub rfl)) (fun u31 T31 p31 => ?_)
                  obtain ⟨-, hT31, hr31⟩ := p31
                  have eT31 := (fr_nil hT31).symm
                  subst eT31
                  refine e_i (fun q32 => ?_) (fun q32 => ?_)
                  · refine e_some ?_
                    refine e_t (by decide) ?_
                    refine e_eq (f_Yard_store_j50.eq_1 _ _ _ _) ?_
                    refine e_f (by decide) ?_
                    refine e_cE (t_Report_found hW1) (fun u34 T34 p34 => ?_)
                    obtain ⟨hW34, hT34, hr34⟩ := p34
                    have hF34 := hF1.tr hT34 rfl
                    exact e_some ⟨hW34, hF34, (hr34.sub rfl)⟩
                  · refine e_i (fun q37 => ?_) (fun q37 => ?_)
                    · refine e_some ?_
                      refine e_f (by decide) ?_
                      refine e_eq (f_Yard_store_j50.eq_1 _ _ _ _) ?_
                      refine e_t (by decide) ?_
                      refine e_grd (inb_g f30 rfl) ?_
                      refine e_wrA (fun T39 eT39 hT39 v39 => ?_)
                      have hW39 := WR.st (k := 76) hW1 trivial rfl eT39
                      have hF39 := hF1.tr hT39 rfl
                      exact e_some ⟨hW39, hF39, ((rgl (1) 1 1 rfl).sub rfl)⟩
                    · refine e_some ?_
                      refine e_t (by decide) ?_
                      refine e_eq (f_Yard_store_j50.eq_1 _ _ _ _) ?_
                      refine e_f (by decide) ?_
                      refine e_cE (t_Report_found hW1) (fun u43 T43 p43 => ?_)
                      obtain ⟨hW43, hT43, hr43⟩ := p43
                      have hF43 := hF1.tr hT43 rfl
                      exact e_some ⟨hW43, hF43, (hr43.sub rfl)⟩
                · refine e_some ?_
                  refine e_f (by decide) ?_
                  refine e_eq (f_Yard_store_j31.eq_1 _ _ _ _) ?_
                  refine e_f (by decide) ?_
                  refine e_eq (f_Yard_store_j50.eq_1 _ _ _ _) ?_
                  refine e_f (by decide) ?_
                  refine e_cE (t_Report_found hW1) (fun u46 T46 p46 => ?_)
                  obtain ⟨hW46, hT46, hr46⟩ := p46
                  have hF46 := hF1.tr hT46 rfl
                  exact e_some ⟨hW46, hF46, (hr46.sub rfl)⟩
          · refine e_some ?_
            refine e_t (by decide) ?_
            refine e_some ?_
            refine e_f (by decide) ?_
            refine e_eq (f_Yard_store_j31.eq_1 _ _ _ _) ?_
            refine e_f (by decide) ?_
            refine e_eq (f_Yard_store_j50.eq_1 _ _ _ _) ?_
            refine e_f (by decide) ?_
            refine e_cE (t_Report_found hW1) (fun u49 T49 p49 => ?_)
            obtain ⟨hW49, hT49, hr49⟩ := p49
            have hF49 := hF1.tr hT49 rfl
            exact e_some ⟨hW49, hF49, (hr49.sub rfl)⟩
      · refine e_some ?_
        refine e_f (by decide) ?_
        refine e_eq (f_Yard_store_j31.eq_1 _ _ _ _) ?_
        refine e_f (by decide) ?_
        refine e_eq (f_Yard_store_j50.eq_1 _ _ _ _) ?_
        refine e_f (by decide) ?_
        refine e_cE (t_Report_found hW1) (fun u52 T52 p52 => ?_)
        obtain ⟨hW52, hT52, hr52⟩ := p52
        have hF52 := hF1.tr hT52 rfl
        exact e_some ⟨hW52, hF52, (hr52.sub rfl)⟩
    · refine e_some ?_
      refine e_f (by decide) ?_
      refine e_some ?_
      refine e_f (by decide) ?_
      refine e_eq (f_Yard_store_j31.eq_1 _ _ _ _) ?_
      refine e_f (by decide) ?_
      refine e_eq (f_Yard_store_j50.eq_1 _ _ _ _) ?_
      refine e_f (by decide) ?_
      refine e_cE (t_Report_found hW1) (fun u55 T55 p55 => ?_)
      obtain ⟨hW55, hT55, hr55⟩ := p55
      have hF55 := hF1.tr hT55 rfl
      exact e_some ⟨hW55, hF55, (hr55.sub rfl)⟩
set_option maxRecDepth 20000 in
set_option maxHeartbeats 4000000 in
theorem t_Yard_rolled {a1 : Int32} {S : SS} (hW : WR S) : Ex2 (f_Yard_rolled a1 S) (fun r U => WR U ∧ Fr [77] [(62, 2), (62, 3), (62, 4), (62, 5), (62, 6)] S U ∧ True) := by
  have hF : Fr [77] [(62, 2), (62, 3), (62, 4), (62, 5), (62, 6)] S S := Fr.rf
  refine e_eq (f_Yard_rolled.eq_1 _ _) ?_
  refine e_cV (t_Report_begin hW) (fun T1 p1 => ?_)
  obtain ⟨hW1, hT1⟩ := p1
  have hF1 := hF.tr hT1 rfl
  refine e_bnd ?_
  refine e_eq (f_Yard_isNot.eq_1 _ _ _ _) ?_
  refine e_i (fun q2 => ?_) (fun q2 => ?_)
  · refine e_some ?_
    refine e_f (by decide) ?_
    refine e_cE (t_Report_found hW1) (fun u4 T4 p4 => ?_)
    obtain ⟨hW4, hT4, hr4⟩ := p4
    have hF4 := hF1.tr hT4 rfl
    exact e_some ⟨hW4, hF4, trivial⟩
  · have f5 := nlt_l (rgt _) (rgl (0) 0 0 rfl) q2
    refine e_i (fun q6 => ?_) (fun q6 => ?_)
    · have f7 := le_l f5 (rgl (7) 7 7 rfl) q6
      refine e_some ?_
      refine e_t (by decide) ?_
      refine e_grd (inb_g f7 rfl) ?_
      exact e_some ⟨hW1, hF1, trivial⟩
    · refine e_some ?_
      refine e_f (by decide) ?_
      refine e_cE (t_Report_found hW1) (fun u9 T9 p9 => ?_)
      obtain ⟨hW9, hT9, hr9⟩ := p9
      have hF9 := hF1.tr hT9 rfl
      exact e_some ⟨hW9, hF9, trivial⟩
set_option maxRecDepth 20000 in
set_option maxHeartbeats 4000000 in
theorem t_Yard_at {a1 : Int32} {a2 : Int32} {S : SS} (hW : WR S) : Ex2 (f_Yard_at a1 a2 S) (fun r U => WR U ∧ Fr [77] [(62, 2), (62, 3), (62, 4), (62, 5), (62, 6)] S U ∧ rn r (-2) 71) := by
  have hF : Fr [77] [(62, 2), (62, 3), (62, 4), (62, 5), (62, 6)] S S := Fr.rf
  refine e_eq (f_Yard_at.eq_1 _ _ _) ?_
  refine e_cV (t_Report_begin hW) (fun T1 p1 => ?_)
  obtain ⟨hW1, hT1⟩ := p1
  have hF1 := hF.tr hT1 rfl
  refine e_bnd ?_
  refine e_eq (f_Layout_placeFinding.eq_1 _ _ _) ?_
  refine e_bnd ?_
  refine e_eq (f_Layout_trackFinding.eq_1 _ _) ?_
  refine e_i (fun q2 => ?_) (fun q2 => ?_)
  · refine e_some ?_
    refine e_f (by decide) ?_
    refine e_some ?_
    refine e_f (by decide) ?_
    refine e_cE (t_Report_found hW1) (fun u4 T4 p4 => ?_)
    obtain ⟨hW4, hT4, hr4⟩ := p4
    have hF4 := hF1.tr hT4 rfl
    exact e_some ⟨hW4, hF4, (rg.toN (hr4.sub rfl))⟩
  · have f5 := nlt_l (rgt _) (rgl 0 0 0 rfl) q2
    refine e_i (fun q6 => ?_) (fun q6 => ?_)
    · have f7 := lt_l 23 f5 (rgl (24) 24 24 rfl) q6 rfl
      refine e_i (fun q8 => ?_) (fun q8 => ?_)
      · refine e_some ?_
        refine e_f (by decide) ?_
        refine e_some ?_
        refine e_f (by decide) ?_
        refine e_cE (t_Report_found hW1) (fun u10 T10 p10 => ?_)
        obtain ⟨hW10, hT10, hr10⟩ := p10
        have hF10 := hF1.tr hT10 rfl
        exact e_some ⟨hW10, hF10, (rg.toN (hr10.sub rfl))⟩
      · refine e_some ?_
        refine e_t (by decide) ?_
        refine e_i (fun q13 => ?_) (fun q13 => ?_)
        · refine e_some ?_
          refine e_f (by decide) ?_
          refine e_cE (t_Report_found hW1) (fun u15 T15 p15 => ?_)
          obtain ⟨hW15, hT15, hr15⟩ := p15
          have hF15 := hF1.tr hT15 rfl
          exact e_some ⟨hW15, hF15, (rg.toN (hr15.sub rfl))⟩
        · refine e_bnd ?_
          refine e_eq (f_Layout_placesOf.eq_1 _ _) ?_
          refine e_f q2 ?_
          refine e_f q8 ?_
          refine e_grd (inb_g f7 rfl) ?_
          refine e_someG (fun w18 hw18 => ?_)
          refine e_i (fun q19 => ?_) (fun q19 => ?_)
          · refine e_some ?_
            refine e_t (by decide) ?_
            refine e_bnd ?_
            refine e_eq (f_Layout_spot.eq_1 _ _ _) ?_
            refine e_someG (fun w23 hw23 => ?_)
            refine e_cE (t_State_standsAt hW1) (fun u24 T24 p24 => ?_)
            obtain ⟨-, hT24, hr24⟩ := p24
            have eT24 := (fr_nil hT24).symm
            subst eT24
            exact e_some ⟨hW1, hF1, (rn.sub hr24 rfl)⟩
          · refine e_some ?_
            refine e_f (by decide) ?_
            refine e_cE (t_Report_found hW1) (fun u25 T25 p25 => ?_)
            obtain ⟨hW25, hT25, hr25⟩ := p25
            have hF25 := hF1.tr hT25 rfl
            exact e_some ⟨hW25, hF25, (rg.toN (hr25.sub rfl))⟩
    · refine e_some ?_
      refine e_f (by decide) ?_
      refine e_some ?_
      refine e_f (by decide) ?_
      refine e_cE (t_Report_found hW1) (fun u28 T28 p28 => ?_)
      obtain ⟨hW28, hT28, hr28⟩ := p28
      have hF28 := hF1.tr hT28 rfl
      exact e_some ⟨hW28, hF28, (rg.toN (hr28.sub rfl))⟩
set_option maxRecDepth 20000 in
set_option maxHeartbeats 4000000 in
theorem t_Yard_thing {a1 : Int32} {a2 : Int32} {S : SS} (hW : WR S) : Ex2 (f_Yard_thing a1 a2 S) (fun r U => WR U ∧ Fr [77] [(62, 2), (62, 3), (62, 4), (62, 5), (62, 6)] S U ∧ True) := by
  have hF : Fr [77] [(62, 2), (62, 3), (62, 4), (62, 5), (62, 6)] S S := Fr.rf
  refine e_eq (f_Yard_thing.eq_1 _ _ _) ?_
  refine e_bnd ?_
  refine e_eq (f_Yard_isNot.eq_1 _ _ _ _) ?_
  refine e_i (fun q1 => ?_) (fun q1 => ?_)
  · refine e_some ?_
    refine e_f (by decide) ?_
    exact e_some ⟨hW, hF, trivial⟩
  · refine e_i (fun q4 => ?_) (fun q4 => ?_)
    · refine e_some ?_
      refine e_t (by decide) ?_
      refine e_cV (t_Report_begin hW) (fun T6 p6 => ?_)
      obtain ⟨hW6, hT6⟩ := p6
      have hF6 := hF.tr hT6 rfl
      refine e_bnd ?_
      refine e_eq (f_Yard_named.eq_1 _ _ _) ?_
      refine e_bnd ?_
      refine e_eq (f_Yard_isNot.eq_1 _ _ _ _) ?_
      refine e_i (fun q7 => ?_) (fun q7 => ?_)
      · refine e_some ?_
        refine e_f (by decide) ?_
        refine e_some ?_
        refine e_f (by decide) ?_
        refine e_cE (t_Report_found hW6) (fun u9 T9 p9 => ?_)
        obtain ⟨hW9, hT9, hr9⟩ := p9
        have hF9 := hF6.tr hT9 rfl
        exact e_some ⟨hW9, hF9, trivial⟩
      · refine e_i (fun q11 => ?_) (fun q11 => ?_)
        · refine e_some ?_
          refine e_t (by decide) ?_
          refine e_i (fun q13 => ?_) (fun q13 => ?_)
          · refine e_bnd ?_
            refine e_eq (f_Stock_isAs.eq_1 _ _ _) ?_
            refine e_cE (t_Stock_get hW6 ((rgl (0) 0 0 rfl).sub rfl)) (fun u15 T15 p15 => ?_)
            obtain ⟨-, hT15, hr15⟩ := p15
            have eT15 := (fr_nil hT15).symm
            subst eT15
            refine e_i (fun q16 => ?_) (fun q16 => ?_)
            · refine e_some ?_
              refine e_t (by decide) ?_
              refine e_some ?_
              refine e_f (by decide) ?_
              refine e_cE (t_Report_found hW6) (fun u18 T18 p18 => ?_)
              obtain ⟨hW18, hT18, hr18⟩ := p18
              have hF18 := hF6.tr hT18 rfl
              exact e_some ⟨hW18, hF18, trivial⟩
            · refine e_i (fun q21 => ?_) (fun q21 => ?_)
              · refine e_some ?_
                refine e_f (by decide) ?_
                refine e_bnd ?_
                refine e_eq (f_State_isThere.eq_1 _ _) ?_
                refine e_cE (t_State_get hW6 ((rgl (0) 0 0 rfl).sub rfl)) (fun u23 T23 p23 => ?_)
                obtain ⟨-, hT23, hr23⟩ := p23
                have eT23 := (fr_nil hT23).symm
                subst eT23
                refine e_i (fun q24 => ?_) (fun q24 => ?_)
                · refine e_some ?_
                  refine e_t (by decide) ?_
                  refine e_some ?_
                  refine e_f (by decide) ?_
                  refine e_cE (t_Report_found hW6) (fun u26 T26 p26 => ?_)
                  obtain ⟨hW26, hT26, hr26⟩ := p26
                  have hF26 := hF6.tr hT26 rfl
                  exact e_some ⟨hW26, hF26, trivial⟩
                · refine e_some ?_
                  refine e_f (by decide) ?_
                  refine e_some ?_
                  refine e_t (by decide) ?_
                  refine e_i (fun q29 => ?_) (fun q29 => ?_)
                  · refine e_cE (t_Stock_get hW6 ((rgl (0) 0 0 rfl).sub rfl)) (fun u31 T31 p31 => ?_)
                    obtain ⟨-, hT31, hr31⟩ := p31
                    have eT31 := (fr_nil hT31).symm
                    subst eT31
                    exact e_some ⟨hW6, hF6, trivial⟩
                  · refine e_i (fun q33 => ?_) (fun q33 => ?_)
                    · refine e_cE (t_State_get hW6 ((rgl (0) 0 0 rfl).sub rfl)) (fun u35 T35 p35 => ?_)
                      obtain ⟨-, hT35, hr35⟩ := p35
                      have eT35 := (fr_nil hT35).symm
                      subst eT35
                      refine e_cE (t_Layout_trackOf hW6) (fun u36 T36 p36 => ?_)
                      obtain ⟨-, hT36, hr36⟩ := p36
                      have eT36 := (fr_nil hT36).symm
                      subst eT36
                      exact e_some ⟨hW6, hF6, trivial⟩
                    · refine e_i (fun q38 => ?_) (fun q38 => ?_)
                      · refine e_cE (t_State_get hW6 ((rgl (0) 0 0 rfl).sub rfl)) (fun u40 T40 p40 => ?_)
                        obtain ⟨-, hT40, hr40⟩ := p40
                        have eT40 := (fr_nil hT40).symm
                        subst eT40
                        refine e_cE (t_Layout_placeOf hW6) (fun u41 T41 p41 => ?_)
                        obtain ⟨-, hT41, hr41⟩ := p41
                        have eT41 := (fr_nil hT41).symm
                        subst eT41
                        exact e_some ⟨hW6, hF6, trivial⟩
                      · refine e_i (fun q43 => ?_) (fun q43 => ?_)
                        · refine e_cE (t_State_get hW6 ((rgl (1) 1 1 rfl).sub rfl)) (fun u45 T45 p45 => ?_)
                          obtain ⟨-, hT45, hr45⟩ := p45
                          have eT45 := (fr_nil hT45).symm
                          subst eT45
                          exact e_some ⟨hW6, hF6, trivial⟩
                        · refine e_i (fun q47 => ?_) (fun q47 => ?_)
                          · refine e_cE (t_State_get hW6 ((rgl (2) 2 2 rfl).sub rfl)) (fun u49 T49 p49 => ?_)
                            obtain ⟨-, hT49, hr49⟩ := p49
                            have eT49 := (fr_nil hT49).symm
                            subst eT49
                            exact e_some ⟨hW6, hF6, trivial⟩
                          · refine e_i (fun q51 => ?_) (fun q51 => ?_)
                            · refine e_cE (t_State_get hW6 ((rgl (3) 3 3 rfl).sub rfl)) (fun u53 T53 p53 => ?_)
                              obtain ⟨-, hT53, hr53⟩ := p53
                              have eT53 := (fr_nil hT53).symm
                              subst eT53
                              exact e_some ⟨hW6, hF6, trivial⟩
                            · refine e_i (fun q55 => ?_) (fun q55 => ?_)
                              · refine e_cE (t_State_get hW6 ((rgl (4) 4 4 rfl).sub rfl)) (fun u57 T57 p57 => ?_)
                                obtain ⟨-, hT57, hr57⟩ := p57
                                have eT57 := (fr_nil hT57).symm
                                subst eT57
                                exact e_some ⟨hW6, hF6, trivial⟩
                              · refine e_i (fun q59 => ?_) (fun q59 => ?_)
                                · refine e_cE (t_State_get hW6 ((rgl (5) 5 5 rfl).sub rfl)) (fun u61 T61 p61 => ?_)
                                  obtain ⟨-, hT61, hr61⟩ := p61
                                  have eT61 := (fr_nil hT61).symm
                                  subst eT61
                                  exact e_some ⟨hW6, hF6, trivial⟩
                                · refine e_i (fun q63 => ?_) (fun q63 => ?_)
                                  · refine e_cE (t_State_get hW6 ((rgl (6) 6 6 rfl).sub rfl)) (fun u65 T65 p65 => ?_)
                                    obtain ⟨-, hT65, hr65⟩ := p65
                                    have eT65 := (fr_nil hT65).symm
                                    subst eT65
                                    exact e_some ⟨hW6, hF6, trivial⟩
                                  · refine e_i (fun q67 => ?_) (fun q67 => ?_)
                                    · refine e_cE (t_State_get hW6 ((rgl (8) 8 8 rfl).sub rfl)) (fun u69 T69 p69 => ?_)
                                      obtain ⟨-, hT69, hr69⟩ := p69
                                      have eT69 := (fr_nil hT69).symm
                                      subst eT69
                                      exact e_some ⟨hW6, hF6, trivial⟩
                                    · refine e_cE (t_State_get hW6 ((rgl (10) 10 10 rfl).sub rfl)) (fun u71 T71 p71 => ?_)
                                      obtain ⟨-, hT71, hr71⟩ := p71
                                      have eT71 := (fr_nil hT71).symm
                                      subst eT71
                                      exact e_some ⟨hW6, hF6, trivial⟩
              · refine e_some ?_
                refine e_t (by decide) ?_
                refine e_some ?_
                refine e_f (by decide) ?_
                refine e_cE (t_Report_found hW6) (fun u73 T73 p73 => ?_)
                obtain ⟨hW73, hT73, hr73⟩ := p73
                have hF73 := hF6.tr hT73 rfl
                exact e_some ⟨hW73, hF73, trivial⟩
          · refine e_some ?_
            refine e_f (by decide) ?_
            refine e_cE (t_Report_found hW6) (fun u76 T76 p76 => ?_)
            obtain ⟨hW76, hT76, hr76⟩ := p76
            have hF76 := hF6.tr hT76 rfl
            exact e_some ⟨hW76, hF76, trivial⟩
        · refine e_some ?_
          refine e_f (by decide) ?_
          refine e_some ?_
          refine e_f (by decide) ?_
          refine e_cE (t_Report_found hW6) (fun u79 T79 p79 => ?_)
          obtain ⟨hW79, hT79, hr79⟩ := p79
          have hF79 := hF6.tr hT79 rfl
          exact e_some ⟨hW79, hF79, trivial⟩
    · refine e_some ?_
      refine e_f (by decide) ?_
      exact e_some ⟨hW, hF, trivial⟩
set_option maxRecDepth 20000 in
set_option maxHeartbeats 4000000 in
theorem t_Yard_pointed {a1 : Int32} {a2 : Int32} {S : SS} (hW : WR S) : Ex2 (f_Yard_pointed a1 a2 S) (fun r U => WR U ∧ Fr [77] [(62, 2), (62, 3), (62, 4), (62, 5), (62, 6)] S U ∧ True) := by
  have hF : Fr [77] [(62, 2), (62, 3), (62, 4), (62, 5), (62, 6)] S S := Fr.rf
  refine e_eq (f_Yard_pointed.eq_1 _ _ _) ?_
  refine e_bnd ?_
  refine e_eq (f_Yard_isNot.eq_1 _ _ _ _) ?_
  refine e_i (fun q1 => ?_) (fun q1 => ?_)
  · refine e_some ?_
    refine e_f (by decide) ?_
    exact e_some ⟨hW, hF, trivial⟩
  · refine e_i (fun q4 => ?_) (fun q4 => ?_)
    · refine e_some ?_
      refine e_t (by decide) ?_
      refine e_cV (t_Report_begin hW) (fun T6 p6 => ?_)
      obtain ⟨hW6, hT6⟩ := p6
      have hF6 := hF.tr hT6 rfl
      refine e_bnd ?_
      refine e_eq (f_Layout_pointFinding.eq_1 _ _) ?_
      refine e_i (fun q7 => ?_) (fun q7 => ?_)
      · refine e_some ?_
        refine e_f (by decide) ?_
        refine e_cE (t_Report_found hW6) (fun u9 T9 p9 => ?_)
        obtain ⟨hW9, hT9, hr9⟩ := p9
        have hF9 := hF6.tr hT9 rfl
        exact e_some ⟨hW9, hF9, trivial⟩
      · refine e_i (fun q11 => ?_) (fun q11 => ?_)
        · refine e_i (fun q13 => ?_) (fun q13 => ?_)
          · refine e_some ?_
            refine e_f (by decide) ?_
            refine e_cE (t_Report_found hW6) (fun u15 T15 p15 => ?_)
            obtain ⟨hW15, hT15, hr15⟩ := p15
            have hF15 := hF6.tr hT15 rfl
            exact e_some ⟨hW15, hF15, trivial⟩
          · refine e_some ?_
            refine e_t (by decide) ?_
            refine e_cE (t_Layout_endOf hW6) (fun u18 T18 p18 => ?_)
            obtain ⟨-, hT18, hr18⟩ := p18
            have eT18 := (fr_nil hT18).symm
            subst eT18
            refine e_i (fun q19 => ?_) (fun q19 => ?_)
            · exact e_some ⟨hW6, hF6, trivial⟩
            · refine e_i (fun q22 => ?_) (fun q22 => ?_)
              · exact e_some ⟨hW6, hF6, trivial⟩
              · refine e_i (fun q25 => ?_) (fun q25 => ?_)
                · refine e_bnd ?_
                  refine e_eq (f_Layout_linksAt.eq_1 _ _) ?_
                  refine e_i (fun q27 => ?_) (fun q27 => ?_)
                  · refine e_some ?_
                    exact e_some ⟨hW6, hF6, trivial⟩
                  · have f29 := nlt_l (rgt _) (rgl 0 0 0 rfl) q27
                    refine e_i (fun q30 => ?_) (fun q30 => ?_)
                    · refine e_some ?_
                      exact e_some ⟨hW6, hF6, trivial⟩
                    · have f32 := nle_r 47 (rgl (48) 48 48 rfl) f29 q30 rfl
                      refine e_grd (inb_g f32 rfl) ?_
                      refine e_someG (fun w33 hw33 => ?_)
                      exact e_some ⟨hW6, hF6, trivial⟩
                · refine e_i (fun q36 => ?_) (fun q36 => ?_)
                  · refine e_cE (t_State_setting hW6) (fun u38 T38 p38 => ?_)
                    obtain ⟨-, hT38, hr38⟩ := p38
                    have eT38 := (fr_nil hT38).symm
                    subst eT38
                    exact e_some ⟨hW6, hF6, trivial⟩
                  · refine e_cE (t_State_locker hW6) (fun u40 T40 p40 => ?_)
                    obtain ⟨-, hT40, hr40⟩ := p40
                    have eT40 := (fr_nil hT40).symm
                    subst eT40
                    exact e_some ⟨hW6, hF6, trivial⟩
        · refine e_some ?_
          refine e_f (by decide) ?_
          refine e_cE (t_Report_found hW6) (fun u42 T42 p42 => ?_)
          obtain ⟨hW42, hT42, hr42⟩ := p42
          have hF42 := hF6.tr hT42 rfl
          exact e_some ⟨hW42, hF42, trivial⟩
    · refine e_some ?_
      refine e_f (by decide) ?_
      exact e_some ⟨hW, hF, trivial⟩
set_option maxRecDepth 20000 in
set_option maxHeartbeats 4000000 in
theorem t_Yard_wantedFor {a0 : Int32} {S : SS} (hW : WR S) : Ex2 (f_Yard_wantedFor a0 S) (fun r U => WR U ∧ Fr [] [] S U ∧ rg r 4 127) := by
  have hF : Fr [] [] S S := Fr.rf
  refine e_eq (f_Yard_wantedFor.eq_1 _ _) ?_
  refine e_i (fun q1 => ?_) (fun q1 => ?_)
  · exact e_some ⟨hW, hF, ((rgl (96) 96 96 rfl).sub rfl)⟩
  · refine e_i (fun q3 => ?_) (fun q3 => ?_)
    · exact e_some ⟨hW, hF, ((rgl (31) 31 31 rfl).sub rfl)⟩
    · refine e_i (fun q5 => ?_) (fun q5 => ?_)
      · exact e_some ⟨hW, hF, ((rgl (15) 15 15 rfl).sub rfl)⟩
      · refine e_i (fun q7 => ?_) (fun q7 => ?_)
        · exact e_some ⟨hW, hF, ((rgl (4) 4 4 rfl).sub rfl)⟩
        · exact e_some ⟨hW, hF, ((rgl (127) 127 127 rfl).sub rfl)⟩
set_option maxRecDepth 20000 in
set_option maxHeartbeats 4000000 in
theorem t_Yard_orZero {a1 : Int32} {S : SS} (hW : WR S) : Ex2 (f_Yard_orZero a1 S) (fun r U => WR U ∧ Fr [77] [(62, 3)] S U ∧ True) := by
  have hF : Fr [77] [(62, 3)] S S := Fr.rf
  refine e_eq (f_Yard_orZero.eq_1 _ _) ?_
  refine e_i (fun q1 => ?_) (fun q1 => ?_)
  · refine e_cE (t_Report_found hW) (fun u3 T3 p3 => ?_)
    obtain ⟨hW3, hT3, hr3⟩ := p3
    have hF3 := hF.tr hT3 rfl
    exact e_some ⟨hW3, hF3, trivial⟩
  · exact e_some ⟨hW, hF, trivial⟩
