set_option maxRecDepth 20000 in
set_option maxHeartbeats 4000000 in
theorem t_M_thing {a1 : Int32} {a2 : Int32} {S : SS} (hW : WR S) : Ex2 (f_M_thing a1 a2 S) (fun r U => WR U ∧ Fr [1] [(0, 0), (0, 1), (0, 2), (0, 3), (0, 5)] S U ∧ True) := by
  have hF : Fr [1] [(0, 0), (0, 1), (0, 2), (0, 3), (0, 5)] S S := Fr.rf
  refine e_eq (f_M_thing.eq_1 _ _ _) ?_
  refine e_i (fun q1 => ?_) (fun q1 => ?_)
  · exact e_some ⟨hW, hF, trivial⟩
  · refine e_i (fun q4 => ?_) (fun q4 => ?_)
    · refine e_cV (t_M_begin hW) (fun T6 p6 => ?_)
      obtain ⟨hW6, hT6⟩ := p6
      have hF6 := hF.tr hT6 rfl
      refine e_bnd ?_
      refine e_eq (f_M_missThing.eq_1 _ _ _) ?_
      refine e_i (fun q7 => ?_) (fun q7 => ?_)
      · refine e_some ?_
        refine e_bnd ?_
        refine e_eq (f_M_ends.eq_1 _ _) ?_
        refine e_f (by decide) ?_
        refine e_cE (t_M_found hW6 ((rgl (3) 3 3 rfl).sub rfl)) (fun u9 T9 p9 => ?_)
        obtain ⟨hW9, hT9, hr9⟩ := p9
        have hF9 := hF6.tr hT9 rfl
        refine e_eq (f_M_ends_j10.eq_1 _ _) ?_
        refine e_f (by decide) ?_
        refine e_some ?_
        refine e_f (by decide) ?_
        exact e_some ⟨hW9, hF9, trivial⟩
      · have f10 := nlt_l (rgt _) (rgl 0 0 0 rfl) q7
        refine e_i (fun q11 => ?_) (fun q11 => ?_)
        · have f12 := lt_l 71 f10 (rgl (72) 72 72 rfl) q11 rfl
          refine e_i (fun q13 => ?_) (fun q13 => ?_)
          · refine e_some ?_
            refine e_bnd ?_
            refine e_eq (f_M_ends.eq_1 _ _) ?_
            refine e_f (by decide) ?_
            refine e_cE (t_M_found hW6 ((rgl (1) 1 1 rfl).sub rfl)) (fun u15 T15 p15 => ?_)
            obtain ⟨hW15, hT15, hr15⟩ := p15
            have hF15 := hF6.tr hT15 rfl
            refine e_eq (f_M_ends_j10.eq_1 _ _) ?_
            refine e_f (by decide) ?_
            refine e_some ?_
            refine e_f (by decide) ?_
            exact e_some ⟨hW15, hF15, trivial⟩
          · refine e_grd (inb_g f12 rfl) ?_
            refine e_i (fun q18 => ?_) (fun q18 => ?_)
            · refine e_some ?_
              refine e_bnd ?_
              refine e_eq (f_M_ends.eq_1 _ _) ?_
              refine e_f (by decide) ?_
              refine e_cE (t_M_found hW6 ((rgl (1) 1 1 rfl).sub rfl)) (fun u20 T20 p20 => ?_)
              obtain ⟨hW20, hT20, hr20⟩ := p20
              have hF20 := hF6.tr hT20 rfl
              refine e_eq (f_M_ends_j10.eq_1 _ _) ?_
              refine e_f (by decide) ?_
              refine e_some ?_
              refine e_f (by decide) ?_
              exact e_some ⟨hW20, hF20, trivial⟩
            · refine e_bnd ?_
              refine e_eq (f_M_isSuch.eq_1 _ _ _) ?_
              refine e_grd (inb_g f12 rfl) ?_
              refine e_nmG (fun w25 hw25 => ?_)
              refine e_f (by decide) ?_
              refine e_f (by decide) ?_
              refine e_f (by decide) ?_
              refine e_f (by decide) ?_
              refine e_some ?_
              refine e_f (by decide) ?_
              refine e_some ?_
              refine e_bnd ?_
              refine e_eq (f_M_ends.eq_1 _ _) ?_
              refine e_t (by decide) ?_
              refine e_eq (f_M_ends_j10.eq_1 _ _) ?_
              refine e_t (by decide) ?_
              refine e_some ?_
              refine e_t (by decide) ?_
              refine e_i (fun q26 => ?_) (fun q26 => ?_)
              · refine e_grd (inb_g f12 rfl) ?_
                exact e_some ⟨hW6, hF6, trivial⟩
              · refine e_i (fun q29 => ?_) (fun q29 => ?_)
                · refine e_grd (inb_g f12 rfl) ?_
                  exact e_some ⟨hW6, hF6, trivial⟩
                · refine e_i (fun q32 => ?_) (fun q32 => ?_)
                  · refine e_grd (inb_g f12 rfl) ?_
                    exact e_some ⟨hW6, hF6, trivial⟩
                  · refine e_i (fun q35 => ?_) (fun q35 => ?_)
                    · refine e_grd (inb_g f12 rfl) ?_
                      exact e_some ⟨hW6, hF6, trivial⟩
                    · refine e_i (fun q38 => ?_) (fun q38 => ?_)
                      · refine e_grd (inb_g (rg_mul 0 142 (rgl (2) 2 2 rfl) f12 rfl) rfl) ?_
                        exact e_some ⟨hW6, hF6, trivial⟩
                      · refine e_i (fun q41 => ?_) (fun q41 => ?_)
                        · refine e_grd (inb_g (rg_add 1 143 (rg_mul 0 142 (rgl (2) 2 2 rfl) f12 rfl) (rgl (1) 1 1 rfl) rfl) rfl) ?_
                          exact e_some ⟨hW6, hF6, trivial⟩
                        · refine e_i (fun q44 => ?_) (fun q44 => ?_)
                          · refine e_grd (inb_g f12 rfl) ?_
                            exact e_some ⟨hW6, hF6, trivial⟩
                          · refine e_i (fun q47 => ?_) (fun q47 => ?_)
                            · refine e_grd (inb_g f12 rfl) ?_
                              exact e_some ⟨hW6, hF6, trivial⟩
                            · refine e_i (fun q50 => ?_) (fun q50 => ?_)
                              · refine e_grd (inb_g f12 rfl) ?_
                                exact e_some ⟨hW6, hF6, trivial⟩
                              · refine e_i (fun q53 => ?_) (fun q53 => ?_)
                                · refine e_grd (inb_g f12 rfl) ?_
                                  exact e_some ⟨hW6, hF6, trivial⟩
                                · refine e_grd (inb_g f12 rfl) ?_
                                  refine e_i (fun q56 => ?_) (fun q56 => ?_)
                                  · exact e_some ⟨hW6, hF6, trivial⟩
                                  · exact e_some ⟨hW6, hF6, trivial⟩
        · refine e_some ?_
          refine e_bnd ?_
          refine e_eq (f_M_ends.eq_1 _ _) ?_
          refine e_f (by decide) ?_
          refine e_cE (t_M_found hW6 ((rgl (3) 3 3 rfl).sub rfl)) (fun u60 T60 p60 => ?_)
          obtain ⟨hW60, hT60, hr60⟩ := p60
          have hF60 := hF6.tr hT60 rfl
          refine e_eq (f_M_ends_j10.eq_1 _ _) ?_
          refine e_f (by decide) ?_
          refine e_some ?_
          refine e_f (by decide) ?_
          exact e_some ⟨hW60, hF60, trivial⟩
    · exact e_some ⟨hW, hF, trivial⟩
set_option maxRecDepth 20000 in
set_option maxHeartbeats 4000000 in
theorem t_M_pointed {a1 : Int32} {a2 : Int32} {S : SS} (hW : WR S) : Ex2 (f_M_pointed a1 a2 S) (fun r U => WR U ∧ Fr [1] [(0, 0), (0, 1), (0, 2), (0, 3), (0, 5)] S U ∧ True) := by
  have hF : Fr [1] [(0, 0), (0, 1), (0, 2), (0, 3), (0, 5)] S S := Fr.rf
  refine e_eq (f_M_pointed.eq_1 _ _ _) ?_
  refine e_i (fun q1 => ?_) (fun q1 => ?_)
  · exact e_some ⟨hW, hF, trivial⟩
  · refine e_i (fun q4 => ?_) (fun q4 => ?_)
    · refine e_cV (t_M_begin hW) (fun T6 p6 => ?_)
      obtain ⟨hW6, hT6⟩ := p6
      have hF6 := hF.tr hT6 rfl
      refine e_bnd ?_
      refine e_eq (f_M_missPoint.eq_1 _ _) ?_
      refine e_i (fun q7 => ?_) (fun q7 => ?_)
      · refine e_some ?_
        refine e_bnd ?_
        refine e_eq (f_M_ends.eq_1 _ _) ?_
        refine e_f (by decide) ?_
        refine e_cE (t_M_found hW6 ((rgl (3) 3 3 rfl).sub rfl)) (fun u9 T9 p9 => ?_)
        obtain ⟨hW9, hT9, hr9⟩ := p9
        have hF9 := hF6.tr hT9 rfl
        refine e_eq (f_M_ends_j10.eq_1 _ _) ?_
        refine e_f (by decide) ?_
        refine e_some ?_
        refine e_f (by decide) ?_
        exact e_some ⟨hW9, hF9, trivial⟩
      · have f10 := nlt_l (rgt _) (rgl 0 0 0 rfl) q7
        refine e_i (fun q11 => ?_) (fun q11 => ?_)
        · have f12 := lt_l 39 f10 (rgl (40) 40 40 rfl) q11 rfl
          refine e_i (fun q13 => ?_) (fun q13 => ?_)
          · refine e_some ?_
            refine e_bnd ?_
            refine e_eq (f_M_ends.eq_1 _ _) ?_
            refine e_t (by decide) ?_
            refine e_eq (f_M_ends_j10.eq_1 _ _) ?_
            refine e_t (by decide) ?_
            refine e_some ?_
            refine e_t (by decide) ?_
            refine e_i (fun q15 => ?_) (fun q15 => ?_)
            · refine e_grd (inb_g f12 rfl) ?_
              exact e_some ⟨hW6, hF6, trivial⟩
            · refine e_i (fun q18 => ?_) (fun q18 => ?_)
              · refine e_grd (inb_g f12 rfl) ?_
                exact e_some ⟨hW6, hF6, trivial⟩
              · refine e_i (fun q21 => ?_) (fun q21 => ?_)
                · refine e_grd (inb_g f12 rfl) ?_
                  refine e_grd (inb_g (ro_9 hW6 _) rfl) ?_
                  exact e_some ⟨hW6, hF6, trivial⟩
                · refine e_i (fun q24 => ?_) (fun q24 => ?_)
                  · refine e_grd (inb_g f12 rfl) ?_
                    exact e_some ⟨hW6, hF6, trivial⟩
                  · refine e_grd (inb_g f12 rfl) ?_
                    exact e_some ⟨hW6, hF6, trivial⟩
          · refine e_some ?_
            refine e_bnd ?_
            refine e_eq (f_M_ends.eq_1 _ _) ?_
            refine e_f (by decide) ?_
            refine e_cE (t_M_found hW6 ((rgl (1) 1 1 rfl).sub rfl)) (fun u28 T28 p28 => ?_)
            obtain ⟨hW28, hT28, hr28⟩ := p28
            have hF28 := hF6.tr hT28 rfl
            refine e_eq (f_M_ends_j10.eq_1 _ _) ?_
            refine e_f (by decide) ?_
            refine e_some ?_
            refine e_f (by decide) ?_
            exact e_some ⟨hW28, hF28, trivial⟩
        · refine e_some ?_
          refine e_bnd ?_
          refine e_eq (f_M_ends.eq_1 _ _) ?_
          refine e_f (by decide) ?_
          refine e_cE (t_M_found hW6 ((rgl (3) 3 3 rfl).sub rfl)) (fun u31 T31 p31 => ?_)
          obtain ⟨hW31, hT31, hr31⟩ := p31
          have hF31 := hF6.tr hT31 rfl
          refine e_eq (f_M_ends_j10.eq_1 _ _) ?_
          refine e_f (by decide) ?_
          refine e_some ?_
          refine e_f (by decide) ?_
          exact e_some ⟨hW31, hF31, trivial⟩
    · exact e_some ⟨hW, hF, trivial⟩
set_option maxRecDepth 20000 in
set_option maxHeartbeats 4000000 in
theorem t_M_ask {a1 : Int32} {a2 : Int32} {S : SS} (hW : WR S) : Ex2 (f_M_ask a1 a2 S) (fun r U => WR U ∧ Fr [1, 2] [(0, 0), (0, 1), (0, 2), (0, 3), (0, 5), (0, 54)] S U ∧ True) := by
  have hF : Fr [1, 2] [(0, 0), (0, 1), (0, 2), (0, 3), (0, 5), (0, 54)] S S := Fr.rf
  refine e_eq (f_M_ask.eq_1 _ _ _) ?_
  refine e_i (fun q1 => ?_) (fun q1 => ?_)
  · exact e_some ⟨hW, hF, trivial⟩
  · refine e_i (fun q4 => ?_) (fun q4 => ?_)
    · refine e_cV (t_M_begin hW) (fun T6 p6 => ?_)
      obtain ⟨hW6, hT6⟩ := p6
      have hF6 := hF.tr hT6 rfl
      refine e_i (fun q7 => ?_) (fun q7 => ?_)
      · have f8 := rg_tr (rgl (4) 4 4 rfl) q7
        refine e_eq (f_M_ask_j55.eq_1 _ _ _ _) ?_
        refine e_bnd ?_
        refine e_eq (f_M_missThing.eq_1 _ _ _) ?_
        refine e_i (fun q9 => ?_) (fun q9 => ?_)
        · refine e_some ?_
          refine e_bnd ?_
          refine e_eq (f_M_ends.eq_1 _ _) ?_
          refine e_f (by decide) ?_
          refine e_cE (t_M_found hW6 ((rgl (3) 3 3 rfl).sub rfl)) (fun u11 T11 p11 => ?_)
          obtain ⟨hW11, hT11, hr11⟩ := p11
          have hF11 := hF6.tr hT11 rfl
          refine e_eq (f_M_ends_j10.eq_1 _ _) ?_
          refine e_f (by decide) ?_
          refine e_some ?_
          refine e_f (by decide) ?_
          exact e_some ⟨hW11, hF11, trivial⟩
        · have f12 := nlt_l (rgt _) (rgl 0 0 0 rfl) q9
          refine e_i (fun q13 => ?_) (fun q13 => ?_)
          · have f14 := lt_l 71 f12 (rgl (72) 72 72 rfl) q13 rfl
            refine e_i (fun q15 => ?_) (fun q15 => ?_)
            · refine e_some ?_
              refine e_bnd ?_
              refine e_eq (f_M_ends.eq_1 _ _) ?_
              refine e_f (by decide) ?_
              refine e_cE (t_M_found hW6 ((rgl (1) 1 1 rfl).sub rfl)) (fun u17 T17 p17 => ?_)
              obtain ⟨hW17, hT17, hr17⟩ := p17
              have hF17 := hF6.tr hT17 rfl
              refine e_eq (f_M_ends_j10.eq_1 _ _) ?_
              refine e_f (by decide) ?_
              refine e_some ?_
              refine e_f (by decide) ?_
              exact e_some ⟨hW17, hF17, trivial⟩
            · refine e_grd (inb_g f14 rfl) ?_
              refine e_i (fun q20 => ?_) (fun q20 => ?_)
              · refine e_some ?_
                refine e_bnd ?_
                refine e_eq (f_M_ends.eq_1 _ _) ?_
                refine e_f (by decide) ?_
                refine e_cE (t_M_found hW6 ((rgl (1) 1 1 rfl).sub rfl)) (fun u22 T22 p22 => ?_)
                obtain ⟨hW22, hT22, hr22⟩ := p22
                have hF22 := hF6.tr hT22 rfl
                refine e_eq (f_M_ends_j10.eq_1 _ _) ?_
                refine e_f (by decide) ?_
                refine e_some ?_
                refine e_f (by decide) ?_
                exact e_some ⟨hW22, hF22, trivial⟩
              · refine e_bnd ?_
                refine e_eq (f_M_isSuch.eq_1 _ _ _) ?_
                refine e_grd (inb_g f14 rfl) ?_
                refine e_nmG (fun w27 hw27 => ?_)
                refine e_f (by decide) ?_
                refine e_t rfl ?_
                refine e_i (fun q28 => ?_) (fun q28 => ?_)
                · refine e_some ?_
                  refine e_t (by decide) ?_
                  refine e_some ?_
                  refine e_bnd ?_
                  refine e_eq (f_M_ends.eq_1 _ _) ?_
                  refine e_f (by decide) ?_
                  refine e_cE (t_M_found hW6 ((rgl (2) 2 2 rfl).sub rfl)) (fun u31 T31 p31 => ?_)
                  obtain ⟨hW31, hT31, hr31⟩ := p31
                  have hF31 := hF6.tr hT31 rfl
                  refine e_eq (f_M_ends_j10.eq_1 _ _) ?_
                  refine e_f (by decide) ?_
                  refine e_some ?_
                  refine e_f (by decide) ?_
                  exact e_some ⟨hW31, hF31, trivial⟩
                · refine e_some ?_
                  refine e_f (by decide) ?_
                  refine e_some ?_
                  refine e_bnd ?_
                  refine e_eq (f_M_ends.eq_1 _ _) ?_
                  refine e_t (by decide) ?_
                  refine e_eq (f_M_ends_j10.eq_1 _ _) ?_
                  refine e_t (by decide) ?_
                  refine e_some ?_
                  refine e_t (by decide) ?_
                  refine e_f (d_ne f8 (rgl (0) 0 0 rfl) rfl) ?_
                  refine e_f (d_ne f8 (rgl (1) 1 1 rfl) rfl) ?_
                  refine e_f (d_ne f8 (rgl (2) 2 2 rfl) rfl) ?_
                  refine e_f (d_ne f8 (rgl (3) 3 3 rfl) rfl) ?_
                  refine e_t q7 ?_
                  refine e_cE (t_M_pulls hW6 f14) (fun u38 T38 p38 => ?_)
                  obtain ⟨hW38, hT38, hr38⟩ := p38
                  have hF38 := hF6.tr hT38 rfl
                  exact e_some ⟨hW38, hF38, trivial⟩
          · refine e_some ?_
            refine e_bnd ?_
            refine e_eq (f_M_ends.eq_1 _ _) ?_
            refine e_f (by decide) ?_
            refine e_cE (t_M_found hW6 ((rgl (3) 3 3 rfl).sub rfl)) (fun u44 T44 p44 => ?_)
            obtain ⟨hW44, hT44, hr44⟩ := p44
            have hF44 := hF6.tr hT44 rfl
            refine e_eq (f_M_ends_j10.eq_1 _ _) ?_
            refine e_f (by decide) ?_
            refine e_some ?_
            refine e_f (by decide) ?_
            exact e_some ⟨hW44, hF44, trivial⟩
      · refine e_i (fun q45 => ?_) (fun q45 => ?_)
        · have f46 := rg_tr (rgl (5) 5 5 rfl) q45
          refine e_eq (f_M_ask_j55.eq_1 _ _ _ _) ?_
          refine e_bnd ?_
          refine e_eq (f_M_missThing.eq_1 _ _ _) ?_
          refine e_i (fun q47 => ?_) (fun q47 => ?_)
          · refine e_some ?_
            refine e_bnd ?_
            refine e_eq (f_M_ends.eq_1 _ _) ?_
            refine e_f (by decide) ?_
            refine e_cE (t_M_found hW6 ((rgl (3) 3 3 rfl).sub rfl)) (fun u49 T49 p49 => ?_)
            obtain ⟨hW49, hT49, hr49⟩ := p49
            have hF49 := hF6.tr hT49 rfl
            refine e_eq (f_M_ends_j10.eq_1 _ _) ?_
            refine e_f (by decide) ?_
            refine e_some ?_
            refine e_f (by decide) ?_
            exact e_some ⟨hW49, hF49, trivial⟩
          · have f50 := nlt_l (rgt _) (rgl 0 0 0 rfl) q47
            refine e_i (fun q51 => ?_) (fun q51 => ?_)
            · have f52 := lt_l 71 f50 (rgl (72) 72 72 rfl) q51 rfl
              refine e_i (fun q53 => ?_) (fun q53 => ?_)
              · refine e_some ?_
                refine e_bnd ?_
                refine e_eq (f_M_ends.eq_1 _ _) ?_
                refine e_f (by decide) ?_
                refine e_cE (t_M_found hW6 ((rgl (1) 1 1 rfl).sub rfl)) (fun u55 T55 p55 => ?_)
                obtain ⟨hW55, hT55, hr55⟩ := p55
                have hF55 := hF6.tr hT55 rfl
                refine e_eq (f_M_ends_j10.eq_1 _ _) ?_
                refine e_f (by decide) ?_
                refine e_some ?_
                refine e_f (by decide) ?_
                exact e_some ⟨hW55, hF55, trivial⟩
              · refine e_grd (inb_g f52 rfl) ?_
                refine e_i (fun q58 => ?_) (fun q58 => ?_)
                · refine e_some ?_
                  refine e_bnd ?_
                  refine e_eq (f_M_ends.eq_1 _ _) ?_
                  refine e_f (by decide) ?_
                  refine e_cE (t_M_found hW6 ((rgl (1) 1 1 rfl).sub rfl)) (fun u60 T60 p60 => ?_)
                  obtain ⟨hW60, hT60, hr60⟩ := p60
                  have hF60 := hF6.tr hT60 rfl
                  refine e_eq (f_M_ends_j10.eq_1 _ _) ?_
                  refine e_f (by decide) ?_
                  refine e_some ?_
                  refine e_f (by decide) ?_
                  exact e_some ⟨hW60, hF60, trivial⟩
                · refine e_bnd ?_
                  refine e_eq (f_M_isSuch.eq_1 _ _ _) ?_
                  refine e_grd (inb_g f52 rfl) ?_
                  refine e_nmG (fun w65 hw65 => ?_)
                  refine e_t rfl ?_
                  refine e_i (fun q66 => ?_) (fun q66 => ?_)
                  · refine e_some ?_
                    refine e_t (by decide) ?_
                    refine e_some ?_
                    refine e_bnd ?_
                    refine e_eq (f_M_ends.eq_1 _ _) ?_
                    refine e_f (by decide) ?_
                    refine e_cE (t_M_found hW6 ((rgl (2) 2 2 rfl).sub rfl)) (fun u69 T69 p69 => ?_)
                    obtain ⟨hW69, hT69, hr69⟩ := p69
                    have hF69 := hF6.tr hT69 rfl
                    refine e_eq (f_M_ends_j10.eq_1 _ _) ?_
                    refine e_f (by decide) ?_
                    refine e_some ?_
                    refine e_f (by decide) ?_
                    exact e_some ⟨hW69, hF69, trivial⟩
                  · refine e_some ?_
                    refine e_f (by decide) ?_
                    refine e_some ?_
                    refine e_bnd ?_
                    refine e_eq (f_M_ends.eq_1 _ _) ?_
                    refine e_t (by decide) ?_
                    refine e_eq (f_M_ends_j10.eq_1 _ _) ?_
                    refine e_t (by decide) ?_
                    refine e_some ?_
                    refine e_t (by decide) ?_
                    refine e_f (d_ne f46 (rgl (0) 0 0 rfl) rfl) ?_
                    refine e_f (d_ne f46 (rgl (1) 1 1 rfl) rfl) ?_
                    refine e_f (d_ne f46 (rgl (2) 2 2 rfl) rfl) ?_
                    refine e_f (d_ne f46 (rgl (3) 3 3 rfl) rfl) ?_
                    refine e_f q7 ?_
                    refine e_t q45 ?_
                    refine e_grd (inb_g f52 rfl) ?_
                    exact e_some ⟨hW6, hF6, trivial⟩
            · refine e_some ?_
              refine e_bnd ?_
              refine e_eq (f_M_ends.eq_1 _ _) ?_
              refine e_f (by decide) ?_
              refine e_cE (t_M_found hW6 ((rgl (3) 3 3 rfl).sub rfl)) (fun u77 T77 p77 => ?_)
              obtain ⟨hW77, hT77, hr77⟩ := p77
              have hF77 := hF6.tr hT77 rfl
              refine e_eq (f_M_ends_j10.eq_1 _ _) ?_
              refine e_f (by decide) ?_
              refine e_some ?_
              refine e_f (by decide) ?_
              exact e_some ⟨hW77, hF77, trivial⟩
        · refine e_i (fun q78 => ?_) (fun q78 => ?_)
          · have f79 := rg_tr (rgl (6) 6 6 rfl) q78
            refine e_eq (f_M_ask_j55.eq_1 _ _ _ _) ?_
            refine e_bnd ?_
            refine e_eq (f_M_missThing.eq_1 _ _ _) ?_
            refine e_i (fun q80 => ?_) (fun q80 => ?_)
            · refine e_some ?_
              refine e_bnd ?_
              refine e_eq (f_M_ends.eq_1 _ _) ?_
              refine e_f (by decide) ?_
              refine e_cE (t_M_found hW6 ((rgl (3) 3 3 rfl).sub rfl)) (fun u82 T82 p82 => ?_)
              obtain ⟨hW82, hT82, hr82⟩ := p82
              have hF82 := hF6.tr hT82 rfl
              refine e_eq (f_M_ends_j10.eq_1 _ _) ?_
              refine e_f (by decide) ?_
              refine e_some ?_
              refine e_f (by decide) ?_
              exact e_some ⟨hW82, hF82, trivial⟩
            · have f83 := nlt_l (rgt _) (rgl 0 0 0 rfl) q80
              refine e_i (fun q84 => ?_) (fun q84 => ?_)
              · have f85 := lt_l 71 f83 (rgl (72) 72 72 rfl) q84 rfl
                refine e_i (fun q86 => ?_) (fun q86 => ?_)
                · refine e_some ?_
                  refine e_bnd ?_
                  refine e_eq (f_M_ends.eq_1 _ _) ?_
                  refine e_f (by decide) ?_
                  refine e_cE (t_M_found hW6 ((rgl (1) 1 1 rfl).sub rfl)) (fun u88 T88 p88 => ?_)
                  obtain ⟨hW88, hT88, hr88⟩ := p88
                  have hF88 := hF6.tr hT88 rfl
                  refine e_eq (f_M_ends_j10.eq_1 _ _) ?_
                  refine e_f (by decide) ?_
                  refine e_some ?_
                  refine e_f (by decide) ?_
                  exact e_some ⟨hW88, hF88, trivial⟩
                · refine e_grd (inb_g f85 rfl) ?_
                  refine e_i (fun q91 => ?_) (fun q91 => ?_)
                  · refine e_some ?_
                    refine e_bnd ?_
                    refine e_eq (f_M_ends.eq_1 _ _) ?_
                    refine e_f (by decide) ?_
                    refine e_cE (t_M_found hW6 ((rgl (1) 1 1 rfl).sub rfl)) (fun u93 T93 p93 => ?_)
                    obtain ⟨hW93, hT93, hr93⟩ := p93
                    have hF93 := hF6.tr hT93 rfl
                    refine e_eq (f_M_ends_j10.eq_1 _ _) ?_
                    refine e_f (by decide) ?_
                    refine e_some ?_
                    refine e_f (by decide) ?_
                    exact e_some ⟨hW93, hF93, trivial⟩
                  · refine e_bnd ?_
                    refine e_eq (f_M_isSuch.eq_1 _ _ _) ?_
                    refine e_grd (inb_g f85 rfl) ?_
                    refine e_nmG (fun w98 hw98 => ?_)
                    refine e_f (by decide) ?_
                    refine e_f (by decide) ?_
                    refine e_t rfl ?_
                    refine e_i (fun q99 => ?_) (fun q99 => ?_)
                    · refine e_some ?_
                      refine e_t (by decide) ?_
                      refine e_some ?_
                      refine e_bnd ?_
                      refine e_eq (f_M_ends.eq_1 _ _) ?_
                      refine e_f (by decide) ?_
                      refine e_cE (t_M_found hW6 ((rgl (2) 2 2 rfl).sub rfl)) (fun u102 T102 p102 => ?_)
                      obtain ⟨hW102, hT102, hr102⟩ := p102
                      have hF102 := hF6.tr hT102 rfl
                      refine e_eq (f_M_ends_j10.eq_1 _ _) ?_
                      refine e_f (by decide) ?_
                      refine e_some ?_
                      refine e_f (by decide) ?_
                      exact e_some ⟨hW102, hF102, trivial⟩
                    · refine e_some ?_
                      refine e_f (by decide) ?_
                      refine e_some ?_
                      refine e_bnd ?_
                      refine e_eq (f_M_ends.eq_1 _ _) ?_
                      refine e_t (by decide) ?_
                      refine e_eq (f_M_ends_j10.eq_1 _ _) ?_
                      refine e_t (by decide) ?_
                      refine e_some ?_
                      refine e_t (by decide) ?_
                      refine e_f (d_ne f79 (rgl (0) 0 0 rfl) rfl) ?_
                      refine e_f (d_ne f79 (rgl (1) 1 1 rfl) rfl) ?_
                      refine e_f (d_ne f79 (rgl (2) 2 2 rfl) rfl) ?_
                      refine e_f (d_ne f79 (rgl (3) 3 3 rfl) rfl) ?_
                      refine e_f q7 ?_
                      refine e_f q45 ?_
                      refine e_t q78 ?_
                      refine e_grd (inb_g f85 rfl) ?_
                      refine e_i (fun q109 => ?_) (fun q109 => ?_)
                      · refine e_cE (t_M_found hW6 ((rgl (1) 1 1 rfl).sub rfl)) (fun u111 T111 p111 => ?_)
                        obtain ⟨hW111, hT111, hr111⟩ := p111
                        have hF111 := hF6.tr hT111 rfl
                        exact e_some ⟨hW111, hF111, trivial⟩
                      · refine e_grd (inb_g f85 rfl) ?_
                        exact e_some ⟨hW6, hF6, trivial⟩
              · refine e_some ?_
                refine e_bnd ?_
                refine e_eq (f_M_ends.eq_1 _ _) ?_
                refine e_f (by decide) ?_
                refine e_cE (t_M_found hW6 ((rgl (3) 3 3 rfl).sub rfl)) (fun u119 T119 p119 => ?_)
                obtain ⟨hW119, hT119, hr119⟩ := p119
                have hF119 := hF6.tr hT119 rfl
                refine e_eq (f_M_ends_j10.eq_1 _ _) ?_
                refine e_f (by decide) ?_
                refine e_some ?_
                refine e_f (by decide) ?_
                exact e_some ⟨hW119, hF119, trivial⟩
          · refine e_i (fun q120 => ?_) (fun q120 => ?_)
            · have f121 := rg_tr (rgl (7) 7 7 rfl) q120
              refine e_eq (f_M_ask_j55.eq_1 _ _ _ _) ?_
              refine e_bnd ?_
              refine e_eq (f_M_missThing.eq_1 _ _ _) ?_
              refine e_i (fun q122 => ?_) (fun q122 => ?_)
              · refine e_some ?_
                refine e_bnd ?_
                refine e_eq (f_M_ends.eq_1 _ _) ?_
                refine e_f (by decide) ?_
                refine e_cE (t_M_found hW6 ((rgl (3) 3 3 rfl).sub rfl)) (fun u124 T124 p124 => ?_)
                obtain ⟨hW124, hT124, hr124⟩ := p124
                have hF124 := hF6.tr hT124 rfl
                refine e_eq (f_M_ends_j10.eq_1 _ _) ?_
                refine e_f (by decide) ?_
                refine e_some ?_
                refine e_f (by decide) ?_
                exact e_some ⟨hW124, hF124, trivial⟩
              · have f125 := nlt_l (rgt _) (rgl 0 0 0 rfl) q122
                refine e_i (fun q126 => ?_) (fun q126 => ?_)
                · have f127 := lt_l 71 f125 (rgl (72) 72 72 rfl) q126 rfl
                  refine e_i (fun q128 => ?_) (fun q128 => ?_)
                  · refine e_some ?_
                    refine e_bnd ?_
                    refine e_eq (f_M_ends.eq_1 _ _) ?_
                    refine e_f (by decide) ?_
                    refine e_cE (t_M_found hW6 ((rgl (1) 1 1 rfl).sub rfl)) (fun u130 T130 p130 => ?_)
                    obtain ⟨hW130, hT130, hr130⟩ := p130
                    have hF130 := hF6.tr hT130 rfl
                    refine e_eq (f_M_ends_j10.eq_1 _ _) ?_
                    refine e_f (by decide) ?_
                    refine e_some ?_
                    refine e_f (by decide) ?_
                    exact e_some ⟨hW130, hF130, trivial⟩
                  · refine e_grd (inb_g f127 rfl) ?_
                    refine e_i (fun q133 => ?_) (fun q133 => ?_)
                    · refine e_some ?_
                      refine e_bnd ?_
                      refine e_eq (f_M_ends.eq_1 _ _) ?_
                      refine e_f (by decide) ?_
                      refine e_cE (t_M_found hW6 ((rgl (1) 1 1 rfl).sub rfl)) (fun u135 T135 p135 => ?_)
                      obtain ⟨hW135, hT135, hr135⟩ := p135
                      have hF135 := hF6.tr hT135 rfl
                      refine e_eq (f_M_ends_j10.eq_1 _ _) ?_
                      refine e_f (by decide) ?_
                      refine e_some ?_
                      refine e_f (by decide) ?_
                      exact e_some ⟨hW135, hF135, trivial⟩
                    · refine e_bnd ?_
                      refine e_eq (f_M_isSuch.eq_1 _ _ _) ?_
                      refine e_grd (inb_g f127 rfl) ?_
                      refine e_nmG (fun w140 hw140 => ?_)
                      refine e_f (by decide) ?_
                      refine e_f (by decide) ?_
                      refine e_f (by decide) ?_
                      refine e_t rfl ?_
                      refine e_i (fun q141 => ?_) (fun q141 => ?_)
                      · refine e_some ?_
                        refine e_f (by decide) ?_
                        refine e_some ?_
                        refine e_bnd ?_
                        refine e_eq (f_M_ends.eq_1 _ _) ?_
                        refine e_t (by decide) ?_
                        refine e_eq (f_M_ends_j10.eq_1 _ _) ?_
                        refine e_t (by decide) ?_
                        refine e_some ?_
                        refine e_t (by decide) ?_
                        refine e_f (d_ne f121 (rgl (0) 0 0 rfl) rfl) ?_
                        refine e_f (d_ne f121 (rgl (1) 1 1 rfl) rfl) ?_
                        refine e_f (d_ne f121 (rgl (2) 2 2 rfl) rfl) ?_
                        refine e_f (d_ne f121 (rgl (3) 3 3 rfl) rfl) ?_
                        refine e_f q7 ?_
                        refine e_f q45 ?_
                        refine e_f q78 ?_
                        refine e_grd (inb_g f127 rfl) ?_
                        exact e_some ⟨hW6, hF6, trivial⟩
                      · refine e_some ?_
                        refine e_t (by decide) ?_
                        refine e_some ?_
                        refine e_bnd ?_
                        refine e_eq (f_M_ends.eq_1 _ _) ?_
                        refine e_f (by decide) ?_
                        refine e_cE (t_M_found hW6 ((rgl (2) 2 2 rfl).sub rfl)) (fun u144 T144 p144 => ?_)
                        obtain ⟨hW144, hT144, hr144⟩ := p144
                        have hF144 := hF6.tr hT144 rfl
                        refine e_eq (f_M_ends_j10.eq_1 _ _) ?_
                        refine e_f (by decide) ?_
                        refine e_some ?_
                        refine e_f (by decide) ?_
                        exact e_some ⟨hW144, hF144, trivial⟩
                · refine e_some ?_
                  refine e_bnd ?_
                  refine e_eq (f_M_ends.eq_1 _ _) ?_
                  refine e_f (by decide) ?_
                  refine e_cE (t_M_found hW6 ((rgl (3) 3 3 rfl).sub rfl)) (fun u149 T149 p149 => ?_)
                  obtain ⟨hW149, hT149, hr149⟩ := p149
                  have hF149 := hF6.tr hT149 rfl
                  refine e_eq (f_M_ends_j10.eq_1 _ _) ?_
                  refine e_f (by decide) ?_
                  refine e_some ?_
                  refine e_f (by decide) ?_
                  exact e_some ⟨hW149, hF149, trivial⟩
            · refine e_eq (f_M_ask_j55.eq_1 _ _ _ _) ?_
              refine e_bnd ?_
              refine e_eq (f_M_missThing.eq_1 _ _ _) ?_
              refine e_i (fun q151 => ?_) (fun q151 => ?_)
              · refine e_some ?_
                refine e_bnd ?_
                refine e_eq (f_M_ends.eq_1 _ _) ?_
                refine e_f (by decide) ?_
                refine e_cE (t_M_found hW6 ((rgl (3) 3 3 rfl).sub rfl)) (fun u153 T153 p153 => ?_)
                obtain ⟨hW153, hT153, hr153⟩ := p153
                have hF153 := hF6.tr hT153 rfl
                refine e_eq (f_M_ends_j10.eq_1 _ _) ?_
                refine e_f (by decide) ?_
                refine e_some ?_
                refine e_f (by decide) ?_
                exact e_some ⟨hW153, hF153, trivial⟩
              · have f154 := nlt_l (rgt _) (rgl 0 0 0 rfl) q151
                refine e_i (fun q155 => ?_) (fun q155 => ?_)
                · have f156 := lt_l 71 f154 (rgl (72) 72 72 rfl) q155 rfl
                  refine e_i (fun q157 => ?_) (fun q157 => ?_)
                  · refine e_some ?_
                    refine e_bnd ?_
                    refine e_eq (f_M_ends.eq_1 _ _) ?_
                    refine e_f (by decide) ?_
                    refine e_cE (t_M_found hW6 ((rgl (1) 1 1 rfl).sub rfl)) (fun u159 T159 p159 => ?_)
                    obtain ⟨hW159, hT159, hr159⟩ := p159
                    have hF159 := hF6.tr hT159 rfl
                    refine e_eq (f_M_ends_j10.eq_1 _ _) ?_
                    refine e_f (by decide) ?_
                    refine e_some ?_
                    refine e_f (by decide) ?_
                    exact e_some ⟨hW159, hF159, trivial⟩
                  · refine e_grd (inb_g f156 rfl) ?_
                    refine e_i (fun q162 => ?_) (fun q162 => ?_)
                    · refine e_some ?_
                      refine e_bnd ?_
                      refine e_eq (f_M_ends.eq_1 _ _) ?_
                      refine e_f (by decide) ?_
                      refine e_cE (t_M_found hW6 ((rgl (1) 1 1 rfl).sub rfl)) (fun u164 T164 p164 => ?_)
                      obtain ⟨hW164, hT164, hr164⟩ := p164
                      have hF164 := hF6.tr hT164 rfl
                      refine e_eq (f_M_ends_j10.eq_1 _ _) ?_
                      refine e_f (by decide) ?_
                      refine e_some ?_
                      refine e_f (by decide) ?_
                      exact e_some ⟨hW164, hF164, trivial⟩
                    · refine e_bnd ?_
                      refine e_eq (f_M_isSuch.eq_1 _ _ _) ?_
                      refine e_grd (inb_g f156 rfl) ?_
                      refine e_nmG (fun w169 hw169 => ?_)
                      refine e_f (by decide) ?_
                      refine e_f (by decide) ?_
                      refine e_f (by decide) ?_
                      refine e_f (by decide) ?_
                      refine e_some ?_
                      refine e_f (by decide) ?_
                      refine e_some ?_
                      refine e_bnd ?_
                      refine e_eq (f_M_ends.eq_1 _ _) ?_
                      refine e_t (by decide) ?_
                      refine e_eq (f_M_ends_j10.eq_1 _ _) ?_
                      refine e_t (by decide) ?_
                      refine e_some ?_
                      refine e_t (by decide) ?_
                      refine e_i (fun q170 => ?_) (fun q170 => ?_)
                      · refine e_cE (t_M_weight hW6 f156) (fun u172 T172 p172 => ?_)
                        obtain ⟨hW172, hT172, hr172⟩ := p172
                        have hF172 := hF6.tr hT172 rfl
                        exact e_some ⟨hW172, hF172, trivial⟩
                      · refine e_i (fun q177 => ?_) (fun q177 => ?_)
                        · refine e_cE (t_M_brake hW6 f156) (fun u179 T179 p179 => ?_)
                          obtain ⟨hW179, hT179, hr179⟩ := p179
                          have hF179 := hF6.tr hT179 rfl
                          exact e_some ⟨hW179, hF179, trivial⟩
                        · refine e_i (fun q184 => ?_) (fun q184 => ?_)
                          · refine e_cE (t_M_heavy hW6 f156) (fun u186 T186 p186 => ?_)
                            obtain ⟨hW186, hT186, hr186⟩ := p186
                            have hF186 := hF6.tr hT186 rfl
                            exact e_some ⟨hW186, hF186, trivial⟩
                          · refine e_i (fun q191 => ?_) (fun q191 => ?_)
                            · refine e_cE (t_M_perAxle hW6 f156) (fun u193 T193 p193 => ?_)
                              obtain ⟨hW193, hT193, hr193⟩ := p193
                              have hF193 := hF6.tr hT193 rfl
                              refine e_i (fun q197 => ?_) (fun q197 => ?_)
                              · exact e_some ⟨hW193, hF193, trivial⟩
                              · refine e_cE (t_M_found hW193 ((rgl (6) 6 6 rfl).sub rfl)) (fun u200 T200 p200 => ?_)
                                obtain ⟨hW200, hT200, hr200⟩ := p200
                                have hF200 := hF193.tr hT200 rfl
                                exact e_some ⟨hW200, hF200, trivial⟩
                            · refine e_f q7 ?_
                              refine e_f q45 ?_
                              refine e_f q78 ?_
                              refine e_grd (inb_g f156 rfl) ?_
                              exact e_some ⟨hW6, hF6, trivial⟩
                · refine e_some ?_
                  refine e_bnd ?_
                  refine e_eq (f_M_ends.eq_1 _ _) ?_
                  refine e_f (by decide) ?_
                  refine e_cE (t_M_found hW6 ((rgl (3) 3 3 rfl).sub rfl)) (fun u207 T207 p207 => ?_)
                  obtain ⟨hW207, hT207, hr207⟩ := p207
                  have hF207 := hF6.tr hT207 rfl
                  refine e_eq (f_M_ends_j10.eq_1 _ _) ?_
                  refine e_f (by decide) ?_
                  refine e_some ?_
                  refine e_f (by decide) ?_
                  exact e_some ⟨hW207, hF207, trivial⟩
    · exact e_some ⟨hW, hF, trivial⟩
set_option maxRecDepth 20000 in
set_option maxHeartbeats 4000000 in
theorem t_M_meet_L42 {S0 : SS} : ∀ (n : Nat) (x3 : Int32) (x4 : Int32) (x5 : Int32) (x6 : Int32) (S : SS), WR S → Fr [1] [(0, 0), (0, 1), (0, 2), (0, 3), (0, 5)] S0 S → rg x3 0 100 → rg x4 0 71 → rg x5 0 1 → rg x6 0 100 → 100 - x6.toInt < (n : Int) → Ex2 (f_M_meet_L42 n x3 x4 x5 x6 S) (fun r U => WR U ∧ Fr [1] [(0, 0), (0, 1), (0, 2), (0, 3), (0, 5)] S0 U ∧ rg r (-2) 71) := by
  intro n
  induction n with
  | zero =>
    intro x3 x4 x5 x6 S hW hF h0 h1 h2 h3 hm
    exact up_0 h3 hm rfl
  | succ n ih =>
    intro x3 x4 x5 x6 S hW hF h0 h1 h2 h3 hm
    refine e_eq (f_M_meet_L42.eq_2 _ _ _ _ _ _) ?_
    refine e_i (fun q1 => ?_) (fun q1 => ?_)
    · exact e_some ⟨hW, hF, (h1.sub rfl)⟩
    · have f2 := nle_l 1 h0 h3 q1 rfl
      have f3 := nle_r 99 h0 h3 q1 rfl
      refine e_grd (inb_g (rg_add 0 143 (rg_mul 0 142 (rgl (2) 2 2 rfl) h1 rfl) h2 rfl) rfl) ?_
      refine e_nmG (fun w4 hw4 => ?_)
      have f5 := rn_tr (ro_23 hW _) hw4
      refine e_i (fun q6 => ?_) (fun q6 => ?_)
      · refine e_cE (t_M_found hW ((rgl (1) 1 1 rfl).sub rfl)) (fun u9 T9 p9 => ?_)
        obtain ⟨hW9, hT9, hr9⟩ := p9
        have hF9 := hF.tr hT9 rfl
        exact e_some ⟨hW9, hF9, (hr9.sub rfl)⟩
      · have f11 := rn.ne f5 q6
        refine e_bnd ?_
        refine e_eq (f_M_sideTo.eq_1 _ _ _) ?_
        refine e_grd (inb_g (rg_mul 0 142 (rgl (2) 2 2 rfl) f11 rfl) rfl) ?_
        refine e_i (fun q13 => ?_) (fun q13 => ?_)
        · refine e_some ?_
          refine e_nmG (fun w15 hw15 => ?_)
          have f16 := rg_tr (rg_sb 1 1 (rgl (1) 1 1 rfl) (rgl (0) 0 0 rfl) rfl) hw15
          refine e_nmG (fun w17 hw17 => ?_)
          have f18 := rg_tr (rg_add 1 100 f3 (rgl (1) 1 1 rfl) rfl) hw17
          exact ih _ _ _ _ _ hW hF (f2.sub rfl) f11 (f16.sub rfl) (f18.sub rfl) (up_s f3 hw17 hm rfl)
        · refine e_some ?_
          refine e_nmG (fun w19 hw19 => ?_)
          have f20 := rg_tr (rg_sb 0 0 (rgl (1) 1 1 rfl) (rgl (1) 1 1 rfl) rfl) hw19
          refine e_nmG (fun w21 hw21 => ?_)
          have f22 := rg_tr (rg_add 1 100 f3 (rgl (1) 1 1 rfl) rfl) hw21
          exact ih _ _ _ _ _ hW hF (f2.sub rfl) f11 (f20.sub rfl) (f22.sub rfl) (up_s f3 hw21 hm rfl)
set_option maxRecDepth 20000 in
set_option maxHeartbeats 4000000 in
theorem t_M_meet {a1 : Int32} {a2 : Int32} {a3 : Int32} {S : SS} (hW : WR S) : Ex2 (f_M_meet a1 a2 a3 S) (fun r U => WR U ∧ Fr [1] [(0, 0), (0, 1), (0, 2), (0, 3), (0, 5)] S U ∧ rg r (-2) 71) := by
  have hF : Fr [1] [(0, 0), (0, 1), (0, 2), (0, 3), (0, 5)] S S := Fr.rf
  refine e_eq (f_M_meet.eq_1 _ _ _ _) ?_
  refine e_i (fun q1 => ?_) (fun q1 => ?_)
  · exact e_some ⟨hW, hF, ((rgl (-1) (-1) (-1) rfl).sub rfl)⟩
  · have f3 := nlt_l (rgt _) (rgl 0 0 0 rfl) q1
    refine e_i (fun q4 => ?_) (fun q4 => ?_)
    · have f5 := le_l f3 (rgl (100) 100 100 rfl) q4
      refine e_cV (t_M_begin hW) (fun T6 p6 => ?_)
      obtain ⟨hW6, hT6⟩ := p6
      have hF6 := hF.tr hT6 rfl
      refine e_bnd ?_
      refine e_eq (f_M_missSide.eq_1 _ _ _ _) ?_
      refine e_bnd ?_
      refine e_eq (f_M_missThing.eq_1 _ _ _) ?_
      refine e_i (fun q7 => ?_) (fun q7 => ?_)
      · refine e_some ?_
        refine e_f (by decide) ?_
        refine e_some ?_
        refine e_bnd ?_
        refine e_eq (f_M_ends.eq_1 _ _) ?_
        refine e_f (by decide) ?_
        refine e_cE (t_M_found hW6 ((rgl (3) 3 3 rfl).sub rfl)) (fun u9 T9 p9 => ?_)
        obtain ⟨hW9, hT9, hr9⟩ := p9
        have hF9 := hF6.tr hT9 rfl
        refine e_eq (f_M_ends_j10.eq_1 _ _) ?_
        refine e_f (by decide) ?_
        refine e_some ?_
        refine e_f (by decide) ?_
        exact e_some ⟨hW9, hF9, ((rgl (-2) (-2) (-2) rfl).sub rfl)⟩
      · have f10 := nlt_l (rgt _) (rgl 0 0 0 rfl) q7
        refine e_i (fun q11 => ?_) (fun q11 => ?_)
        · have f12 := lt_l 71 f10 (rgl (72) 72 72 rfl) q11 rfl
          refine e_i (fun q13 => ?_) (fun q13 => ?_)
          · refine e_some ?_
            refine e_f (by decide) ?_
            refine e_some ?_
            refine e_bnd ?_
            refine e_eq (f_M_ends.eq_1 _ _) ?_
            refine e_f (by decide) ?_
            refine e_cE (t_M_found hW6 ((rgl (1) 1 1 rfl).sub rfl)) (fun u15 T15 p15 => ?_)
            obtain ⟨hW15, hT15, hr15⟩ := p15
            have hF15 := hF6.tr hT15 rfl
            refine e_eq (f_M_ends_j10.eq_1 _ _) ?_
            refine e_f (by decide) ?_
            refine e_some ?_
            refine e_f (by decide) ?_
            exact e_some ⟨hW15, hF15, ((rgl (-2) (-2) (-2) rfl).sub rfl)⟩
          · refine e_grd (inb_g f12 rfl) ?_
            refine e_i (fun q18 => ?_) (fun q18 => ?_)
            · refine e_some ?_
              refine e_f (by decide) ?_
              refine e_some ?_
              refine e_bnd ?_
              refine e_eq (f_M_ends.eq_1 _ _) ?_
              refine e_f (by decide) ?_
              refine e_cE (t_M_found hW6 ((rgl (1) 1 1 rfl).sub rfl)) (fun u20 T20 p20 => ?_)
              obtain ⟨hW20, hT20, hr20⟩ := p20
              have hF20 := hF6.tr hT20 rfl
              refine e_eq (f_M_ends_j10.eq_1 _ _) ?_
              refine e_f (by decide) ?_
              refine e_some ?_
              refine e_f (by decide) ?_
              exact e_some ⟨hW20, hF20, ((rgl (-2) (-2) (-2) rfl).sub rfl)⟩
            · refine e_bnd ?_
              refine e_eq (f_M_isSuch.eq_1 _ _ _) ?_
              refine e_grd (inb_g f12 rfl) ?_
              refine e_nmG (fun w25 hw25 => ?_)
              refine e_f (by decide) ?_
              refine e_f (by decide) ?_
              refine e_f (by decide) ?_
              refine e_f (by decide) ?_
              refine e_some ?_
              refine e_f (by decide) ?_
              refine e_some ?_
              refine e_t (by decide) ?_
              refine e_bnd ?_
              refine e_eq (f_M_isSide.eq_1 _ _) ?_
              refine e_i (fun q26 => ?_) (fun q26 => ?_)
              · have f27 := rg_tr (rgl 0 0 0 rfl) q26
                refine e_some ?_
                refine e_f (by decide) ?_
                refine e_some ?_
                refine e_bnd ?_
                refine e_eq (f_M_ends.eq_1 _ _) ?_
                refine e_t (by decide) ?_
                refine e_eq (f_M_ends_j10.eq_1 _ _) ?_
                refine e_t (by decide) ?_
                refine e_some ?_
                refine e_t (by decide) ?_
                exact t_M_meet_L42  NF _ _ _ _ _ hW6 hF6 f5 f12 (f27.sub rfl) ((rgl (0) 0 0 rfl).sub rfl) (up_n (rgl (0) 0 0 rfl) rfl)
              · refine e_i (fun q28 => ?_) (fun q28 => ?_)
                · have f29 := rg_tr (rgl (1) 1 1 rfl) q28
                  refine e_some ?_
                  refine e_f (by decide) ?_
                  refine e_some ?_
                  refine e_bnd ?_
                  refine e_eq (f_M_ends.eq_1 _ _) ?_
                  refine e_t (by decide) ?_
                  refine e_eq (f_M_ends_j10.eq_1 _ _) ?_
                  refine e_t (by decide) ?_
                  refine e_some ?_
                  refine e_t (by decide) ?_
                  exact t_M_meet_L42  NF _ _ _ _ _ hW6 hF6 f5 f12 (f29.sub rfl) ((rgl (0) 0 0 rfl).sub rfl) (up_n (rgl (0) 0 0 rfl) rfl)
                · refine e_some ?_
                  refine e_t (by decide) ?_
                  refine e_some ?_
                  refine e_bnd ?_
                  refine e_eq (f_M_ends.eq_1 _ _) ?_
                  refine e_f (by decide) ?_
                  refine e_cE (t_M_found hW6 ((rgl (3) 3 3 rfl).sub rfl)) (fun u30 T30 p30 => ?_)
                  obtain ⟨hW30, hT30, hr30⟩ := p30
                  have hF30 := hF6.tr hT30 rfl
                  refine e_eq (f_M_ends_j10.eq_1 _ _) ?_
                  refine e_f (by decide) ?_
                  refine e_some ?_
                  refine e_f (by decide) ?_
                  exact e_some ⟨hW30, hF30, ((rgl (-2) (-2) (-2) rfl).sub rfl)⟩
        · refine e_some ?_
          refine e_f (by decide) ?_
          refine e_some ?_
          refine e_bnd ?_
          refine e_eq (f_M_ends.eq_1 _ _) ?_
          refine e_f (by decide) ?_
          refine e_cE (t_M_found hW6 ((rgl (3) 3 3 rfl).sub rfl)) (fun u35 T35 p35 => ?_)
          obtain ⟨hW35, hT35, hr35⟩ := p35
          have hF35 := hF6.tr hT35 rfl
          refine e_eq (f_M_ends_j10.eq_1 _ _) ?_
          refine e_f (by decide) ?_
          refine e_some ?_
          refine e_f (by decide) ?_
          exact e_some ⟨hW35, hF35, ((rgl (-2) (-2) (-2) rfl).sub rfl)⟩
    · exact e_some ⟨hW, hF, ((rgl (-1) (-1) (-1) rfl).sub rfl)⟩
set_option maxRecDepth 20000 in
set_option maxHeartbeats 4000000 in
theorem t_M_weigh_L29 {S0 : SS} : ∀ (n : Nat) (x2 : Int32) (x3 : Int32) (S : SS), WR S → Fr [1, 2, 39] [(0, 0), (0, 1), (0, 2), (0, 3), (0, 5), (0, 56), (0, 57), (0, 58)] S0 S → rg x3 0 72 → 72 - x3.toInt < (n : Int) → Ex2 (f_M_weigh_L29 n x2 x3 S) (fun r U => WR U ∧ Fr [1, 2, 39] [(0, 0), (0, 1), (0, 2), (0, 3), (0, 5), (0, 56), (0, 57), (0, 58)] S0 U ∧ True) := by
  intro n
  induction n with
  | zero =>
    intro x2 x3 S hW hF h1 hm
    exact up_0 h1 hm rfl
  | succ n ih =>
    intro x2 x3 S hW hF h1 hm
    refine e_eq (f_M_weigh_L29.eq_2 _ _ _ _) ?_
    refine e_i (fun q1 => ?_) (fun q1 => ?_)
    · exact e_some ⟨hW, hF, trivial⟩
    · have f3 := nle_r 71 (ro_0_56 hW) h1 q1 rfl
      refine e_grd (inb_g f3 rfl) ?_
      refine e_cE (t_M_weight hW (ro_39 hW _)) (fun u4 T4 p4 => ?_)
      obtain ⟨hW4, hT4, hr4⟩ := p4
      have hF4 := hF.tr hT4 rfl
      refine e_nmG (fun w6 hw6 => ?_)
      refine e_nmG (fun w7 hw7 => ?_)
      have f8 := rg_tr (rg_add 1 72 f3 (rgl (1) 1 1 rfl) rfl) hw7
      exact ih _ _ _ hW4 hF4 (f8.sub rfl) (up_s f3 hw7 hm rfl)
set_option maxRecDepth 20000 in
set_option maxHeartbeats 4000000 in
theorem t_M_weigh {a1 : Int32} {S : SS} (hW : WR S) : Ex2 (f_M_weigh a1 S) (fun r U => WR U ∧ Fr [1, 2, 39] [(0, 0), (0, 1), (0, 2), (0, 3), (0, 5), (0, 56), (0, 57), (0, 58)] S U ∧ True) := by
  have hF : Fr [1, 2, 39] [(0, 0), (0, 1), (0, 2), (0, 3), (0, 5), (0, 56), (0, 57), (0, 58)] S S := Fr.rf
  refine e_eq (f_M_weigh.eq_1 _ _) ?_
  refine e_cV (t_M_begin hW) (fun T1 p1 => ?_)
  obtain ⟨hW1, hT1⟩ := p1
  have hF1 := hF.tr hT1 rfl
  refine e_bnd ?_
  refine e_eq (f_M_missThing.eq_1 _ _ _) ?_
  refine e_i (fun q2 => ?_) (fun q2 => ?_)
  · refine e_some ?_
    refine e_bnd ?_
    refine e_eq (f_M_ends.eq_1 _ _) ?_
    refine e_f (by decide) ?_
    refine e_cE (t_M_found hW1 ((rgl (3) 3 3 rfl).sub rfl)) (fun u4 T4 p4 => ?_)
    obtain ⟨hW4, hT4, hr4⟩ := p4
    have hF4 := hF1.tr hT4 rfl
    refine e_eq (f_M_ends_j10.eq_1 _ _) ?_
    refine e_f (by decide) ?_
    refine e_some ?_
    refine e_f (by decide) ?_
    exact e_some ⟨hW4, hF4, trivial⟩
  · have f5 := nlt_l (rgt _) (rgl 0 0 0 rfl) q2
    refine e_i (fun q6 => ?_) (fun q6 => ?_)
    · have f7 := lt_l 71 f5 (rgl (72) 72 72 rfl) q6 rfl
      refine e_i (fun q8 => ?_) (fun q8 => ?_)
      · refine e_some ?_
        refine e_bnd ?_
        refine e_eq (f_M_ends.eq_1 _ _) ?_
        refine e_f (by decide) ?_
        refine e_cE (t_M_found hW1 ((rgl (1) 1 1 rfl).sub rfl)) (fun u10 T10 p10 => ?_)
        obtain ⟨hW10, hT10, hr10⟩ := p10
        have hF10 := hF1.tr hT10 rfl
        refine e_eq (f_M_ends_j10.eq_1 _ _) ?_
        refine e_f (by decide) ?_
        refine e_some ?_
        refine e_f (by decide) ?_
        exact e_some ⟨hW10, hF10, trivial⟩
      · refine e_grd (inb_g f7 rfl) ?_
        refine e_i (fun q13 => ?_) (fun q13 => ?_)
        · refine e_some ?_
          refine e_bnd ?_
          refine e_eq (f_M_ends.eq_1 _ _) ?_
          refine e_f (by decide) ?_
          refine e_cE (t_M_found hW1 ((rgl (1) 1 1 rfl).sub rfl)) (fun u15 T15 p15 => ?_)
          obtain ⟨hW15, hT15, hr15⟩ := p15
          have hF15 := hF1.tr hT15 rfl
          refine e_eq (f_M_ends_j10.eq_1 _ _) ?_
          refine e_f (by decide) ?_
          refine e_some ?_
          refine e_f (by decide) ?_
          exact e_some ⟨hW15, hF15, trivial⟩
        · refine e_bnd ?_
          refine e_eq (f_M_isSuch.eq_1 _ _ _) ?_
          refine e_grd (inb_g f7 rfl) ?_
          refine e_nmG (fun w20 hw20 => ?_)
          refine e_f (by decide) ?_
          refine e_f (by decide) ?_
          refine e_f (by decide) ?_
          refine e_f (by decide) ?_
          refine e_some ?_
          refine e_f (by decide) ?_
          refine e_some ?_
          refine e_bnd ?_
          refine e_eq (f_M_ends.eq_1 _ _) ?_
          refine e_t (by decide) ?_
          refine e_eq (f_M_ends_j10.eq_1 _ _) ?_
          refine e_t (by decide) ?_
          refine e_some ?_
          refine e_t (by decide) ?_
          refine e_cV (t_M_lineUp hW1 f7 q8) (fun T21 p21 => ?_)
          obtain ⟨hW21, hT21, hr21⟩ := p21
          have hF21 := hF1.tr hT21 rfl
          exact t_M_weigh_L29  NF _ _ _ hW21 hF21 ((rgl (0) 0 0 rfl).sub rfl) (up_n (rgl (0) 0 0 rfl) rfl)
    · refine e_some ?_
      refine e_bnd ?_
      refine e_eq (f_M_ends.eq_1 _ _) ?_
      refine e_f (by decide) ?_
      refine e_cE (t_M_found hW1 ((rgl (3) 3 3 rfl).sub rfl)) (fun u27 T27 p27 => ?_)
      obtain ⟨hW27, hT27, hr27⟩ := p27
      have hF27 := hF1.tr hT27 rfl
      refine e_eq (f_M_ends_j10.eq_1 _ _) ?_
      refine e_f (by decide) ?_
      refine e_some ?_
      refine e_f (by decide) ?_
      exact e_some ⟨hW27, hF27, trivial⟩
set_option maxRecDepth 20000 in
set_option maxHeartbeats 4000000 in
theorem t_M_share_L32 {S0 : SS} : ∀ (n : Nat) (x2 : Int32) (x3 : Int32) (x4 : Int32) (S : SS), WR S → Fr [1, 2, 39] [(0, 0), (0, 1), (0, 2), (0, 3), (0, 5), (0, 56), (0, 57), (0, 58)] S0 S → rg x4 0 72 → 72 - x4.toInt < (n : Int) → Ex2 (f_M_share_L32 n x2 x3 x4 S) (fun r U => WR U ∧ Fr [1, 2, 39] [(0, 0), (0, 1), (0, 2), (0, 3), (0, 5), (0, 56), (0, 57), (0, 58)] S0 U ∧ True) := by
  intro n
  induction n with
  | zero =>
    intro x2 x3 x4 S hW hF h2 hm
    exact up_0 h2 hm rfl
  | succ n ih =>
    intro x2 x3 x4 S hW hF h2 hm
    refine e_eq (f_M_share_L32.eq_2 _ _ _ _ _) ?_
    refine e_i (fun q1 => ?_) (fun q1 => ?_)
    · refine e_i (fun q2 => ?_) (fun q2 => ?_)
      · refine e_cE (t_M_found hW ((rgl (6) 6 6 rfl).sub rfl)) (fun u4 T4 p4 => ?_)
        obtain ⟨hW4, hT4, hr4⟩ := p4
        have hF4 := hF.tr hT4 rfl
        exact e_some ⟨hW4, hF4, trivial⟩
      · refine e_grd (nz_h q2) ?_
        exact e_some ⟨hW, hF, trivial⟩
    · have f6 := nle_r 71 (ro_0_56 hW) h2 q1 rfl
      refine e_grd (inb_g f6 rfl) ?_
      refine e_cE (t_M_brake hW (ro_39 hW _)) (fun u7 T7 p7 => ?_)
      obtain ⟨hW7, hT7, hr7⟩ := p7
      have hF7 := hF.tr hT7 rfl
      refine e_nmG (fun w9 hw9 => ?_)
      refine e_grd (inb_g f6 rfl) ?_
      refine e_grd (inb_g (ro_39 hW7 _) rfl) ?_
      refine e_nmG (fun w10 hw10 => ?_)
      refine e_nmG (fun w11 hw11 => ?_)
      have f12 := rg_tr (rg_add 1 72 f6 (rgl (1) 1 1 rfl) rfl) hw11
      exact ih _ _ _ _ hW7 hF7 (f12.sub rfl) (up_s f6 hw11 hm rfl)
set_option maxRecDepth 20000 in
set_option maxHeartbeats 4000000 in
theorem t_M_share {a1 : Int32} {S : SS} (hW : WR S) : Ex2 (f_M_share a1 S) (fun r U => WR U ∧ Fr [1, 2, 39] [(0, 0), (0, 1), (0, 2), (0, 3), (0, 5), (0, 56), (0, 57), (0, 58)] S U ∧ True) := by
  have hF : Fr [1, 2, 39] [(0, 0), (0, 1), (0, 2), (0, 3), (0, 5), (0, 56), (0, 57), (0, 58)] S S := Fr.rf
  refine e_eq (f_M_share.eq_1 _ _) ?_
  refine e_cV (t_M_begin hW) (fun T1 p1 => ?_)
  obtain ⟨hW1, hT1⟩ := p1
  have hF1 := hF.tr hT1 rfl
  refine e_bnd ?_
  refine e_eq (f_M_missThing.eq_1 _ _ _) ?_
  refine e_i (fun q2 => ?_) (fun q2 => ?_)
  · refine e_some ?_
    refine e_bnd ?_
    refine e_eq (f_M_ends.eq_1 _ _) ?_
    refine e_f (by decide) ?_
    refine e_cE (t_M_found hW1 ((rgl (3) 3 3 rfl).sub rfl)) (fun u4 T4 p4 => ?_)
    obtain ⟨hW4, hT4, hr4⟩ := p4
    have hF4 := hF1.tr hT4 rfl
    refine e_eq (f_M_ends_j10.eq_1 _ _) ?_
    refine e_f (by decide) ?_
    refine e_some ?_
    refine e_f (by decide) ?_
    exact e_some ⟨hW4, hF4, trivial⟩
  · have f5 := nlt_l (rgt _) (rgl 0 0 0 rfl) q2
    refine e_i (fun q6 => ?_) (fun q6 => ?_)
    · have f7 := lt_l 71 f5 (rgl (72) 72 72 rfl) q6 rfl
      refine e_i (fun q8 => ?_) (fun q8 => ?_)
      · refine e_some ?_
        refine e_bnd ?_
        refine e_eq (f_M_ends.eq_1 _ _) ?_
        refine e_f (by decide) ?_
        refine e_cE (t_M_found hW1 ((rgl (1) 1 1 rfl).sub rfl)) (fun u10 T10 p10 => ?_)
        obtain ⟨hW10, hT10, hr10⟩ := p10
        have hF10 := hF1.tr hT10 rfl
        refine e_eq (f_M_ends_j10.eq_1 _ _) ?_
        refine e_f (by decide) ?_
        refine e_some ?_
        refine e_f (by decide) ?_
        exact e_some ⟨hW10, hF10, trivial⟩
      · refine e_grd (inb_g f7 rfl) ?_
        refine e_i (fun q13 => ?_) (fun q13 => ?_)
        · refine e_some ?_
          refine e_bnd ?_
          refine e_eq (f_M_ends.eq_1 _ _) ?_
          refine e_f (by decide) ?_
          refine e_cE (t_M_found hW1 ((rgl (1) 1 1 rfl).sub rfl)) (fun u15 T15 p15 => ?_)
          obtain ⟨hW15, hT15, hr15⟩ := p15
          have hF15 := hF1.tr hT15 rfl
          refine e_eq (f_M_ends_j10.eq_1 _ _) ?_
          refine e_f (by decide) ?_
          refine e_some ?_
          refine e_f (by decide) ?_
          exact e_some ⟨hW15, hF15, trivial⟩
        · refine e_bnd ?_
          refine e_eq (f_M_isSuch.eq_1 _ _ _) ?_
          refine e_grd (inb_g f7 rfl) ?_
          refine e_nmG (fun w20 hw20 => ?_)
          refine e_f (by decide) ?_
          refine e_f (by decide) ?_
          refine e_f (by decide) ?_
          refine e_f (by decide) ?_
          refine e_some ?_
          refine e_f (by decide) ?_
          refine e_some ?_
          refine e_bnd ?_
          refine e_eq (f_M_ends.eq_1 _ _) ?_
          refine e_t (by decide) ?_
          refine e_eq (f_M_ends_j10.eq_1 _ _) ?_
          refine e_t (by decide) ?_
          refine e_some ?_
          refine e_t (by decide) ?_
          refine e_cV (t_M_lineUp hW1 f7 q8) (fun T21 p21 => ?_)
          obtain ⟨hW21, hT21, hr21⟩ := p21
          have hF21 := hF1.tr hT21 rfl
          exact t_M_share_L32  NF _ _ _ _ hW21 hF21 ((rgl (0) 0 0 rfl).sub rfl) (up_n (rgl (0) 0 0 rfl) rfl)
    · refine e_some ?_
      refine e_bnd ?_
      refine e_eq (f_M_ends.eq_1 _ _) ?_
      refine e_f (by decide) ?_
      refine e_cE (t_M_found hW1 ((rgl (3) 3 3 rfl).sub rfl)) (fun u27 T27 p27 => ?_)
      obtain ⟨hW27, hT27, hr27⟩ := p27
      have hF27 := hF1.tr hT27 rfl
      refine e_eq (f_M_ends_j10.eq_1 _ _) ?_
      refine e_f (by decide) ?_
      refine e_some ?_
      refine e_f (by decide) ?_
      exact e_some ⟨hW27, hF27, trivial⟩
set_option maxRecDepth 20000 in
set_option maxHeartbeats 4000000 in
theorem t_M_consist {a1 : Int32} {a2 : Int32} {S : SS} (hW : WR S) : Ex2 (f_M_consist a1 a2 S) (fun r U => WR U ∧ Fr [1, 39] [(0, 0), (0, 1), (0, 2), (0, 3), (0, 5), (0, 56), (0, 57), (0, 58)] S U ∧ rn r (-2) 71) := by
  have hF : Fr [1, 39] [(0, 0), (0, 1), (0, 2), (0, 3), (0, 5), (0, 56), (0, 57), (0, 58)] S S := Fr.rf
  refine e_eq (f_M_consist.eq_1 _ _ _) ?_
  refine e_i (fun q1 => ?_) (fun q1 => ?_)
  · have f2 := le_r (rgl 0 0 0 rfl) (rgt _) q1
    refine e_cV (t_M_begin hW) (fun T3 p3 => ?_)
    obtain ⟨hW3, hT3⟩ := p3
    have hF3 := hF.tr hT3 rfl
    refine e_bnd ?_
    refine e_eq (f_M_missThing.eq_1 _ _ _) ?_
    refine e_i (fun q4 => ?_) (fun q4 => ?_)
    · refine e_some ?_
      refine e_bnd ?_
      refine e_eq (f_M_ends.eq_1 _ _) ?_
      refine e_f (by decide) ?_
      refine e_cE (t_M_found hW3 ((rgl (3) 3 3 rfl).sub rfl)) (fun u6 T6 p6 => ?_)
      obtain ⟨hW6, hT6, hr6⟩ := p6
      have hF6 := hF3.tr hT6 rfl
      refine e_eq (f_M_ends_j10.eq_1 _ _) ?_
      refine e_f (by decide) ?_
      refine e_some ?_
      refine e_f (by decide) ?_
      exact e_some ⟨hW6, hF6, (rg.toN ((rgl (-2) (-2) (-2) rfl).sub rfl))⟩
    · have f7 := nlt_l (rgt _) (rgl 0 0 0 rfl) q4
      refine e_i (fun q8 => ?_) (fun q8 => ?_)
      · have f9 := lt_l 71 f7 (rgl (72) 72 72 rfl) q8 rfl
        refine e_i (fun q10 => ?_) (fun q10 => ?_)
        · refine e_some ?_
          refine e_bnd ?_
          refine e_eq (f_M_ends.eq_1 _ _) ?_
          refine e_f (by decide) ?_
          refine e_cE (t_M_found hW3 ((rgl (1) 1 1 rfl).sub rfl)) (fun u12 T12 p12 => ?_)
          obtain ⟨hW12, hT12, hr12⟩ := p12
          have hF12 := hF3.tr hT12 rfl
          refine e_eq (f_M_ends_j10.eq_1 _ _) ?_
          refine e_f (by decide) ?_
          refine e_some ?_
          refine e_f (by decide) ?_
          exact e_some ⟨hW12, hF12, (rg.toN ((rgl (-2) (-2) (-2) rfl).sub rfl))⟩
        · refine e_grd (inb_g f9 rfl) ?_
          refine e_i (fun q15 => ?_) (fun q15 => ?_)
          · refine e_some ?_
            refine e_bnd ?_
            refine e_eq (f_M_ends.eq_1 _ _) ?_
            refine e_f (by decide) ?_
            refine e_cE (t_M_found hW3 ((rgl (1) 1 1 rfl).sub rfl)) (fun u17 T17 p17 => ?_)
            obtain ⟨hW17, hT17, hr17⟩ := p17
            have hF17 := hF3.tr hT17 rfl
            refine e_eq (f_M_ends_j10.eq_1 _ _) ?_
            refine e_f (by decide) ?_
            refine e_some ?_
            refine e_f (by decide) ?_
            exact e_some ⟨hW17, hF17, (rg.toN ((rgl (-2) (-2) (-2) rfl).sub rfl))⟩
          · refine e_bnd ?_
            refine e_eq (f_M_isSuch.eq_1 _ _ _) ?_
            refine e_grd (inb_g f9 rfl) ?_
            refine e_nmG (fun w22 hw22 => ?_)
            refine e_f (by decide) ?_
            refine e_f (by decide) ?_
            refine e_f (by decide) ?_
            refine e_f (by decide) ?_
            refine e_some ?_
            refine e_f (by decide) ?_
            refine e_some ?_
            refine e_bnd ?_
            refine e_eq (f_M_ends.eq_1 _ _) ?_
            refine e_t (by decide) ?_
            refine e_eq (f_M_ends_j10.eq_1 _ _) ?_
            refine e_t (by decide) ?_
            refine e_some ?_
            refine e_t (by decide) ?_
            refine e_cV (t_M_lineUp hW3 f9 q10) (fun T23 p23 => ?_)
            obtain ⟨hW23, hT23, hr23⟩ := p23
            have hF23 := hF3.tr hT23 rfl
            have f27 := hr23
            refine e_i (fun q28 => ?_) (fun q28 => ?_)
            · exact e_some ⟨hW23, hF23, (rn4 (d_eq (rgl (-4) (-4) (-4) rfl) (rgl (-4) (-4) (-4) rfl) rfl))⟩
            · have f30 := nle_r 71 f27 f2 q28 rfl
              refine e_grd (inb_g f30 rfl) ?_
              exact e_some ⟨hW23, hF23, (rg.toN ((ro_39 hW23 _).sub rfl))⟩
      · refine e_some ?_
        refine e_bnd ?_
        refine e_eq (f_M_ends.eq_1 _ _) ?_
        refine e_f (by decide) ?_
        refine e_cE (t_M_found hW3 ((rgl (3) 3 3 rfl).sub rfl)) (fun u32 T32 p32 => ?_)
        obtain ⟨hW32, hT32, hr32⟩ := p32
        have hF32 := hF3.tr hT32 rfl
        refine e_eq (f_M_ends_j10.eq_1 _ _) ?_
        refine e_f (by decide) ?_
        refine e_some ?_
        refine e_f (by decide) ?_
        exact e_some ⟨hW32, hF32, (rg.toN ((rgl (-2) (-2) (-2) rfl).sub rfl))⟩
  · exact e_some ⟨hW, hF, (rg.toN ((rgl (-1) (-1) (-1) rfl).sub rfl))⟩
set_option maxRecDepth 20000 in
set_option maxHeartbeats 4000000 in
theorem t_M_finding {a1 : Int32} {S : SS} (hW : WR S) : Ex2 (f_M_finding a1 S) (fun r U => WR U ∧ Fr [] [] S U ∧ True) := by
  have hF : Fr [] [] S S := Fr.rf
  refine e_eq (f_M_finding.eq_1 _ _) ?_
  refine e_i (fun q1 => ?_) (fun q1 => ?_)
  · exact e_some ⟨hW, hF, trivial⟩
  · refine e_i (fun q3 => ?_) (fun q3 => ?_)
    · exact e_some ⟨hW, hF, trivial⟩
    · refine e_i (fun q5 => ?_) (fun q5 => ?_)
      · exact e_some ⟨hW, hF, trivial⟩
      · refine e_i (fun q7 => ?_) (fun q7 => ?_)
        · exact e_some ⟨hW, hF, trivial⟩
        · exact e_some ⟨hW, hF, trivial⟩
set_option maxRecDepth 20000 in
set_option maxHeartbeats 4000000 in
theorem t_M_count_L88 {S0 : SS} : ∀ (n : Nat) (x2 : Int32) (x3 : Int32) (S : SS), WR S → Fr [] [] S0 S → rg x3 0 72 → 72 - x3.toInt < (n : Int) → Ex2 (f_M_count_L88 n x2 x3 S) (fun r U => WR U ∧ Fr [] [] S0 U ∧ True) := by
  intro n
  induction n with
  | zero =>
    intro x2 x3 S hW hF h1 hm
    exact up_0 h1 hm rfl
  | succ n ih =>
    intro x2 x3 S hW hF h1 hm
    refine e_eq (f_M_count_L88.eq_2 _ _ _ _) ?_
    refine e_i (fun q1 => ?_) (fun q1 => ?_)
    · exact e_some ⟨hW, hF, trivial⟩
    · have f3 := nle_r 71 (ro_0_29 hW) h1 q1 rfl
      refine e_grd (inb_g f3 rfl) ?_
      refine e_i (fun q4 => ?_) (fun q4 => ?_)
      · refine e_eq (f_M_count_j111.eq_1 _ _ _ _ _) ?_
        refine e_nmG (fun w6 hw6 => ?_)
        refine e_nmG (fun w7 hw7 => ?_)
        have f8 := rg_tr (rg_add 1 72 f3 (rgl (1) 1 1 rfl) rfl) hw7
        exact ih _ _ _ hW hF (f8.sub rfl) (up_s f3 hw7 hm rfl)
      · refine e_eq (f_M_count_j111.eq_1 _ _ _ _ _) ?_
        refine e_nmG (fun w10 hw10 => ?_)
        refine e_nmG (fun w11 hw11 => ?_)
        have f12 := rg_tr (rg_add 1 72 f3 (rgl (1) 1 1 rfl) rfl) hw11
        exact ih _ _ _ hW hF (f12.sub rfl) (up_s f3 hw11 hm rfl)
set_option maxRecDepth 20000 in
set_option maxHeartbeats 4000000 in
theorem t_M_count {a1 : Int32} {S : SS} (hW : WR S) : Ex2 (f_M_count a1 S) (fun r U => WR U ∧ Fr [] [] S U ∧ True) := by
  have hF : Fr [] [] S S := Fr.rf
  refine e_eq (f_M_count.eq_1 _ _) ?_
  refine e_i (fun q1 => ?_) (fun q1 => ?_)
  · refine e_eq (f_M_count_j18.eq_1 _ _) ?_
    refine e_i (fun q3 => ?_) (fun q3 => ?_)
    · exact e_some ⟨hW, hF, trivial⟩
    · refine e_i (fun q5 => ?_) (fun q5 => ?_)
      · exact e_some ⟨hW, hF, trivial⟩
      · refine e_i (fun q7 => ?_) (fun q7 => ?_)
        · exact e_some ⟨hW, hF, trivial⟩
        · refine e_i (fun q9 => ?_) (fun q9 => ?_)
          · exact e_some ⟨hW, hF, trivial⟩
          · refine e_i (fun q11 => ?_) (fun q11 => ?_)
            · exact e_some ⟨hW, hF, trivial⟩
            · refine e_i (fun q13 => ?_) (fun q13 => ?_)
              · exact e_some ⟨hW, hF, trivial⟩
              · refine e_i (fun q15 => ?_) (fun q15 => ?_)
                · refine e_cE (t_M_running hW) (fun u17 T17 p17 => ?_)
                  obtain ⟨-, hT17, hr17⟩ := p17
                  have eT17 := (fr_nil hT17).symm
                  subst eT17
                  exact e_some ⟨hW, hF, trivial⟩
                · refine e_i (fun q18 => ?_) (fun q18 => ?_)
                  · exact t_M_count_L88  NF _ _ _ hW hF ((rgl (0) 0 0 rfl).sub rfl) (up_n (rgl (0) 0 0 rfl) rfl)
                  · refine e_i (fun q20 => ?_) (fun q20 => ?_)
                    · exact e_some ⟨hW, hF, trivial⟩
                    · refine e_i (fun q22 => ?_) (fun q22 => ?_)
                      · exact e_some ⟨hW, hF, trivial⟩
                      · exact e_some ⟨hW, hF, trivial⟩
  · have f25 := nlt_l (rgt _) (rgl (1) 1 1 rfl) q1
    refine e_i (fun q26 => ?_) (fun q26 => ?_)
    · have f27 := lt_r 18 (rgl (17) 17 17 rfl) f25 q26 rfl
      refine e_eq (f_M_count_j18.eq_1 _ _) ?_
      refine e_f (d_ne f27 (rgl (-9) (-9) (-9) rfl) rfl) ?_
      refine e_f (d_ne f27 (rgl (-8) (-8) (-8) rfl) rfl) ?_
      refine e_f (d_ne f27 (rgl (-7) (-7) (-7) rfl) rfl) ?_
      refine e_f (d_ne f27 (rgl (-6) (-6) (-6) rfl) rfl) ?_
      refine e_f (d_ne f27 (rgl (-5) (-5) (-5) rfl) rfl) ?_
      refine e_f (d_ne f27 (rgl (-4) (-4) (-4) rfl) rfl) ?_
      refine e_f (d_ne f27 (rgl (-3) (-3) (-3) rfl) rfl) ?_
      refine e_f (d_ne f27 (rgl (-2) (-2) (-2) rfl) rfl) ?_
      refine e_f (d_ne f27 (rgl (-1) (-1) (-1) rfl) rfl) ?_
      refine e_f (d_ne f27 (rgl (0) 0 0 rfl) rfl) ?_
      exact e_some ⟨hW, hF, trivial⟩
    · have f28 := nlt_r (rgl (17) 17 17 rfl) f25 q26
      refine e_grd (inb_g f28 rfl) ?_
      exact e_some ⟨hW, hF, trivial⟩
set_option maxRecDepth 20000 in
set_option maxHeartbeats 4000000 in
theorem t_M_trace {a1 : Int32} {S : SS} (hW : WR S) : Ex2 (f_M_trace a1 S) (fun r U => WR U ∧ Fr [] [] S U ∧ True) := by
  have hF : Fr [] [] S S := Fr.rf
  refine e_eq (f_M_trace.eq_1 _ _) ?_
  refine e_i (fun q1 => ?_) (fun q1 => ?_)
  · have f2 := le_r (rgl 0 0 0 rfl) (rgt _) q1
    refine e_i (fun q3 => ?_) (fun q3 => ?_)
    · exact e_some ⟨hW, hF, trivial⟩
    · have f5 := nle_r 199 (ro_0_5 hW) f2 q3 rfl
      refine e_grd (inb_g f5 rfl) ?_
      exact e_some ⟨hW, hF, trivial⟩
  · exact e_some ⟨hW, hF, trivial⟩
/-! ===== the reference gives a kept world back ===== -/
def RSt (T : SS) (b m : Nat) (U : SS) : Prop := RO U ∧ Fr [10, 11, 19, 20, 21, 22, 23, 24, 25, 26, 27, 30, 31, 32, 33, 34] [(0, 48)] T U ∧ ∀ h, U.1 23 h = if h < m then T.1 40 (b + 15 * (h / 2) + (4 + h % 2)) else T.1 23 h
theorem RSt.w {T U : SS} {b m k i : Nat} {v : Int32} (h : RSt T b m U) (hv : ok k i v) (hk : k ≠ 23) (hs : sb [k] [] [10, 11, 19, 20, 21, 22, 23, 24, 25, 26, 27, 30, 31, 32, 33, 34] [(0, 48)] = true) : RSt T b m (st U k i v) := by
  refine ⟨h.1.st hv rfl, h.2.1.tr (fr_stA U k i v) hs, fun j => ?_⟩
  rw [st_row _ _ _ _ (Ne.symm hk)]
  exact h.2.2 j
theorem RSt.c {T U : SS} {b m i : Nat} {v : Int32} (h : RSt T b m U) (hi : i = m) (hv : rn v 0 71) (he : v = T.1 40 (b + 15 * (m / 2) + (4 + m % 2))) : RSt T b (m + 1) (st U 23 i v) := by
  subst hi
  refine ⟨h.1.st (k := 23) hv rfl, h.2.1.tr (fr_stA U 23 i v) rfl, fun j => ?_⟩
  rw [st_at, if_pos rfl]
  by_cases e : j = i
  · rw [if_pos e, if_pos (by omega), he, e]
  · rw [if_neg e, h.2.2 j]
    by_cases q : j < i
    · rw [if_pos q, if_pos (by omega)]
    · rw [if_neg q, if_neg (by omega)]
theorem rs_w {T U : SS} {b m k i : Nat} {v : Int32} {f : SS → Option SS} {V : SS → Prop} (h : RSt T b m U) (hv : ok k i v) (hk : k ≠ 23) (hs : sb [k] [] [10, 11, 19, 20, 21, 22, 23, 24, 25, 26, 27, 30, 31, 32, 33, 34] [(0, 48)] = true) (kk : ∀ U', RSt T b m U' → Ew (f U') V) : Ew (wr U k i v f) V := kk _ (h.w hv hk hs)
theorem rs_c {T U : SS} {b m i : Nat} {v : Int32} {f : SS → Option SS} {V : SS → Prop} (h : RSt T b m U) (hi : i = m) (hv : rn v 0 71) (he : v = T.1 40 (b + 15 * (m / 2) + (4 + m % 2))) (kk : ∀ U', RSt T b (m + 1) U' → Ew (f U') V) : Ew (wr U 23 i v f) V := kk _ (h.c hi hv he)
theorem RSt.r {T U : SS} {b m : Nat} (h : RSt T b m U) (i : Nat) : U.1 40 i = T.1 40 i := h.2.1.1 40 i rfl
section RSL
variable {T : SS} {K8 : Int32 → Int32 → SS → Option SS} {n k b z j : Nat} {V : SS → Prop}
theorem rr_j263 {U : SS} {y0 : Int32} (h : RSt T b (2 * j + 2) U) (hK : KO n (T.1 40) k) (hbk : b = 1161 * k) (hj : j < 72) (hz : z = b + 15 * j) (hb : z + 15 ≤ 18576) (kk : ∀ U, RSt T b (2 * (j + 1)) U → Ew (K8 (nI (z + 15)) (nI (j + 1)) U) V) : Ew (f_M_restore_j263 K8 (nI z) (nI j) y0 (nI j) U) V := by
  refine v_eq (f_M_restore_j263.eq_1 _ _ _ _ _ _) ?_
  refine v_grd (inb_nI hj (by omega)) ?_
  refine rs_w (k := 34) h (and1 _) (by decide) rfl (fun U h => ?_)
  refine v_nm ?_
  refine v_nm ?_
  rw [show nI z + 15 = nI (z + 15) from nI_add z 15, show nI j + 1 = nI (j + 1) from nI_add j 1]
  exact kk U h
theorem rr_j209 {U : SS} {y0 : Int32} (h : RSt T b (2 * j + 2) U) (hK : KO n (T.1 40) k) (hbk : b = 1161 * k) (hj : j < 72) (hz : z = b + 15 * j) (hb : z + 15 ≤ 18576) (kk : ∀ U, RSt T b (2 * (j + 1)) U → Ew (K8 (nI (z + 15)) (nI (j + 1)) U) V) : Ew (f_M_restore_j209 K8 (nI z) (nI j) y0 (nI j) U) V := by
  refine v_eq (f_M_restore_j209.eq_1 _ _ _ _ _ _) ?_
  refine v_grd (inb_nI hj (by omega)) ?_
  refine rs_w (k := 31) h (and1 _) (by decide) rfl (fun U h => ?_)
  refine v_grd (inb_of (nI_add z 12) (by omega) (by omega)) ?_
  refine v_grd (inb_nI hj (by omega)) ?_
  refine rs_w (k := 32) h trivial (by decide) rfl (fun U h => ?_)
  refine v_grd (inb_of (nI_add z 13) (by omega) (by omega)) ?_
  refine v_grd (inb_nI hj (by omega)) ?_
  have v13 : U.1 40 (nI z + 13).toNatClampNeg = T.1 40 (1161 * k + 15 * j + 13) := by rw [show (nI z + 13).toNatClampNeg = z + 13 from clz z 13 (by omega), h.r, hz, hbk]
  refine rs_w (k := 33) h (by rw [v13]; exact (hK.2.1 j hj).2.2.2.2.2.2) (by decide) rfl (fun U h => ?_)
  refine v_grd (inb_of (nI_add z 14) (by omega) (by omega)) ?_
  refine v_i (fun q => ?_) (fun q => ?_)
  · exact rr_j263 h hK hbk hj hz hb kk
  · exact rr_j263 h hK hbk hj hz hb kk
set_option maxHeartbeats 2000000 in
theorem rr_j34 {U : SS} {y0 : Int32} (h : RSt T b (2 * j) U) (hK : KO n (T.1 40) k) (hbk : b = 1161 * k) (hj : j < 72) (hz : z = b + 15 * j) (hb : z + 15 ≤ 18576) (kk : ∀ U, RSt T b (2 * (j + 1)) U → Ew (K8 (nI (z + 15)) (nI (j + 1)) U) V) : Ew (f_M_restore_j34 K8 (nI z) (nI j) y0 (nI j) U) V := by
  refine v_eq (f_M_restore_j34.eq_1 _ _ _ _ _ _) ?_
  refine v_grd (inb_nI hj (by omega)) ?_
  refine rs_w (k := 19) h (and1 _) (by decide) rfl (fun U h => ?_)
  refine v_grd (inb_of (nI_add z 1) (by omega) (by omega)) ?_
  refine v_grd (inb_nI hj (by omega)) ?_
  have v1 : U.1 40 (nI z + 1).toNatClampNeg = T.1 40 (1161 * k + 15 * j + 1) := by rw [show (nI z + 1).toNatClampNeg = z + 1 from clz z 1 (by omega), h.r, hz, hbk]
  refine rs_w (k := 20) h (by rw [v1]; exact (hK.2.1 j hj).1) (by decide) rfl (fun U h => ?_)
  refine v_grd (inb_of (nI_add z 2) (by omega) (by omega)) ?_
  refine v_grd (inb_nI hj (by omega)) ?_
  refine rs_w (k := 21) h trivial (by decide) rfl (fun U h => ?_)
  refine v_grd (inb_of (nI_add z 3) (by omega) (by omega)) ?_
  refine v_grd (inb_nI hj (by omega)) ?_
  have v3 : U.1 40 (nI z + 3).toNatClampNeg = T.1 40 (1161 * k + 15 * j + 3) := by rw [show (nI z + 3).toNatClampNeg = z + 3 from clz z 3 (by omega), h.r, hz, hbk]
  refine rs_w (k := 22) h (by rw [v3]; exact (hK.2.1 j hj).2.1) (by decide) rfl (fun U h => ?_)
  refine v_grd (inb_of (nI_add z 4) (by omega) (by omega)) ?_
  refine v_grd (inb_of (nI_mul 2 j) (by omega) (by omega)) ?_
  have v4 : U.1 40 (nI z + 4).toNatClampNeg = T.1 40 (1161 * k + 15 * j + 4) := by rw [show (nI z + 4).toNatClampNeg = z + 4 from clz z 4 (by omega), h.r, hz, hbk]
  refine rs_c h (by rw [show (2 : Int32) * nI j = nI (2 * j) from nI_mul 2 j, nI_clamp (by omega)]) (by rw [v4]; exact (hK.2.1 j hj).2.2.1) (by rw [v4, hbk]; exact congrArg (T.1 40) (by omega)) (fun U h => ?_)
  refine v_grd (inb_of (nI_add z 5) (by omega) (by omega)) ?_
  refine v_grd (inb_of (x := (2 : Int32) * nI j + 1) (j := 2 * j + 1) (by rw [show (2 : Int32) * nI j = nI (2 * j) from nI_mul 2 j]; exact nI_add (2 * j) 1) (by omega) (by omega)) ?_
  have v5 : U.1 40 (nI z + 5).toNatClampNeg = T.1 40 (1161 * k + 15 * j + 5) := by rw [show (nI z + 5).toNatClampNeg = z + 5 from clz z 5 (by omega), h.r, hz, hbk]
  refine rs_c h (by rw [show (2 : Int32) * nI j = nI (2 * j) from nI_mul 2 j, nI_1, nI_clamp (by omega)]) (by rw [v5]; exact (hK.2.1 j hj).2.2.2.1) (by rw [v5, hbk]; exact congrArg (T.1 40) (by omega)) (fun U h => ?_)
  refine v_grd (inb_of (nI_add z 6) (by omega) (by omega)) ?_
  refine v_grd (inb_nI hj (by omega)) ?_
  refine rs_w (k := 24) h trivial (by decide) rfl (fun U h => ?_)
  refine v_grd (inb_of (nI_add z 7) (by omega) (by omega)) ?_
  refine v_grd (inb_nI hj (by omega)) ?_
  refine rs_w (k := 25) h trivial (by decide) rfl (fun U h => ?_)
  refine v_grd (inb_of (nI_add z 8) (by omega) (by omega)) ?_
  refine v_grd (inb_nI hj (by omega)) ?_
  have v8 : U.1 40 (nI z + 8).toNatClampNeg = T.1 40 (1161 * k + 15 * j + 8) := by rw [show (nI z + 8).toNatClampNeg = z + 8 from clz z 8 (by omega), h.r, hz, hbk]
  refine rs_w (k := 26) h (by rw [v8]; exact (hK.2.1 j hj).2.2.2.2.1) (by decide) rfl (fun U h => ?_)
  refine v_grd (inb_of (nI_add z 9) (by omega) (by omega)) ?_
  refine v_grd (inb_nI hj (by omega)) ?_
  have v9 : U.1 40 (nI z + 9).toNatClampNeg = T.1 40 (1161 * k + 15 * j + 9) := by rw [show (nI z + 9).toNatClampNeg = z + 9 from clz z 9 (by omega), h.r, hz, hbk]
  refine rs_w (k := 27) h (by rw [v9]; exact (hK.2.1 j hj).2.2.2.2.2.1) (by decide) rfl (fun U h => ?_)
  refine v_grd (inb_of (nI_add z 10) (by omega) (by omega)) ?_
  refine v_grd (inb_nI hj (by omega)) ?_
  refine rs_w (k := 30) h trivial (by decide) rfl (fun U h => ?_)
  refine v_grd (inb_of (nI_add z 11) (by omega) (by omega)) ?_
  refine v_i (fun q => ?_) (fun q => ?_)
  · exact rr_j209 h hK hbk hj hz hb kk
  · exact rr_j209 h hK hbk hj hz hb kk
end RSL
theorem rr_L275 {T : SS} {n k b : Nat} (hK : KO n (T.1 40) k) (hbk : b = 1161 * k) (hb : b + 1161 ≤ 18576) : ∀ (N p z : Nat) (U : SS), RSt T b 144 U → 40 < N + p → p ≤ 40 → z = b + 1080 + 2 * p → Ew (f_M_restore_L275 N (nI z) (nI p) U) (RSt T b 144)
  | 0, p, z, U, h, h1, h2, h3 => by omega
  | N + 1, p, z, U, h, h1, h2, h3 => by
    refine v_eq (f_M_restore_L275.eq_2 _ _ _ _) ?_
    refine v_i (fun q => ?_) (fun q => ?_)
    · refine v_grd (inb_nI (by omega) (by omega)) ?_
      refine v_wrO (fun V eV gV vV => ?_)
      refine v_some ⟨RO.st (k := 0) (i := 48) h.1 trivial eV, h.2.1.tr gV rfl, fun j => ?_⟩
      rw [gV.1 23 j rfl]
      exact h.2.2 j
    · have hp : p < 40 := by
        rcases Nat.lt_or_ge p 40 with e | e
        · exact e
        · exact absurd (nI_le (a := 40) e (by omega)) q
      refine v_grd (inb_nI (by omega) (by omega)) ?_
      refine v_grd (inb_nI hp (by omega)) ?_
      refine rs_w (k := 10) h (by rw [nI_clamp (n := z) (by omega), h.r, h3, hbk]; exact hK.2.2 p hp) (by decide) rfl (fun U h => ?_)
      refine v_grd (inb_of (nI_add z 1) (by omega) (by omega)) ?_
      refine v_grd (inb_nI hp (by omega)) ?_
      refine rs_w (k := 11) h trivial (by decide) rfl (fun U h => ?_)
      refine v_nm ?_
      refine v_nm ?_
      rw [show nI z + 2 = nI (z + 2) from nI_add z 2, show nI p + 1 = nI (p + 1) from nI_add p 1]
      exact rr_L275 hK hbk hb N (p + 1) (z + 2) U h (by omega) (by omega) (by omega)
theorem rr_L8 {T : SS} {n k b : Nat} (hK : KO n (T.1 40) k) (hbk : b = 1161 * k) (hb : b + 1161 ≤ 18576) : ∀ (N j z : Nat) (U : SS), RSt T b (2 * j) U → 72 < N + j → j ≤ 72 → z = b + 15 * j → Ew (f_M_restore_L8 N (nI z) (nI j) U) (RSt T b 144)
  | 0, j, z, U, h, h1, h2, h3 => by omega
  | N + 1, j, z, U, h, h1, h2, h3 => by
    refine v_eq (f_M_restore_L8.eq_2 _ _ _ _) ?_
    refine v_i (fun q => ?_) (fun q => ?_)
    · have hj : j = 72 := by
        rcases Nat.lt_or_ge j 72 with e | e
        · exact absurd q (nI_ge (b := 72) e (by omega))
        · omega
      subst hj
      exact rr_L275 hK hbk hb NF 0 z U h (by have : NF = 100000 := rfl; omega) (by omega) (by omega)
    · have hj : j < 72 := by
        rcases Nat.lt_or_ge j 72 with e | e
        · exact e
        · exact absurd (nI_le (a := 72) e (by omega)) q
      refine v_grd (inb_nI (by omega) (by omega)) ?_
      have kk : ∀ U, RSt T b (2 * (j + 1)) U → Ew (f_M_restore_L8 N (nI (z + 15)) (nI (j + 1)) U) (RSt T b 144) := fun U h => rr_L8 hK hbk hb N (j + 1) (z + 15) U h (by omega) (by omega) (by omega)
      refine v_i (fun q => ?_) (fun q => ?_)
      · exact rr_j34 (K8 := fun v0 v1 S => f_M_restore_L8 N v0 v1 S) h hK hbk hj h3 (by omega) kk
      · exact rr_j34 (K8 := fun v0 v1 S => f_M_restore_L8 N v0 v1 S) h hK hbk hj h3 (by omega) kk
theorem rr_restore {T : SS} {n k : Nat} (hR : RO T) (hK : KO n (T.1 40) k) (hk : k < 16) : Ew (f_M_restore (nI k) T) (RSt T (1161 * k) 144) := by
  refine v_eq (f_M_restore.eq_1 _ _) ?_
  refine v_nm ?_
  rw [show (1161 : Int32) * nI k = nI (1161 * k) from nI_mul 1161 k]
  have h0 : RSt T (1161 * k) (2 * 0) T := ⟨hR, Fr.rf, fun h => by rw [if_neg (by omega)]⟩
  exact rr_L8 hK rfl (by omega) NF 0 (1161 * k) T h0 (by have : NF = 100000 := rfl; omega) (by omega) (by omega)
/-- behind it: the world of place k, all else as it was -/
theorem RSt.J {T U : SS} {n k : Nat} (hn : n ≤ 72) (h : RSt T (1161 * k) 144 U) (hK : KO n (T.1 40) k) (h29 : T.1 0 29 = nI n) {u b : Nat} (hub : u + b ≤ 8) (h60 : T.1 0 60 = nI u) (h61 : T.1 0 61 = nI b) (h1 : ∀ s, s < u → KO n (T.1 40) s) (h2 : ∀ s, s < b → KO n (T.1 40) (8 + s)) (hJ2 : J2 T) : WR U := by
  have e40 : U.1 40 = T.1 40 := funext fun i => h.r i
  refine ⟨h.1, ⟨n, hn, (h.2.1.1 0 29 rfl).trans h29, ?_, u, b, hub, (h.2.1.1 0 60 rfl).trans h60, (h.2.1.1 0 61 rfl).trans h61, by rw [e40]; exact h1, by rw [e40]; exact h2⟩, hJ2.of (h.2.1.1 64 6 rfl) (h.2.1.1 64 7 rfl)⟩
  refine hK.1.congr (fun x s hx hs => ?_)
  rw [h.2.2, if_pos (by omega)]
theorem t_M_undo {S : SS} (hW : WR S) : Ex2 (f_M_undo S) (fun r U => WR U ∧ Fr [10, 11, 19, 20, 21, 22, 23, 24, 25, 26, 27, 30, 31, 32, 33, 34, 40] [(0, 48), (0, 60), (0, 61)] S U ∧ True) := by
  have hF : Fr [10, 11, 19, 20, 21, 22, 23, 24, 25, 26, 27, 30, 31, 32, 33, 34, 40] [(0, 48), (0, 60), (0, 61)] S S := Fr.rf
  obtain ⟨n, hn, h29, hA, u, b, hub, h60, h61, hK, hB⟩ := hW.2.1
  refine e_eq (f_M_undo.eq_1 _) ?_
  refine e_i (fun q => e_some ⟨hW, hF, trivial⟩) (fun q => ?_)
  have hu : 0 < u := by
    rcases Nat.eq_zero_or_pos u with e | e
    · exact absurd (by rw [h60, e]; rfl) q
    · exact e
  rw [h61, show (8 : Int32) + nI b = nI (8 + b) from nI_add 8 b]
  refine e_cV (sw_save S (k := 8 + b) (by omega)) (fun T hT => ?_)
  have f0 := hT.fr
  have hR0 := hW.1.ag hT
  have K1 : ∀ s, s < u → KO n (T.1 40) s := fun s hs => (hK s hs).congr hn (fun j hj => by rw [hT.2.2, if_neg (by omega)])
  have K2 : ∀ s, s < b + 1 → KO n (T.1 40) (8 + s) := fun s hs => by
    by_cases e : s = b
    · subst e; exact KO.new hn hW.1 hA hT
    · exact (hB s (by omega)).congr hn (fun j hj => by rw [hT.2.2, if_neg (by omega)])
  refine e_wrO (fun T2 e2 g2 v2 => ?_)
  rw [(f0.1 0 61 rfl).trans h61, nI_1] at e2 v2
  have R2 := RO.st (k := 0) (i := 61) hR0 (rg_nI (j := b + 1) (by omega) (by omega) (by omega)) e2
  refine e_wrO (fun T3 e3 g3 v3 => ?_)
  rw [(g2.1 0 60 rfl).trans ((f0.1 0 60 rfl).trans h60), show u = (u - 1) + 1 by omega, nI_pred] at e3 v3
  have R3 := RO.st (k := 0) (i := 60) R2 (rg_nI (j := u - 1) (by omega) (by omega) (by omega)) e3
  have e40 : T3.1 40 = T.1 40 := funext fun i => by rw [g3.1 40 i rfl, g2.1 40 i rfl]
  rw [v3]
  have KU : KO n (T3.1 40) (u - 1) := by rw [e40]; exact K1 _ (by omega)
  refine e_cV (rr_restore R3 KU (by omega)) (fun U hU => ?_)
  have hWU := hU.J hn KU (by rw [g3.1 0 29 rfl, g2.1 0 29 rfl, f0.1 0 29 rfl]; exact h29) (u := u - 1) (b := b + 1) (by omega) v3 ((g3.1 0 61 rfl).trans v2) (fun s hs => by rw [e40]; exact K1 s (by omega)) (fun s hs => by rw [e40]; exact K2 s hs) (hW.2.2.of (by rw [g3.1 64 6 rfl, g2.1 64 6 rfl, f0.1 64 6 rfl]) (by rw [g3.1 64 7 rfl, g2.1 64 7 rfl, f0.1 64 7 rfl]))
  exact e_some ⟨hWU, (((hF.tr f0 rfl).tr g2 rfl).tr g3 rfl).tr hU.2.1 rfl, trivial⟩
theorem t_M_back {S : SS} (hW : WR S) : Ex2 (f_M_back S) (fun r U => WR U ∧ Fr [10, 11, 19, 20, 21, 22, 23, 24, 25, 26, 27, 30, 31, 32, 33, 34, 40] [(0, 48), (0, 60), (0, 61)] S U ∧ True) := by
  have hF : Fr [10, 11, 19, 20, 21, 22, 23, 24, 25, 26, 27, 30, 31, 32, 33, 34, 40] [(0, 48), (0, 60), (0, 61)] S S := Fr.rf
  obtain ⟨n, hn, h29, hA, u, b, hub, h60, h61, hK, hB⟩ := hW.2.1
  refine e_eq (f_M_back.eq_1 _) ?_
  refine e_i (fun q => e_some ⟨hW, hF, trivial⟩) (fun q => ?_)
  have hb : 0 < b := by
    rcases Nat.eq_zero_or_pos b with e | e
    · exact absurd (by rw [h61, e]; rfl) q
    · exact e
  rw [h60]
  refine e_cV (sw_save S (k := u) (by omega)) (fun T hT => ?_)
  have f0 := hT.fr
  have hR0 := hW.1.ag hT
  have K1 : ∀ s, s < u + 1 → KO n (T.1 40) s := fun s hs => by
    by_cases e : s = u
    · subst e; exact KO.new hn hW.1 hA hT
    · exact (hK s (by omega)).congr hn (fun j hj => by rw [hT.2.2, if_neg (by omega)])
  have K2 : ∀ s, s < b → KO n (T.1 40) (8 + s) := fun s hs => (hB s hs).congr hn (fun j hj => by rw [hT.2.2, if_neg (by omega)])
  refine e_wrO (fun T2 e2 g2 v2 => ?_)
  rw [(f0.1 0 60 rfl).trans h60, nI_1] at e2 v2
  have R2 := RO.st (k := 0) (i := 60) hR0 (rg_nI (j := u + 1) (by omega) (by omega) (by omega)) e2
  refine e_wrO (fun T3 e3 g3 v3 => ?_)
  rw [(g2.1 0 61 rfl).trans ((f0.1 0 61 rfl).trans h61), show b = (b - 1) + 1 by omega, nI_pred] at e3 v3
  have R3 := RO.st (k := 0) (i := 61) R2 (rg_nI (j := b - 1) (by omega) (by omega) (by omega)) e3
  have e40 : T3.1 40 = T.1 40 := funext fun i => by rw [g3.1 40 i rfl, g2.1 40 i rfl]
  rw [v3, show (8 : Int32) + nI (b - 1) = nI (8 + (b - 1)) from nI_add 8 (b - 1)]
  have KU : KO n (T3.1 40) (8 + (b - 1)) := by rw [e40]; exact K2 _ (by omega)
  refine e_cV (rr_restore R3 KU (by omega)) (fun U hU => ?_)
  have hWU := hU.J hn KU (by rw [g3.1 0 29 rfl, g2.1 0 29 rfl, f0.1 0 29 rfl]; exact h29) (u := u + 1) (b := b - 1) (by omega) ((g3.1 0 60 rfl).trans v2) v3 (fun s hs => by rw [e40]; exact K1 s hs) (fun s hs => by rw [e40]; exact K2 s (by omega)) (hW.2.2.of (by rw [g3.1 64 6 rfl, g2.1 64 6 rfl, f0.1 64 6 rfl]) (by rw [g3.1 64 7 rfl, g2.1 64 7 rfl, f0.1 64 7 rfl]))
  exact e_some ⟨hWU, (((hF.tr f0 rfl).tr g2 rfl).tr g3 rfl).tr hU.2.1 rfl, trivial⟩
set_option maxRecDepth 20000 in
set_option maxHeartbeats 4000000 in
theorem t_M_digest_L192 {S0 : SS} : ∀ (n : Nat) (x1 : Int64) (x3 : Int32) (S : SS), WR S → Fr [] [] S0 S → rg x3 0 40 → 40 - x3.toInt < (n : Int) → Ex2 (f_M_digest_L192 n x1 x3 S) (fun _ U => WR U ∧ Fr [] [] S0 U ∧ True) := by
  intro n
  induction n with
  | zero =>
    intro x1 x3 S hW hF h1 hm
    exact up_0 h1 hm rfl
  | succ n ih =>
    intro x1 x3 S hW hF h1 hm
    refine e_eq (f_M_digest_L192.eq_2 _ _ _ _) ?_
    refine e_i (fun q1 => ?_) (fun q1 => ?_)
    · exact e_some ⟨hW, hF, trivial⟩
    · have f3 := nle_r 39 (ro_0_15 hW) h1 q1 rfl
      refine e_grd (inb_g f3 rfl) ?_
      refine e_nmG (fun w4 hw4 => ?_)
      refine e_grd (inb_g f3 rfl) ?_
      refine e_nmG (fun w5 hw5 => ?_)
      refine e_nmG (fun w6 hw6 => ?_)
      have f7 := rg_tr (rg_add 1 40 f3 (rgl (1) 1 1 rfl) rfl) hw6
      exact ih _ _ _ hW hF (f7.sub rfl) (up_s f3 hw6 hm rfl)
set_option maxRecDepth 20000 in
set_option maxHeartbeats 4000000 in
theorem t_M_digest_L6 {S0 : SS} : ∀ (n : Nat) (x1 : Int64) (x3 : Int32) (S : SS), WR S → Fr [] [] S0 S → rg x3 0 72 → 72 - x3.toInt < (n : Int) → Ex2 (f_M_digest_L6 n x1 x3 S) (fun _ U => WR U ∧ Fr [] [] S0 U ∧ True) := by
  intro n
  induction n with
  | zero =>
    intro x1 x3 S hW hF h1 hm
    exact up_0 h1 hm rfl
  | succ n ih =>
    intro x1 x3 S hW hF h1 hm
    refine e_eq (f_M_digest_L6.eq_2 _ _ _ _) ?_
    refine e_i (fun q1 => ?_) (fun q1 => ?_)
    · exact t_M_digest_L192  NF _ _ _ hW hF ((rgl (0) 0 0 rfl).sub rfl) (up_n (rgl (0) 0 0 rfl) rfl)
    · have f3 := nle_r 71 (ro_0_29 hW) h1 q1 rfl
      refine e_grd (inb_g f3 rfl) ?_
      refine e_i (fun q4 => ?_) (fun q4 => ?_)
      · refine e_nmG (fun w6 hw6 => ?_)
        refine e_eq (f_M_digest_j184.eq_1 _ _ _ _) ?_
        refine e_nmG (fun w7 hw7 => ?_)
        have f8 := rg_tr (rg_add 1 72 f3 (rgl (1) 1 1 rfl) rfl) hw7
        exact ih _ _ _ hW hF (f8.sub rfl) (up_s f3 hw7 hm rfl)
      · refine e_grd (inb_g f3 rfl) ?_
        refine e_grd (inb_g f3 rfl) ?_
        refine e_nmG (fun w10 hw10 => ?_)
        refine e_grd (inb_g f3 rfl) ?_
        refine e_nmG (fun w11 hw11 => ?_)
        refine e_grd (inb_g (rg_mul 0 142 (rgl (2) 2 2 rfl) f3 rfl) rfl) ?_
        refine e_nmG (fun w12 hw12 => ?_)
        refine e_grd (inb_g (rg_add 1 143 (rg_mul 0 142 (rgl (2) 2 2 rfl) f3 rfl) (rgl (1) 1 1 rfl) rfl) rfl) ?_
        refine e_nmG (fun w13 hw13 => ?_)
        refine e_grd (inb_g f3 rfl) ?_
        refine e_nmG (fun w14 hw14 => ?_)
        refine e_grd (inb_g f3 rfl) ?_
        refine e_nmG (fun w15 hw15 => ?_)
        refine e_grd (inb_g f3 rfl) ?_
        refine e_nmG (fun w16 hw16 => ?_)
        refine e_grd (inb_g f3 rfl) ?_
        refine e_nmG (fun w17 hw17 => ?_)
        refine e_grd (inb_g f3 rfl) ?_
        refine e_i (fun q18 => ?_) (fun q18 => ?_)
        · refine e_eq (f_M_digest_j181.eq_1 _ _ _ _ _) ?_
          refine e_nmG (fun w20 hw20 => ?_)
          refine e_eq (f_M_digest_j184.eq_1 _ _ _ _) ?_
          refine e_nmG (fun w21 hw21 => ?_)
          have f22 := rg_tr (rg_add 1 72 f3 (rgl (1) 1 1 rfl) rfl) hw21
          exact ih _ _ _ hW hF (f22.sub rfl) (up_s f3 hw21 hm rfl)
        · refine e_eq (f_M_digest_j181.eq_1 _ _ _ _ _) ?_
          refine e_nmG (fun w24 hw24 => ?_)
          refine e_eq (f_M_digest_j184.eq_1 _ _ _ _) ?_
          refine e_nmG (fun w25 hw25 => ?_)
          have f26 := rg_tr (rg_add 1 72 f3 (rgl (1) 1 1 rfl) rfl) hw25
          exact ih _ _ _ hW hF (f26.sub rfl) (up_s f3 hw25 hm rfl)
set_option maxRecDepth 20000 in
set_option maxHeartbeats 4000000 in
theorem t_M_digest {S : SS} (hW : WR S) : Ex2 (f_M_digest  S) (fun _ U => WR U ∧ Fr [] [] S U ∧ True) := by
  have hF : Fr [] [] S S := Fr.rf
  refine e_eq (f_M_digest.eq_1 _) ?_
  exact t_M_digest_L6  NF _ _ _ hW hF ((rgl (0) 0 0 rfl).sub rfl) (up_n (rgl (0) 0 0 rfl) rfl)
set_option maxRecDepth 20000 in
set_option maxHeartbeats 4000000 in
theorem t_M_has_M_startMany_M_startOn_L14 {S0 : SS} {K : Int32 → Int32 → Int32 → SS → Option (Int32 × SS)} {x4 : Int32} (hK : ∀ (k0 : Int32) (k1 : Int32) (k2 : Int32) (S' : SS), WR S' → Fr [] [] S0 S' → rg k1 0 1 → rg k2 0 4 → k2 = x4 + 1 → Ex2 (K k0 k1 k2 S') (fun r U => WR U ∧ Fr [] [] S0 U ∧ rg r 0 1)) : ∀ (n : Nat) (x2 : Int32) (x3 : Int32) (x5 : Int32) (S : SS), WR S → Fr [] [] S0 S → rg x3 0 1 → rg x4 0 3 → rg x5 0 10 → 10 - x5.toInt < (n : Int) → Ex2 (f_M_has_M_startMany_M_startOn_L14 K n x2 x3 x4 x5 S) (fun r U => WR U ∧ Fr [] [] S0 U ∧ rg r 0 1) := by
  intro n
  induction n with
  | zero =>
    intro x2 x3 x5 S hW hF h1 h2 h3 hm
    exact up_0 h3 hm rfl
  | succ n ih =>
    intro x2 x3 x5 S hW hF h1 h2 h3 hm
    refine e_eq (f_M_has_M_startMany_M_startOn_L14.eq_2 _ _ _ _ _ _ _) ?_
    refine e_grd (inb_g h2 rfl) ?_
    refine e_i (fun q1 => ?_) (fun q1 => ?_)
    · refine e_nmG (fun w2 hw2 => ?_)
      have f3 := rg_tr (rg_add 1 4 h2 (rgl (1) 1 1 rfl) rfl) hw2
      exact hK _ _ _ _ hW hF h1 (f3.sub rfl) hw2
    · have f5 := nle_r 9 (ro_47 hW _) h3 q1 rfl
      refine e_i (fun q6 => ?_) (fun q6 => ?_)
      · refine e_grd (inb_g (rg_add 0 39 (rg_mul 0 30 (rgl (10) 10 10 rfl) h2 rfl) f5 rfl) rfl) ?_
        refine e_i (fun q8 => ?_) (fun q8 => ?_)
        · refine e_eq (f_M_has_M_startMany_M_startOn_j41.eq_1 _ _ _ _ _) ?_
          refine e_eq (f_M_has_M_startMany_M_startOn_j46.eq_1 _ _ _ _ _ _) ?_
          refine e_nmG (fun w10 hw10 => ?_)
          have f11 := rg_tr (rg_add 1 10 f5 (rgl (1) 1 1 rfl) rfl) hw10
          exact ih _ _ _ _ hW hF ((rgl (1) 1 1 rfl).sub rfl) h2 (f11.sub rfl) (up_s f5 hw10 hm rfl)
        · refine e_eq (f_M_has_M_startMany_M_startOn_j46.eq_1 _ _ _ _ _ _) ?_
          refine e_nmG (fun w12 hw12 => ?_)
          have f13 := rg_tr (rg_add 1 10 f5 (rgl (1) 1 1 rfl) rfl) hw12
          exact ih _ _ _ _ hW hF ((rgl (0) 0 0 rfl).sub rfl) h2 (f13.sub rfl) (up_s f5 hw12 hm rfl)
      · refine e_eq (f_M_has_M_startMany_M_startOn_j41.eq_1 _ _ _ _ _) ?_
        refine e_eq (f_M_has_M_startMany_M_startOn_j46.eq_1 _ _ _ _ _ _) ?_
        refine e_nmG (fun w15 hw15 => ?_)
        have f16 := rg_tr (rg_add 1 10 f5 (rgl (1) 1 1 rfl) rfl) hw15
        exact ih _ _ _ _ hW hF ((rgl (1) 1 1 rfl).sub rfl) h2 (f16.sub rfl) (up_s f5 hw15 hm rfl)
set_option maxRecDepth 20000 in
set_option maxHeartbeats 4000000 in
theorem t_M_has_M_startMany_M_startOn_L5 {S0 : SS} : ∀ (n : Nat) (x2 : Int32) (x3 : Int32) (x4 : Int32) (S : SS), WR S → Fr [] [] S0 S → rg x3 0 1 → rg x4 0 4 → 4 - x4.toInt < (n : Int) → Ex2 (f_M_has_M_startMany_M_startOn_L5 n x2 x3 x4 S) (fun r U => WR U ∧ Fr [] [] S0 U ∧ rg r 0 1) := by
  intro n
  induction n with
  | zero =>
    intro x2 x3 x4 S hW hF h1 h2 hm
    exact up_0 h2 hm rfl
  | succ n ih =>
    intro x2 x3 x4 S hW hF h1 h2 hm
    refine e_eq (f_M_has_M_startMany_M_startOn_L5.eq_2 _ _ _ _ _) ?_
    refine e_i (fun q1 => ?_) (fun q1 => ?_)
    · refine e_grd (isB_g h1 rfl) ?_
      exact e_some ⟨hW, hF, h1⟩
    · have f3 := nle_r 3 (rgl (4) 4 4 rfl) h2 q1 rfl
      exact t_M_has_M_startMany_M_startOn_L14 (fun _ _ _ S' hW' hF' hk1 hk2 ke => ih _ _ _ S' hW' hF' hk1 hk2 (up_s f3 ke hm rfl)) NF _ _ _ _ hW hF h1 f3 ((rgl (0) 0 0 rfl).sub rfl) (up_n (rgl (0) 0 0 rfl) rfl)
set_option maxRecDepth 20000 in
set_option maxHeartbeats 4000000 in
theorem t_M_has_M_startMany_M_startOn {a2 : Int32} {S : SS} (hW : WR S) : Ex2 (f_M_has_M_startMany_M_startOn a2 S) (fun r U => WR U ∧ Fr [] [] S U ∧ rg r 0 1) := by
  have hF : Fr [] [] S S := Fr.rf
  refine e_eq (f_M_has_M_startMany_M_startOn.eq_1 _ _) ?_
  exact t_M_has_M_startMany_M_startOn_L5  NF _ _ _ _ hW hF ((rgl (0) 0 0 rfl).sub rfl) ((rgl (0) 0 0 rfl).sub rfl) (up_n (rgl (0) 0 0 rfl) rfl)
