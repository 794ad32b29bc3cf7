set_option maxRecDepth 20000 in
set_option maxHeartbeats 4000000 in
theorem t_M_missCouple {a1 : Int32} {a2 : Int32} {S : SS} (hW : WR S) : Ex2 (f_M_missCouple a1 a2 S) (fun r U => WR U ∧ Fr [2, 39] [(0, 5), (0, 26), (0, 27), (0, 28), (0, 56), (0, 57), (0, 58), (0, 66), (0, 67)] S U ∧ rg r 0 16 ∧ (r = 0 → rg a1 0 71 ∧ rg a2 0 1 ∧ ¬ U.1 0 29 ≤ a1)) := by
  have hF : Fr [2, 39] [(0, 5), (0, 26), (0, 27), (0, 28), (0, 56), (0, 57), (0, 58), (0, 66), (0, 67)] S S := Fr.rf
  refine e_eq (f_M_missCouple.eq_1 _ _ _) ?_
  refine e_bnd ?_
  refine e_eq (f_M_missSide.eq_1 _ _ _ _) ?_
  refine e_bnd ?_
  refine e_eq (f_M_missThing.eq_1 _ _ _) ?_
  refine e_i (fun q1 => ?_) (fun q1 => ?_)
  · refine e_some ?_
    refine e_f (by decide) ?_
    refine e_some ?_
    refine e_f (by decide) ?_
    exact e_some ⟨hW, hF, ((rgl (3) 3 3 rfl).sub rfl), fun e => absurd e (d_ne (rgl (3) 3 3 rfl) (rgl 0 0 0 rfl) rfl)⟩
  · have f3 := nlt_l (rgt _) (rgl 0 0 0 rfl) q1
    refine e_i (fun q4 => ?_) (fun q4 => ?_)
    · have f5 := lt_l 71 f3 (rgl (72) 72 72 rfl) q4 rfl
      refine e_i (fun q6 => ?_) (fun q6 => ?_)
      · refine e_some ?_
        refine e_f (by decide) ?_
        refine e_some ?_
        refine e_f (by decide) ?_
        exact e_some ⟨hW, hF, ((rgl (1) 1 1 rfl).sub rfl), fun e => absurd e (d_ne (rgl (1) 1 1 rfl) (rgl 0 0 0 rfl) rfl)⟩
      · refine e_grd (inb_g f5 rfl) ?_
        refine e_i (fun q9 => ?_) (fun q9 => ?_)
        · refine e_some ?_
          refine e_f (by decide) ?_
          refine e_some ?_
          refine e_f (by decide) ?_
          exact e_some ⟨hW, hF, ((rgl (1) 1 1 rfl).sub rfl), fun e => absurd e (d_ne (rgl (1) 1 1 rfl) (rgl 0 0 0 rfl) rfl)⟩
        · refine e_bnd ?_
          refine e_eq (f_M_isSuch.eq_1 _ _ _) ?_
          refine e_grd (inb_g f5 rfl) ?_
          refine e_nmG (fun w12 hw12 => ?_)
          refine e_f (by decide) ?_
          refine e_f (by decide) ?_
          refine e_f (by decide) ?_
          refine e_f (by decide) ?_
          refine e_some ?_
          refine e_f (by decide) ?_
          refine e_some ?_
          refine e_t (by decide) ?_
          refine e_bnd ?_
          refine e_eq (f_M_isSide.eq_1 _ _) ?_
          refine e_i (fun q13 => ?_) (fun q13 => ?_)
          · have f14 := rg_tr (rgl 0 0 0 rfl) q13
            refine e_some ?_
            refine e_f (by decide) ?_
            refine e_some ?_
            refine e_t (by decide) ?_
            refine e_grd (inb_g (rg_add 0 142 (rg_mul 0 142 (rgl (2) 2 2 rfl) f5 rfl) f14 rfl) rfl) ?_
            refine e_i (fun q15 => ?_) (fun q15 => ?_)
            · refine e_grd (inb_g f5 rfl) ?_
              refine e_i (fun q17 => ?_) (fun q17 => ?_)
              · refine e_grd (inb_g f5 rfl) ?_
                refine e_grd (inb_g f5 rfl) ?_
                refine e_bnd ?_
                refine e_eq (f_M_wayOf.eq_1 _ _ _) ?_
                refine e_t q13 ?_
                refine e_grd (inb_g f5 rfl) ?_
                refine e_someG (fun w19 hw19 => ?_)
                have f20 := rg_tr (ro_22 hW _) hw19
                refine e_cE (t_M_isOpen hW (ro_20 hW _) f20) (fun u21 T21 p21 => ?_)
                obtain ⟨hW21, hT21, hr21⟩ := p21
                have hF21 := hF.tr hT21 rfl
                have m26 := lm_tr q6 (hT21.1 0 29 rfl)
                refine e_i (fun q27 => ?_) (fun q27 => ?_)
                · exact e_some ⟨hW21, hF21, ((rgl (10) 10 10 rfl).sub rfl), fun e => absurd e (d_ne (rgl (10) 10 10 rfl) (rgl 0 0 0 rfl) rfl)⟩
                · refine e_cE (t_M_standing hW21) (fun u30 T30 p30 => ?_)
                  obtain ⟨-, hT30, hr30⟩ := p30
                  have eT30 := (fr_nil hT30).symm
                  subst eT30
                  refine e_i (fun q31 => ?_) (fun q31 => ?_)
                  · exact e_some ⟨hW21, hF21, ((rgl (1) 1 1 rfl).sub rfl), fun e => absurd e (d_ne (rgl (1) 1 1 rfl) (rgl 0 0 0 rfl) rfl)⟩
                  · have f33 := rn.ne hr30 q31
                    refine e_grd (inb_g f33 rfl) ?_
                    refine e_i (fun q34 => ?_) (fun q34 => ?_)
                    · refine e_wrO (fun T36 eT36 hT36 v36 => ?_)
                      have hW36 := wo_0_66 hW21 f33 eT36
                      have hF36 := hF21.tr hT36 rfl
                      have m42 := lm_tr m26 (hT36.1 0 29 rfl)
                      refine e_grd (inb_g f33 rfl) ?_
                      refine e_i (fun q44 => ?_) (fun q44 => ?_)
                      · refine e_eq (f_M_missCouple_j136.eq_1 _ _ _ _) ?_
                        refine e_wrO (fun T45 eT45 hT45 v45 => ?_)
                        have hW45 := wo_0_67 hW36 ((rgl (0) 0 0 rfl).sub rfl) eT45
                        have hF45 := hF36.tr hT45 rfl
                        have m52 := lm_tr m42 (hT45.1 0 29 rfl)
                        have f53 := rg_tr (rgl (0) 0 0 rfl) v45
                        refine e_grd (inb_g (rg_add 0 142 (rg_mul 0 142 (rgl (2) 2 2 rfl) f33 rfl) f53 rfl) rfl) ?_
                        refine e_i (fun q54 => ?_) (fun q54 => ?_)
                        · refine e_cE (t_M_areTogether hW45 f5 m52) (fun u56 T56 p56 => ?_)
                          obtain ⟨hW56, hT56, hr56⟩ := p56
                          have hF56 := hF45.tr hT56 rfl
                          have m64 := lm_tr m52 (hT56.1 0 29 rfl)
                          refine e_i (fun q65 => ?_) (fun q65 => ?_)
                          · refine e_cE (t_M_suits hW56 f5 f33) (fun u67 T67 p67 => ?_)
                            obtain ⟨hW67, hT67, hr67⟩ := p67
                            have hF67 := hF56.tr hT67 rfl
                            have m75 := lm_tr m64 (hT67.1 0 29 rfl)
                            refine e_i (fun q76 => ?_) (fun q76 => ?_)
                            · exact e_some ⟨hW67, hF67, ((rgl (13) 13 13 rfl).sub rfl), fun e => absurd e (d_ne (rgl (13) 13 13 rfl) (rgl 0 0 0 rfl) rfl)⟩
                            · refine e_cE (t_M_suits hW67 f33 f5) (fun u79 T79 p79 => ?_)
                              obtain ⟨hW79, hT79, hr79⟩ := p79
                              have hF79 := hF67.tr hT79 rfl
                              have m87 := lm_tr m75 (hT79.1 0 29 rfl)
                              refine e_i (fun q88 => ?_) (fun q88 => ?_)
                              · exact e_some ⟨hW79, hF79, ((rgl (13) 13 13 rfl).sub rfl), fun e => absurd e (d_ne (rgl (13) 13 13 rfl) (rgl 0 0 0 rfl) rfl)⟩
                              · exact e_some ⟨hW79, hF79, ((rgl (0) 0 0 rfl).sub rfl), fun _ => ⟨f5, (f14.sub rfl), m87⟩⟩
                          · exact e_some ⟨hW56, hF56, ((rgl (14) 14 14 rfl).sub rfl), fun e => absurd e (d_ne (rgl (14) 14 14 rfl) (rgl 0 0 0 rfl) rfl)⟩
                        · exact e_some ⟨hW45, hF45, ((rgl (14) 14 14 rfl).sub rfl), fun e => absurd e (d_ne (rgl (14) 14 14 rfl) (rgl 0 0 0 rfl) rfl)⟩
                      · refine e_eq (f_M_missCouple_j136.eq_1 _ _ _ _) ?_
                        refine e_wrO (fun T93 eT93 hT93 v93 => ?_)
                        have hW93 := wo_0_67 hW36 ((rgl (1) 1 1 rfl).sub rfl) eT93
                        have hF93 := hF36.tr hT93 rfl
                        have m100 := lm_tr m42 (hT93.1 0 29 rfl)
                        have f101 := rg_tr (rgl (1) 1 1 rfl) v93
                        refine e_grd (inb_g (rg_add 1 143 (rg_mul 0 142 (rgl (2) 2 2 rfl) f33 rfl) f101 rfl) rfl) ?_
                        refine e_i (fun q102 => ?_) (fun q102 => ?_)
                        · refine e_cE (t_M_areTogether hW93 f5 m100) (fun u104 T104 p104 => ?_)
                          obtain ⟨hW104, hT104, hr104⟩ := p104
                          have hF104 := hF93.tr hT104 rfl
                          have m112 := lm_tr m100 (hT104.1 0 29 rfl)
                          refine e_i (fun q113 => ?_) (fun q113 => ?_)
                          · refine e_cE (t_M_suits hW104 f5 f33) (fun u115 T115 p115 => ?_)
                            obtain ⟨hW115, hT115, hr115⟩ := p115
                            have hF115 := hF104.tr hT115 rfl
                            have m123 := lm_tr m112 (hT115.1 0 29 rfl)
                            refine e_i (fun q124 => ?_) (fun q124 => ?_)
                            · exact e_some ⟨hW115, hF115, ((rgl (13) 13 13 rfl).sub rfl), fun e => absurd e (d_ne (rgl (13) 13 13 rfl) (rgl 0 0 0 rfl) rfl)⟩
                            · refine e_cE (t_M_suits hW115 f33 f5) (fun u127 T127 p127 => ?_)
                              obtain ⟨hW127, hT127, hr127⟩ := p127
                              have hF127 := hF115.tr hT127 rfl
                              have m135 := lm_tr m123 (hT127.1 0 29 rfl)
                              refine e_i (fun q136 => ?_) (fun q136 => ?_)
                              · exact e_some ⟨hW127, hF127, ((rgl (13) 13 13 rfl).sub rfl), fun e => absurd e (d_ne (rgl (13) 13 13 rfl) (rgl 0 0 0 rfl) rfl)⟩
                              · exact e_some ⟨hW127, hF127, ((rgl (0) 0 0 rfl).sub rfl), fun _ => ⟨f5, (f14.sub rfl), m135⟩⟩
                          · exact e_some ⟨hW104, hF104, ((rgl (14) 14 14 rfl).sub rfl), fun e => absurd e (d_ne (rgl (14) 14 14 rfl) (rgl 0 0 0 rfl) rfl)⟩
                        · exact e_some ⟨hW93, hF93, ((rgl (14) 14 14 rfl).sub rfl), fun e => absurd e (d_ne (rgl (14) 14 14 rfl) (rgl 0 0 0 rfl) rfl)⟩
                    · exact e_some ⟨hW21, hF21, ((rgl (16) 16 16 rfl).sub rfl), fun e => absurd e (d_ne (rgl (16) 16 16 rfl) (rgl 0 0 0 rfl) rfl)⟩
              · exact e_some ⟨hW, hF, ((rgl (16) 16 16 rfl).sub rfl), fun e => absurd e (d_ne (rgl (16) 16 16 rfl) (rgl 0 0 0 rfl) rfl)⟩
            · exact e_some ⟨hW, hF, ((rgl (14) 14 14 rfl).sub rfl), fun e => absurd e (d_ne (rgl (14) 14 14 rfl) (rgl 0 0 0 rfl) rfl)⟩
          · refine e_i (fun q144 => ?_) (fun q144 => ?_)
            · have f145 := rg_tr (rgl (1) 1 1 rfl) q144
              refine e_some ?_
              refine e_f (by decide) ?_
              refine e_some ?_
              refine e_t (by decide) ?_
              refine e_grd (inb_g (rg_add 1 143 (rg_mul 0 142 (rgl (2) 2 2 rfl) f5 rfl) f145 rfl) rfl) ?_
              refine e_i (fun q146 => ?_) (fun q146 => ?_)
              · refine e_grd (inb_g f5 rfl) ?_
                refine e_i (fun q148 => ?_) (fun q148 => ?_)
                · refine e_grd (inb_g f5 rfl) ?_
                  refine e_grd (inb_g f5 rfl) ?_
                  refine e_bnd ?_
                  refine e_eq (f_M_wayOf.eq_1 _ _ _) ?_
                  refine e_f q13 ?_
                  refine e_grd (inb_g f5 rfl) ?_
                  refine e_someG (fun w150 hw150 => ?_)
                  have f151 := rg_tr (rg_sb 0 1 (rgl (1) 1 1 rfl) (ro_22 hW _) rfl) hw150
                  refine e_cE (t_M_isOpen hW (ro_20 hW _) f151) (fun u152 T152 p152 => ?_)
                  obtain ⟨hW152, hT152, hr152⟩ := p152
                  have hF152 := hF.tr hT152 rfl
                  have m157 := lm_tr q6 (hT152.1 0 29 rfl)
                  refine e_i (fun q158 => ?_) (fun q158 => ?_)
                  · exact e_some ⟨hW152, hF152, ((rgl (10) 10 10 rfl).sub rfl), fun e => absurd e (d_ne (rgl (10) 10 10 rfl) (rgl 0 0 0 rfl) rfl)⟩
                  · refine e_cE (t_M_standing hW152) (fun u161 T161 p161 => ?_)
                    obtain ⟨-, hT161, hr161⟩ := p161
                    have eT161 := (fr_nil hT161).symm
                    subst eT161
                    refine e_i (fun q162 => ?_) (fun q162 => ?_)
                    · exact e_some ⟨hW152, hF152, ((rgl (1) 1 1 rfl).sub rfl), fun e => absurd e (d_ne (rgl (1) 1 1 rfl) (rgl 0 0 0 rfl) rfl)⟩
                    · have f164 := rn.ne hr161 q162
                      refine e_grd (inb_g f164 rfl) ?_
                      refine e_i (fun q165 => ?_) (fun q165 => ?_)
                      · refine e_wrO (fun T167 eT167 hT167 v167 => ?_)
                        have hW167 := wo_0_66 hW152 f164 eT167
                        have hF167 := hF152.tr hT167 rfl
                        have m173 := lm_tr m157 (hT167.1 0 29 rfl)
                        refine e_grd (inb_g f164 rfl) ?_
                        refine e_i (fun q175 => ?_) (fun q175 => ?_)
                        · refine e_eq (f_M_missCouple_j136.eq_1 _ _ _ _) ?_
                          refine e_wrO (fun T176 eT176 hT176 v176 => ?_)
                          have hW176 := wo_0_67 hW167 ((rgl (0) 0 0 rfl).sub rfl) eT176
                          have hF176 := hF167.tr hT176 rfl
                          have m183 := lm_tr m173 (hT176.1 0 29 rfl)
                          have f184 := rg_tr (rgl (0) 0 0 rfl) v176
                          refine e_grd (inb_g (rg_add 0 142 (rg_mul 0 142 (rgl (2) 2 2 rfl) f164 rfl) f184 rfl) rfl) ?_
                          refine e_i (fun q185 => ?_) (fun q185 => ?_)
                          · refine e_cE (t_M_areTogether hW176 f5 m183) (fun u187 T187 p187 => ?_)
                            obtain ⟨hW187, hT187, hr187⟩ := p187
                            have hF187 := hF176.tr hT187 rfl
                            have m195 := lm_tr m183 (hT187.1 0 29 rfl)
                            refine e_i (fun q196 => ?_) (fun q196 => ?_)
                            · refine e_cE (t_M_suits hW187 f5 f164) (fun u198 T198 p198 => ?_)
                              obtain ⟨hW198, hT198, hr198⟩ := p198
                              have hF198 := hF187.tr hT198 rfl
                              have m206 := lm_tr m195 (hT198.1 0 29 rfl)
                              refine e_i (fun q207 => ?_) (fun q207 => ?_)
                              · exact e_some ⟨hW198, hF198, ((rgl (13) 13 13 rfl).sub rfl), fun e => absurd e (d_ne (rgl (13) 13 13 rfl) (rgl 0 0 0 rfl) rfl)⟩
                              · refine e_cE (t_M_suits hW198 f164 f5) (fun u210 T210 p210 => ?_)
                                obtain ⟨hW210, hT210, hr210⟩ := p210
                                have hF210 := hF198.tr hT210 rfl
                                have m218 := lm_tr m206 (hT210.1 0 29 rfl)
                                refine e_i (fun q219 => ?_) (fun q219 => ?_)
                                · exact e_some ⟨hW210, hF210, ((rgl (13) 13 13 rfl).sub rfl), fun e => absurd e (d_ne (rgl (13) 13 13 rfl) (rgl 0 0 0 rfl) rfl)⟩
                                · exact e_some ⟨hW210, hF210, ((rgl (0) 0 0 rfl).sub rfl), fun _ => ⟨f5, (f145.sub rfl), m218⟩⟩
                            · exact e_some ⟨hW187, hF187, ((rgl (14) 14 14 rfl).sub rfl), fun e => absurd e (d_ne (rgl (14) 14 14 rfl) (rgl 0 0 0 rfl) rfl)⟩
                          · exact e_some ⟨hW176, hF176, ((rgl (14) 14 14 rfl).sub rfl), fun e => absurd e (d_ne (rgl (14) 14 14 rfl) (rgl 0 0 0 rfl) rfl)⟩
                        · refine e_eq (f_M_missCouple_j136.eq_1 _ _ _ _) ?_
                          refine e_wrO (fun T224 eT224 hT224 v224 => ?_)
                          have hW224 := wo_0_67 hW167 ((rgl (1) 1 1 rfl).sub rfl) eT224
                          have hF224 := hF167.tr hT224 rfl
                          have m231 := lm_tr m173 (hT224.1 0 29 rfl)
                          have f232 := rg_tr (rgl (1) 1 1 rfl) v224
                          refine e_grd (inb_g (rg_add 1 143 (rg_mul 0 142 (rgl (2) 2 2 rfl) f164 rfl) f232 rfl) rfl) ?_
                          refine e_i (fun q233 => ?_) (fun q233 => ?_)
                          · refine e_cE (t_M_areTogether hW224 f5 m231) (fun u235 T235 p235 => ?_)
                            obtain ⟨hW235, hT235, hr235⟩ := p235
                            have hF235 := hF224.tr hT235 rfl
                            have m243 := lm_tr m231 (hT235.1 0 29 rfl)
                            refine e_i (fun q244 => ?_) (fun q244 => ?_)
                            · refine e_cE (t_M_suits hW235 f5 f164) (fun u246 T246 p246 => ?_)
                              obtain ⟨hW246, hT246, hr246⟩ := p246
                              have hF246 := hF235.tr hT246 rfl
                              have m254 := lm_tr m243 (hT246.1 0 29 rfl)
                              refine e_i (fun q255 => ?_) (fun q255 => ?_)
                              · exact e_some ⟨hW246, hF246, ((rgl (13) 13 13 rfl).sub rfl), fun e => absurd e (d_ne (rgl (13) 13 13 rfl) (rgl 0 0 0 rfl) rfl)⟩
                              · refine e_cE (t_M_suits hW246 f164 f5) (fun u258 T258 p258 => ?_)
                                obtain ⟨hW258, hT258, hr258⟩ := p258
                                have hF258 := hF246.tr hT258 rfl
                                have m266 := lm_tr m254 (hT258.1 0 29 rfl)
                                refine e_i (fun q267 => ?_) (fun q267 => ?_)
                                · exact e_some ⟨hW258, hF258, ((rgl (13) 13 13 rfl).sub rfl), fun e => absurd e (d_ne (rgl (13) 13 13 rfl) (rgl 0 0 0 rfl) rfl)⟩
                                · exact e_some ⟨hW258, hF258, ((rgl (0) 0 0 rfl).sub rfl), fun _ => ⟨f5, (f145.sub rfl), m266⟩⟩
                            · exact e_some ⟨hW235, hF235, ((rgl (14) 14 14 rfl).sub rfl), fun e => absurd e (d_ne (rgl (14) 14 14 rfl) (rgl 0 0 0 rfl) rfl)⟩
                          · exact e_some ⟨hW224, hF224, ((rgl (14) 14 14 rfl).sub rfl), fun e => absurd e (d_ne (rgl (14) 14 14 rfl) (rgl 0 0 0 rfl) rfl)⟩
                      · exact e_some ⟨hW152, hF152, ((rgl (16) 16 16 rfl).sub rfl), fun e => absurd e (d_ne (rgl (16) 16 16 rfl) (rgl 0 0 0 rfl) rfl)⟩
                · exact e_some ⟨hW, hF, ((rgl (16) 16 16 rfl).sub rfl), fun e => absurd e (d_ne (rgl (16) 16 16 rfl) (rgl 0 0 0 rfl) rfl)⟩
              · exact e_some ⟨hW, hF, ((rgl (14) 14 14 rfl).sub rfl), fun e => absurd e (d_ne (rgl (14) 14 14 rfl) (rgl 0 0 0 rfl) rfl)⟩
            · refine e_some ?_
              refine e_t (by decide) ?_
              refine e_some ?_
              refine e_f (by decide) ?_
              exact e_some ⟨hW, hF, ((rgl (3) 3 3 rfl).sub rfl), fun e => absurd e (d_ne (rgl (3) 3 3 rfl) (rgl 0 0 0 rfl) rfl)⟩
    · refine e_some ?_
      refine e_f (by decide) ?_
      refine e_some ?_
      refine e_f (by decide) ?_
      exact e_some ⟨hW, hF, ((rgl (3) 3 3 rfl).sub rfl), fun e => absurd e (d_ne (rgl (3) 3 3 rfl) (rgl 0 0 0 rfl) rfl)⟩
set_option maxRecDepth 20000 in
set_option maxHeartbeats 4000000 in
theorem t_M_renumber_L17 {S0 : SS} : ∀ (n : Nat) (x2 : Int32) (S : SS), WR S → Fr [24, 34, 39] [(0, 49), (0, 56), (0, 57), (0, 58)] S0 S → rg x2 0 72 → 72 - x2.toInt < (n : Int) → Ew (f_M_renumber_L17 n x2 S) (fun U => WR U ∧ Fr [24, 34, 39] [(0, 49), (0, 56), (0, 57), (0, 58)] S0 U) := by
  intro n
  induction n with
  | zero =>
    intro x2 S hW hF h0 hm
    exact up_0 h0 hm rfl
  | succ n ih =>
    intro x2 S hW hF h0 hm
    refine v_eq (f_M_renumber_L17.eq_2 _ _ _) ?_
    refine v_i (fun q1 => ?_) (fun q1 => ?_)
    · exact v_some ⟨hW, hF⟩
    · have f3 := nle_r 71 (ro_0_56 hW) h0 q1 rfl
      refine v_grd (inb_g f3 rfl) ?_
      refine v_grd (inb_g (ro_39 hW _) rfl) ?_
      refine v_wrA (fun T4 eT4 hT4 v4 => ?_)
      have hW4 := WR.st (k := 24) hW trivial rfl eT4
      have hF4 := hF.tr hT4 rfl
      refine v_grd (inb_g f3 rfl) ?_
      refine v_grd (inb_g (ro_39 hW4 _) rfl) ?_
      refine v_wrA (fun T6 eT6 hT6 v6 => ?_)
      have hW6 := wo_34 hW4 (and1 _) eT6
      have hF6 := hF4.tr hT6 rfl
      refine v_nmG (fun w9 hw9 => ?_)
      have f10 := rg_tr (rg_add 1 72 f3 (rgl (1) 1 1 rfl) rfl) hw9
      exact ih _ _ hW6 hF6 (f10.sub rfl) (up_s f3 hw9 hm rfl)
set_option maxRecDepth 20000 in
set_option maxHeartbeats 4000000 in
theorem t_M_renumber {a1 : Int32} {S : SS} (hW : WR S) (h0 : rg a1 0 71) (hl0 : ¬ S.1 0 29 ≤ a1) : Ew (f_M_renumber a1 S) (fun U => WR U ∧ Fr [24, 34, 39] [(0, 49), (0, 56), (0, 57), (0, 58)] S U) := by
  have hF : Fr [24, 34, 39] [(0, 49), (0, 56), (0, 57), (0, 58)] S S := Fr.rf
  refine v_eq (f_M_renumber.eq_1 _ _) ?_
  refine v_wrO (fun T1 eT1 hT1 v1 => ?_)
  have hW1 := WR.st (k := 0) (i := 49) hW trivial rfl eT1
  have hF1 := hF.tr hT1 rfl
  have m2 := lm_tr hl0 (hT1.1 0 29 rfl)
  refine v_cV (t_M_lineUp hW1 h0 m2) (fun T3 p3 => ?_)
  obtain ⟨hW3, hT3, hr3⟩ := p3
  have hF3 := hF1.tr hT3 rfl
  exact t_M_renumber_L17  NF _ _ hW3 hF3 ((rgl (0) 0 0 rfl).sub rfl) (up_n (rgl (0) 0 0 rfl) rfl)
theorem ends0 (S : SS) : f_M_ends 0 S = some (0, S) := by
  rw [f_M_ends.eq_1, if_pos rfl, f_M_ends_j10.eq_1, if_pos rfl]
theorem endsN {a : Int32} {S : SS} (hW : WR S) (h : rg a 0 17) (q : ¬ a = 0) : Ex2 (f_M_ends a S) (fun r U => r = 1 ∧ WR U ∧ Fr [1] [(0, 0)] S U) := by
  refine e_eq (f_M_ends.eq_1 _ _) ?_
  refine e_f q ?_
  refine e_cE (t_M_found hW h) (fun r T p => ?_)
  refine e_eq (f_M_ends_j10.eq_1 _ _) ?_
  refine e_f q ?_
  exact e_some ⟨rfl, p.1, p.2.1⟩
/-- couplings change, nothing that is kept does -/
theorem J1.c {S T : SS} (h : J1 S) (hA : ∀ n, n ≤ 72 → S.1 0 29 = nI n → AC n (S.1 23) → AC n (T.1 23)) (e40 : ∀ b, T.1 40 b = S.1 40 b) (e1 : T.1 0 29 = S.1 0 29) (e2 : T.1 0 60 = S.1 0 60) (e3 : T.1 0 61 = S.1 0 61) : J1 T := by
  obtain ⟨n, hn, h29, hAC, u, b, hub, h60, h61, hK, hB⟩ := h
  have e40 : T.1 40 = S.1 40 := funext e40
  exact ⟨n, hn, e1.trans h29, hA n hn h29 hAC, u, b, hub, e2.trans h60, e3.trans h61, by rw [e40]; exact hK, by rw [e40]; exact hB⟩
theorem nI_lm {S : SS} {n x : Nat} (h : S.1 0 29 = nI n) (hn : n ≤ 72) (hx : x < n) : ¬ S.1 0 29 ≤ nI x := by
  rw [h]; exact nI_ge hx (by omega)
theorem us_L2 {S0 : SS} : ∀ (n : Nat) (x1 : Int32) (x2 : Int32) (x3 : Int32) (S : SS), WR S → Fr [] [] S0 S → rg x3 0 72 → 72 - x3.toInt < (n : Int) → Ex2 (f_M_standing_L2 n x1 x2 x3 S) (fun r U => WR U ∧ Fr [] [] S0 U ∧ rn r 0 71 ∧ (¬ r = -4 → ¬ U.1 0 29 ≤ r)) := by
  intro n
  induction n with
  | zero =>
    intro x1 x2 x3 S hW hF h2 hm
    exact up_0 h2 hm rfl
  | succ n ih =>
    intro x1 x2 x3 S hW hF h2 hm
    refine e_eq (f_M_standing_L2.eq_2 _ _ _ _ _) ?_
    refine e_i (fun q1 => ?_) (fun q1 => ?_)
    · exact e_some ⟨hW, hF, rn4l 0 71, fun e => absurd rfl e⟩
    · have f3 := nle_r 71 (ro_0_29 hW) h2 q1 rfl
      have kk : ∀ z, z = x3 + 1 → Ex2 (f_M_standing_L2 n x1 x2 z S) (fun r U => WR U ∧ Fr [] [] S0 U ∧ rn r 0 71 ∧ (¬ r = -4 → ¬ U.1 0 29 ≤ r)) := fun z hz => ih _ _ _ _ hW hF ((rg_tr (rg_add 1 72 f3 (rgl (1) 1 1 rfl) rfl) hz).sub rfl) (up_s f3 hz hm rfl)
      refine e_grd (inb_g f3 rfl) ?_
      refine e_i (fun q4 => ?_) (fun q4 => ?_)
      · refine e_eq (f_M_standing_j41.eq_1 _ _ _ _ _) ?_
        exact e_nmG kk
      · refine e_grd (inb_g f3 rfl) ?_
        refine e_i (fun q9 => ?_) (fun q9 => ?_)
        · refine e_grd (inb_g f3 rfl) ?_
          refine e_i (fun q11 => ?_) (fun q11 => ?_)
          · exact e_some ⟨hW, hF, (rg.toN (f3.sub rfl)), fun _ => q1⟩
          · refine e_eq (f_M_standing_j41.eq_1 _ _ _ _ _) ?_
            exact e_nmG kk
        · refine e_eq (f_M_standing_j41.eq_1 _ _ _ _ _) ?_
          exact e_nmG kk
theorem u_M_standing {a1 : Int32} {a2 : Int32} {S : SS} (hW : WR S) : Ex2 (f_M_standing a1 a2 S) (fun r U => WR U ∧ Fr [] [] S U ∧ rn r 0 71 ∧ (¬ r = -4 → ¬ U.1 0 29 ≤ r)) := by
  refine e_eq (f_M_standing.eq_1 _ _ _) ?_
  exact us_L2 NF _ _ _ _ hW Fr.rf ((rgl (0) 0 0 rfl).sub rfl) (up_n (rgl (0) 0 0 rfl) rfl)
/-- whether a THING is in the row -/
theorem at_L10 {S0 S : SS} {o : Int32} {m : Nat} (hW : WR S) (hF : Fr [39] [(0, 56), (0, 57), (0, 58)] S0 S) (hm : m ≤ 72) (h56 : S.1 0 56 = nI m) : ∀ (n k : Nat) (f : Int32), rg f 0 1 → (f = 0 → ∀ j, j < k → ¬ S.1 39 j = o) → k ≤ m → m < n + k → Ex2 (f_M_areTogether_L10 n o f (nI k) S) (fun r U => U = S ∧ rg r 0 1 ∧ (r = 0 → ∀ j, j < m → ¬ S.1 39 j = o))
  | 0, k, f, hf, h, hk, hn => by omega
  | n + 1, k, f, hf, h, hk, hn => by
    refine e_eq (f_M_areTogether_L10.eq_2 _ _ _ _ _) ?_
    rw [h56]
    refine e_i (fun q => ?_) (fun q => ?_)
    · refine e_grd (isB_g hf rfl) ?_
      have : k = m := by
        rcases Nat.lt_or_ge k m with e | e
        · exact absurd q (nI_ge e (by omega))
        · omega
      subst this
      exact e_some ⟨rfl, hf, h⟩
    · have hkm : k < m := by
        rcases Nat.lt_or_ge k m with e | e
        · exact e
        · exact absurd (nI_le e (by omega)) q
      refine e_i (fun q2 => ?_) (fun q2 => ?_)
      · refine e_grd (inb_nI (by omega) (by omega)) ?_
        rw [nI_clamp (by omega)]
        refine e_i (fun q3 => ?_) (fun q3 => ?_)
        · refine e_eq (f_M_areTogether_j34.eq_1 _ _ _ _) ?_
          refine e_eq (f_M_areTogether_j39.eq_1 _ _ _ _ _) ?_
          refine e_nm ?_
          rw [nI_1]
          exact at_L10 hW hF hm h56 n (k + 1) 1 (rgl 1 0 1 rfl) (fun e => absurd e (by decide)) (by omega) (by omega)
        · refine e_eq (f_M_areTogether_j39.eq_1 _ _ _ _ _) ?_
          refine e_nm ?_
          rw [nI_1]
          refine at_L10 hW hF hm h56 n (k + 1) 0 (rgl 0 0 1 rfl) (fun _ j hj => ?_) (by omega) (by omega)
          by_cases e : j = k
          · subst e; exact q3
          · exact h q2 j (by omega)
      · refine e_eq (f_M_areTogether_j34.eq_1 _ _ _ _) ?_
        refine e_eq (f_M_areTogether_j39.eq_1 _ _ _ _ _) ?_
        refine e_nm ?_
        rw [nI_1]
        exact at_L10 hW hF hm h56 n (k + 1) 1 (rgl 1 0 1 rfl) (fun e => absurd e (by decide)) (by omega) (by omega)
/-- a set of THINGS that holds x, not o, and all that its THINGS are coupled to -/
def Ap (n : Nat) (c : Nat → Int32) (x o : Nat) : Prop := ∃ C : Nat → Bool, C x = true ∧ C o = false ∧ ∀ y, y < n → C y = true → ∀ d, d < 2 → c (2 * y + d) = -4 ∨ ∃ z, z < n ∧ c (2 * y + d) = nI z ∧ C z = true
theorem u_M_areTogether {a1 a2 : Int32} {S : SS} (hW : WR S) (h0 : rg a1 0 71) (hl0 : ¬ S.1 0 29 ≤ a1) : Ex2 (f_M_areTogether a1 a2 S) (fun r U => WR U ∧ Fr [39] [(0, 56), (0, 57), (0, 58)] S U ∧ rg r 0 1 ∧ (r = 0 → ∀ n x o, n ≤ 72 → S.1 0 29 = nI n → a1 = nI x → x ≤ 71 → a2 = nI o → o < n → Ap n (S.1 23) x o)) := by
  refine e_eq (f_M_areTogether.eq_1 _ _ _) ?_
  refine e_cV (u_M_lineUp hW h0 hl0) (fun T p => ?_)
  obtain ⟨hW1, g1, n, x, m, hn, h29, hx, hxn, hm1, hm2, h56, hLU, k, hk, hrk⟩ := p
  refine e_mono (at_L10 (S0 := S) hW1 g1 (by omega) h56 NF 0 0 (rgl 0 0 1 rfl) (fun _ j hj => by omega) (by omega) (by have : NF = 100000 := rfl; omega)) (fun r U hU => ?_)
  obtain ⟨rfl, hr, hall⟩ := hU
  refine ⟨hW1, g1, hr, fun e n' x' o hn' h29' hx' hx71 ho hon => ?_⟩
  have en : n' = n := (nI_eq (by omega) (by omega)).mp (h29'.symm.trans h29)
  subst en
  have ex : x' = x := (nI_eq (by omega) (by omega)).mp (hx'.symm.trans hx)
  subst ex
  have hall := hall e
  refine ⟨fun y => (List.range m).any (fun j => decide (U.1 39 j = nI y)), ?_, ?_, fun y hy hC d hd => ?_⟩
  · rw [List.any_eq_true]
    exact ⟨k, List.mem_range.mpr hk, decide_eq_true hrk⟩
  · rw [List.any_eq_false]
    intro j hj
    have := hall j (List.mem_range.mp hj)
    rw [ho] at this
    simp [this]
  · rw [List.any_eq_true] at hC
    obtain ⟨j, hj, hjy⟩ := hC
    obtain ⟨y', hy', e1, e2⟩ := hLU j (List.mem_range.mp hj)
    have : y' = y := (nI_eq (by omega) (by omega)).mp (e1.symm.trans (of_decide_eq_true hjy))
    subst this
    rcases e2 d hd with f | ⟨k', hk', f⟩
    · exact Or.inl f
    · obtain ⟨z, hz, e3, -⟩ := hLU k' hk'
      refine Or.inr ⟨z, hz, f.trans e3, ?_⟩
      rw [List.any_eq_true]
      exact ⟨k', List.mem_range.mpr hk', decide_eq_true e3⟩
theorem AC.couple {n : Nat} {c c' : Nat → Int32} (hn : n ≤ 72) (h : AC n c) {x s o t : Nat} (hx : x < n) (hs : s < 2) (ho : o < n) (ht : t < 2) (e1 : c (2 * x + s) = -4) (e2 : c (2 * o + t) = -4) (hp : Ap n c x o) (e : ∀ j, c' j = if j = 2 * o + t then nI x else if j = 2 * x + s then nI o else c j) : AC n c' := by
  obtain ⟨C, hCx, hCo, hC⟩ := hp
  obtain ⟨pos, dir, h⟩ := h
  have hxo : x ≠ o := fun k => by rw [k, hCo] at hCx; cases hCx
  have key : ∀ (fl : Bool) (base : Int), (fl = true ↔ (s = dir x ↔ t = dir o)) → (base = if t = dir o then pos o + 1 else pos o - 1) → ACw n c' (fun y => if C y = true then (if fl = true then base + pos x - pos y else base + pos y - pos x) else pos y) (fun y => if C y = true then (if fl = true then 1 - dir y else dir y) else dir y) := by
    intro fl base hfl hbase
    have dx := h.1 x; have d_o := h.1 o
    refine ⟨fun y => ?_, fun y d hy hd => ?_⟩
    · show (if C y = true then (if fl = true then 1 - dir y else dir y) else dir y) < 2
      have := h.1 y
      split
      · split <;> omega
      · omega
    · show c' (2 * y + d) = -4 ∨ ∃ o' t', o' < n ∧ t' < 2 ∧ c' (2 * y + d) = nI o' ∧ c' (2 * o' + t') = nI y ∧ (d = (if C y = true then (if fl = true then 1 - dir y else dir y) else dir y) ∧ (if C o' = true then (if fl = true then base + pos x - pos o' else base + pos o' - pos x) else pos o') = (if C y = true then (if fl = true then base + pos x - pos y else base + pos y - pos x) else pos y) + 1 ∨ d ≠ (if C y = true then (if fl = true then 1 - dir y else dir y) else dir y) ∧ (if C o' = true then (if fl = true then base + pos x - pos o' else base + pos o' - pos x) else pos o') + 1 = (if C y = true then (if fl = true then base + pos x - pos y else base + pos y - pos x) else pos y))
      have dy := h.1 y
      by_cases hyx : 2 * y + d = 2 * x + s
      · have : y = x := by omega
        subst this
        have : d = s := by omega
        subst this
        refine Or.inr ⟨o, t, ho, ht, by rw [e, if_neg (by omega), if_pos rfl], by rw [e, if_pos rfl], ?_⟩
        by_cases hf : fl = true
        · have hq := hfl.mp hf
          simp only [hCx, hCo, hf, reduceIte, Bool.false_eq_true]
          by_cases hto : t = dir o
          · rw [if_pos hto] at hbase; omega
          · rw [if_neg hto] at hbase; omega
        · have hq : ¬ (d = dir y ↔ t = dir o) := fun k => hf (hfl.mpr k)
          simp only [hCx, hCo, hf, reduceIte, Bool.false_eq_true]
          by_cases hto : t = dir o
          · rw [if_pos hto] at hbase; omega
          · rw [if_neg hto] at hbase; omega
      · by_cases hyo : 2 * y + d = 2 * o + t
        · have : y = o := by omega
          subst this
          have : d = t := by omega
          subst this
          refine Or.inr ⟨x, s, hx, hs, by rw [e, if_pos rfl], by rw [e, if_neg (by omega), if_pos rfl], ?_⟩
          by_cases hto : d = dir y
          · rw [if_pos hto] at hbase
            by_cases hf : fl = true
            · simp only [hCx, hCo, hf, reduceIte, Bool.false_eq_true]; omega
            · simp only [hCx, hCo, hf, reduceIte, Bool.false_eq_true]; omega
          · rw [if_neg hto] at hbase
            by_cases hf : fl = true
            · simp only [hCx, hCo, hf, reduceIte, Bool.false_eq_true]; omega
            · simp only [hCx, hCo, hf, reduceIte, Bool.false_eq_true]; omega
        · rw [e, if_neg hyo, if_neg hyx]
          rcases h.2 y d hy hd with f | ⟨z, t', hz, ht', f1, f2, f⟩
          · exact Or.inl f
          · have hCz : C z = C y := by
              cases hcy : C y with
              | true =>
                rcases hC y hy hcy d hd with k | ⟨z', hz', k1, k2⟩
                · exact absurd (f1.symm.trans k) (nI_m4 (by omega))
                · have : z = z' := (nI_eq (by omega) (by omega)).mp (f1.symm.trans k1)
                  rw [this]; exact k2
              | false =>
                cases hcz : C z with
                | false => rfl
                | true =>
                  rcases hC z hz hcz t' ht' with k | ⟨y', hy', k1, k2⟩
                  · exact absurd (f2.symm.trans k) (nI_m4 (by omega))
                  · have : y = y' := (nI_eq (by omega) (by omega)).mp (f2.symm.trans k1)
                    rw [this, k2] at hcy; cases hcy
            have n1 : ¬ 2 * z + t' = 2 * o + t := fun k => by
              rw [k, e2] at f2
              exact nI_m4 (by omega) f2.symm
            have n2' : ¬ 2 * z + t' = 2 * x + s := fun k => by
              rw [k, e1] at f2
              exact nI_m4 (by omega) f2.symm
            refine Or.inr ⟨z, t', hz, ht', f1, by rw [e, if_neg n1, if_neg n2']; exact f2, ?_⟩
            by_cases hcy : C y = true
            · by_cases hf : fl = true
              · simp only [hCz, hcy, hf, reduceIte]; omega
              · simp only [hCz, hcy, hf, reduceIte, Bool.false_eq_true]; omega
            · simp only [hCz, hcy, reduceIte, Bool.false_eq_true]; exact f
  by_cases hq : s = dir x ↔ t = dir o
  · exact ⟨_, _, key true _ ⟨fun _ => hq, fun _ => rfl⟩ rfl⟩
  · exact ⟨_, _, key false _ ⟨(fun k => by cases k), fun k => absurd k hq⟩ rfl⟩
theorem way_s {S : SS} {x : Nat} {a : Int32} (hW : WR S) (hx : x ≤ 71) : Ex2 (f_M_wayOf (nI x) a S) (fun r U => U = S ∧ rg r 0 1) := by
  refine e_eq (f_M_wayOf.eq_1 _ _ _) ?_
  refine e_i (fun q => ?_) (fun q => ?_)
  · exact e_grd (inb_nI (by omega) (by omega)) (e_some ⟨rfl, ro_22 hW _⟩)
  · exact e_grd (inb_nI (by omega) (by omega)) (e_some ⟨rfl, rg_sb 0 1 (rgl 1 1 1 rfl) (ro_22 hW _) rfl⟩)
theorem cj136 {S0 S : SS} {n x o t : Nat} (hW : WR S) (hF : Fr [2, 39] [(0, 5), (0, 26), (0, 27), (0, 28), (0, 56), (0, 57), (0, 58), (0, 66), (0, 67)] S0 S) (hn : n ≤ 72) (h29 : S.1 0 29 = nI n) (hx : x < n) (ho : o < n) (ht : t < 2) (h66 : S.1 0 66 = nI o) : Ex2 (f_M_missCouple_j136 (nI x) (nI o) (nI t) S) (fun r U => WR U ∧ Fr [2, 39] [(0, 5), (0, 26), (0, 27), (0, 28), (0, 56), (0, 57), (0, 58), (0, 66), (0, 67)] S0 U ∧ rg r 0 16 ∧ (r = 0 → U.1 0 66 = nI o ∧ U.1 0 67 = nI t ∧ S.1 23 (2 * o + t) = -4 ∧ Ap n (S.1 23) x o)) := by
  refine e_eq (f_M_missCouple_j136.eq_1 _ _ _ _) ?_
  refine e_wrO (fun T eT gT vT => ?_)
  have hW1 := wo_0_67 hW (rg_nI (j := t) (by omega) (by omega) (by omega)) eT
  have hF1 := hF.tr gT rfl
  have k29 : T.1 0 29 = nI n := by rw [gT.1 0 29 rfl]; exact h29
  have k66 : T.1 0 66 = nI o := by rw [gT.1 0 66 rfl]; exact h66
  rw [vT, n2, nI_clamp (by omega)]
  refine e_grd (inb_nI (by omega) (by omega)) ?_
  refine e_i (fun q => ?_) (fun q => ?_)
  · refine e_cE (u_M_areTogether hW1 (rg_nI (j := x) (by omega) (by omega) (by omega)) (nI_lm k29 hn hx)) (fun r T2 p => ?_)
    obtain ⟨hW2, g2, hr, hc⟩ := p
    have hF2 := hF1.tr g2 rfl
    refine e_i (fun q2 => ?_) (fun q2 => ?_)
    · have hap := hc q2 n x o hn k29 rfl (by omega) rfl ho
      refine e_cE (t_M_suits hW2 (rg_nI (j := x) (by omega) (by omega) (by omega)) (rg_nI (j := o) (by omega) (by omega) (by omega))) (fun r3 T3 p => ?_)
      obtain ⟨hW3, g3, -⟩ := p
      have hF3 := hF2.tr g3 rfl
      refine e_i (fun q3 => ?_) (fun q3 => ?_)
      · exact e_some ⟨hW3, hF3, rgl 13 0 16 rfl, fun e => absurd e (by decide)⟩
      · refine e_cE (t_M_suits hW3 (rg_nI (j := o) (by omega) (by omega) (by omega)) (rg_nI (j := x) (by omega) (by omega) (by omega))) (fun r4 T4 p => ?_)
        obtain ⟨hW4, g4, -⟩ := p
        have hF4 := hF3.tr g4 rfl
        refine e_i (fun q4 => ?_) (fun q4 => ?_)
        · exact e_some ⟨hW4, hF4, rgl 13 0 16 rfl, fun e => absurd e (by decide)⟩
        · refine e_some ⟨hW4, hF4, rgl 0 0 16 rfl, fun _ => ⟨?_, ?_, ?_, ?_⟩⟩
          · rw [g4.1 0 66 rfl, g3.1 0 66 rfl, g2.1 0 66 rfl]; exact k66
          · rw [g4.1 0 67 rfl, g3.1 0 67 rfl, g2.1 0 67 rfl]; exact vT
          · rw [← gT.1 23 _ rfl]; exact q
          · rw [← show T.1 23 = S.1 23 from funext fun b => gT.1 23 b rfl]; exact hap
    · exact e_some ⟨hW2, hF2, rgl 14 0 16 rfl, fun e => absurd e (by decide)⟩
  · exact e_some ⟨hW1, hF1, rgl 14 0 16 rfl, fun e => absurd e (by decide)⟩
set_option maxHeartbeats 2000000 in
theorem u_M_missCouple {a1 a2 : Int32} {S : SS} (hW : WR S) : Ex2 (f_M_missCouple a1 a2 S) (fun r U => WR U ∧ Fr [2, 39] [(0, 5), (0, 26), (0, 27), (0, 28), (0, 56), (0, 57), (0, 58), (0, 66), (0, 67)] S U ∧ rg r 0 16 ∧ (r = 0 → ∃ n x s o t, n ≤ 72 ∧ S.1 0 29 = nI n ∧ a1 = nI x ∧ a2 = nI s ∧ x < n ∧ s < 2 ∧ o < n ∧ t < 2 ∧ U.1 0 66 = nI o ∧ U.1 0 67 = nI t ∧ S.1 23 (2 * x + s) = -4 ∧ S.1 23 (2 * o + t) = -4 ∧ Ap n (S.1 23) x o)) := by
  have hF : Fr [2, 39] [(0, 5), (0, 26), (0, 27), (0, 28), (0, 56), (0, 57), (0, 58), (0, 66), (0, 67)] S S := Fr.rf
  obtain ⟨n, hn, h29, -⟩ := hW.2.1
  refine e_eq (f_M_missCouple.eq_1 _ _ _) ?_
  refine e_cE (t_M_missSide hW) (fun r T1 p => ?_)
  obtain ⟨-, g1, hr, hc⟩ := p
  have := (fr_nil g1).symm
  subst this
  refine e_i (fun q => ?_) (fun q => ?_)
  · obtain ⟨c1, c2, c3⟩ := hc q
    obtain ⟨x, rfl, hxa, hxb, hxc⟩ := rg_ex c1 (by omega)
    obtain ⟨s, rfl, hsa, hsb, hsc⟩ := rg_ex c2 (by omega)
    have hx : x < n := lm_n h29 hn (by omega) c3
    rw [n2, nI_clamp (by omega)]
    refine e_grd (inb_nI (by omega) (by omega)) ?_
    refine e_i (fun q1 => ?_) (fun q1 => ?_)
    · refine e_grd (inb_nI (by omega) (by omega)) ?_
      refine e_i (fun q2 => ?_) (fun q2 => ?_)
      · refine e_grd (inb_nI (by omega) (by omega)) ?_
        refine e_grd (inb_nI (by omega) (by omega)) ?_
        refine e_cE (way_s hW (by omega)) (fun w T p => ?_)
        obtain ⟨ew, hw⟩ := p
        have ew := ew.symm
        subst ew
        refine e_cE (t_M_isOpen hW (ro_20 hW _) hw) (fun r6 T5 p => ?_)
        obtain ⟨hW5, g5, -⟩ := p
        have hF5 := hF.tr g5 rfl
        have k29 : T5.1 0 29 = nI n := by rw [g5.1 0 29 rfl]; exact h29
        refine e_i (fun q3 => ?_) (fun q3 => ?_)
        · exact e_some ⟨hW5, hF5, rgl 10 0 16 rfl, fun e => absurd e (by decide)⟩
        · refine e_cE (u_M_standing hW5) (fun r8 T7 p => ?_)
          obtain ⟨-, g7, hr8, hc8⟩ := p
          have := (fr_nil g7).symm
          subst this
          refine e_i (fun q4 => ?_) (fun q4 => ?_)
          · exact e_some ⟨hW5, hF5, rgl 1 0 16 rfl, fun e => absurd e (by decide)⟩
          · obtain ⟨o, rfl, hoa, hob, hoc⟩ := rg_ex (rn.ne hr8 q4) (by omega)
            have ho : o < n := lm_n k29 hn (by omega) (hc8 q4)
            refine e_grd (inb_nI (by omega) (by omega)) ?_
            refine e_i (fun q5 => ?_) (fun q5 => ?_)
            · refine e_wrO (fun T9 e9 g9 v9 => ?_)
              have hW9 := wo_0_66 hW5 (rg_nI (j := o) (by omega) (by omega) (by omega)) e9
              have hF9 := hF5.tr g9 rfl
              have l29 : T9.1 0 29 = nI n := by rw [g9.1 0 29 rfl]; exact k29
              have fin : ∀ t, t < 2 → Ex2 (f_M_missCouple_j136 (nI x) (nI o) (nI t) T9) (fun r U => WR U ∧ Fr [2, 39] [(0, 5), (0, 26), (0, 27), (0, 28), (0, 56), (0, 57), (0, 58), (0, 66), (0, 67)] S U ∧ rg r 0 16 ∧ (r = 0 → ∃ n x' s' o t, n ≤ 72 ∧ S.1 0 29 = nI n ∧ nI x = nI x' ∧ nI s = nI s' ∧ x' < n ∧ s' < 2 ∧ o < n ∧ t < 2 ∧ U.1 0 66 = nI o ∧ U.1 0 67 = nI t ∧ S.1 23 (2 * x' + s') = -4 ∧ S.1 23 (2 * o + t) = -4 ∧ Ap n (S.1 23) x' o)) := by
                intro t ht
                have e23 : T9.1 23 = S.1 23 := funext fun b => by rw [g9.1 23 b rfl, g5.1 23 b rfl]
                refine e_mono (cj136 hW9 hF9 hn l29 hx ho ht v9) (fun r U p => ?_)
                obtain ⟨p1, p2, p3, p4⟩ := p
                refine ⟨p1, p2, p3, fun e => ?_⟩
                obtain ⟨b1, b2, b3, b4⟩ := p4 e
                rw [e23] at b3 b4
                exact ⟨n, x, s, o, t, hn, h29, rfl, rfl, hx, by omega, ho, ht, b1, b2, q1, b3, b4⟩
              refine e_grd (inb_nI (by omega) (by omega)) ?_
              refine e_i (fun q6 => ?_) (fun q6 => ?_)
              · exact fin 0 (by omega)
              · exact fin 1 (by omega)
            · exact e_some ⟨hW5, hF5, rgl 16 0 16 rfl, fun e => absurd e (by decide)⟩
      · exact e_some ⟨hW, hF, rgl 16 0 16 rfl, fun e => absurd e (by decide)⟩
    · exact e_some ⟨hW, hF, rgl 14 0 16 rfl, fun e => absurd e (by decide)⟩
  · exact e_some ⟨hW, hF, hr.sub rfl, fun e => absurd e q⟩
set_option maxHeartbeats 2000000 in
theorem t_M_couple {a1 : Int32} {a2 : Int32} {S : SS} (hW : WR S) (hx0 : rg (S.1 0 62) 0 599) : Ex2 (f_M_couple a1 a2 S) (fun r U => WR U ∧ Fr [1, 2, 23, 24, 34, 39, 40, 41, 42] [(0, 0), (0, 1), (0, 2), (0, 3), (0, 5), (0, 26), (0, 27), (0, 28), (0, 49), (0, 56), (0, 57), (0, 58), (0, 60), (0, 61), (0, 62), (0, 66), (0, 67)] S U ∧ True) := by
  have hF : Fr [1, 2, 23, 24, 34, 39, 40, 41, 42] [(0, 0), (0, 1), (0, 2), (0, 3), (0, 5), (0, 26), (0, 27), (0, 28), (0, 49), (0, 56), (0, 57), (0, 58), (0, 60), (0, 61), (0, 62), (0, 66), (0, 67)] S S := Fr.rf
  refine e_eq (f_M_couple.eq_1 _ _ _) ?_
  refine e_cV (t_M_begin hW) (fun T1 p1 => ?_)
  obtain ⟨hW1, g1⟩ := p1
  refine e_cV (t_M_keep hW1) (fun T2 p2 => ?_)
  obtain ⟨hW2, g2⟩ := p2
  refine e_cE (u_M_missCouple hW2) (fun r T3 p3 => ?_)
  obtain ⟨hW3, g3, hr, hc⟩ := p3
  have hF3 := ((hF.tr g1 rfl).tr g2 rfl).tr g3 rfl
  have k62 : rg (T3.1 0 62) 0 599 := by rw [g3.1 0 62 rfl, g2.1 0 62 rfl, g1.1 0 62 rfl]; exact hx0
  by_cases hr0 : r = 0
  · obtain ⟨n, x, s, o, t, hn, h29, rfl, rfl, hx, hs, ho, ht, e66, e67, f1, f2, hap⟩ := hc hr0
    subst hr0
    rw [ends0, bnd_r]
    refine e_t rfl ?_
    rw [n2, nI_clamp (by omega)]
    refine e_grd (inb_nI (by omega) (by omega)) ?_
    refine e_wrA (fun T eT gT vT => ?_)
    rw [e66] at eT
    rw [show T.1 0 66 = nI o from (gT.1 0 66 rfl).trans e66, show T.1 0 67 = nI t from (gT.1 0 67 rfl).trans e67, n2, nI_clamp (by omega)]
    refine e_grd (inb_nI (by omega) (by omega)) ?_
    refine e_wrA (fun U eU gU vU => ?_)
    have hR := RO.st (k := 23) (RO.st (k := 23) hW3.1 (rg_nI (j := o) (a := 0) (b := 71) (by omega) (by omega) (by omega)).toN eT) (rg_nI (j := x) (a := 0) (b := 71) (by omega) (by omega) (by omega)).toN eU
    have e23 : T3.1 23 = T2.1 23 := funext fun b => g3.1 23 b rfl
    have eA : ∀ j, U.1 23 j = if j = 2 * o + t then nI x else if j = 2 * x + s then nI o else T3.1 23 j := fun j => by
      rw [eU, st_at, if_pos rfl, eT, st_at, if_pos rfl]
    have l29 : T3.1 0 29 = nI n := by rw [g3.1 0 29 rfl]; exact h29
    have hJ : J U := ⟨hW3.2.1.c (fun n' hn' h29' hA' => by
        have : n' = n := (nI_eq (by omega) (by omega)).mp (h29'.symm.trans l29)
        subst this
        exact AC.couple hn hA' hx hs ho ht (by rw [e23]; exact f1) (by rw [e23]; exact f2) (by rw [e23]; exact hap) eA) (fun b => by rw [gU.1 40 b rfl, gT.1 40 b rfl]) (by rw [gU.1 0 29 rfl, gT.1 0 29 rfl]) (by rw [gU.1 0 60 rfl, gT.1 0 60 rfl]) (by rw [gU.1 0 61 rfl, gT.1 0 61 rfl]), hW3.2.2.of (by rw [gU.1 64 6 rfl, gT.1 64 6 rfl]) (by rw [gU.1 64 7 rfl, gT.1 64 7 rfl])⟩
    have hWU : WR U := ⟨hR, hJ⟩
    have hFU := (hF3.tr gT rfl).tr gU rfl
    have k29 : U.1 0 29 = nI n := by rw [gU.1 0 29 rfl, gT.1 0 29 rfl]; exact l29
    refine e_cV (t_M_renumber hWU (rg_nI (j := x) (by omega) (by omega) (by omega)) (nI_lm k29 hn hx)) (fun V p => ?_)
    obtain ⟨hWV, gV⟩ := p
    have m62 : rg (V.1 0 62) 0 599 := by
      rw [gV.1 0 62 rfl, gU.1 0 62 rfl, gT.1 0 62 rfl]; exact k62
    refine e_cE (t_M_entered hWV m62) (fun r Z p => ?_)
    obtain ⟨hWZ, gZ, -⟩ := p
    exact e_some ⟨hWZ, (hFU.tr gV rfl).tr gZ rfl, trivial⟩
  · refine e_cE (endsN hW3 (hr.sub rfl) hr0) (fun r T p => ?_)
    obtain ⟨rfl, hW4, g4⟩ := p
    refine e_f (by decide) ?_
    refine e_cE (t_M_entered hW4 (rg_tr k62 (g4.1 0 62 rfl))) (fun r Z p => ?_)
    obtain ⟨hWZ, gZ, -⟩ := p
    exact e_some ⟨hWZ, (hF3.tr g4 rfl).tr gZ rfl, trivial⟩
theorem ac_uni {n : Nat} {c : Nat → Int32} {pos : Nat → Int} {dir : Nat → Nat} (h : ACw n c pos dir) (hn : n ≤ 72) {x o d d' : Nat} (hx : x < n) (ho : o < n) (hd : d < 2) (hd' : d' < 2) (e : c (2 * x + d) = nI o) (e' : c (2 * x + d') = nI o) : d = d' := by
  have key : ∀ t, t < 2 → c (2 * x + t) = nI o → ((t = dir x ∧ pos o = pos x + 1) ∨ (t ≠ dir x ∧ pos o + 1 = pos x)) := by
    intro t ht e
    rcases h.2 x t hx ht with f | ⟨o', t'', ho', -, f1, -, f⟩
    · exact absurd (e.symm.trans f) (nI_m4 (by omega))
    · have : o = o' := (nI_eq (by omega) (by omega)).mp (e.symm.trans f1)
      subst this
      exact f
  have k1 := key d hd e
  have k2 := key d' hd' e'
  have := h.1 x
  omega
theorem AC.part {n : Nat} {c c' : Nat → Int32} (hn : n ≤ 72) (h : AC n c) {x s o t : Nat} (hx : x < n) (hs : s < 2) (ho : o < n) (ht : t < 2) (e1 : c (2 * x + s) = nI o) (e2 : c (2 * o + t) = nI x) (e : ∀ j, c' j = if j = 2 * x + s then -4 else if j = 2 * o + t then -4 else c j) : AC n c' := by
  obtain ⟨pos, dir, h⟩ := h
  refine ⟨pos, dir, h.1, fun y d hy hd => ?_⟩
  by_cases q1 : 2 * y + d = 2 * x + s
  · exact Or.inl (by rw [e, if_pos q1])
  · by_cases q2 : 2 * y + d = 2 * o + t
    · exact Or.inl (by rw [e, if_neg q1, if_pos q2])
    · rw [e, if_neg q1, if_neg q2]
      rcases h.2 y d hy hd with f | ⟨z, t', hz, ht', f1, f2, f⟩
      · exact Or.inl f
      · refine Or.inr ⟨z, t', hz, ht', f1, ?_, f⟩
        have n1 : ¬ 2 * z + t' = 2 * x + s := fun k => by
          have k1 : z = x := by omega
          have k2 : t' = s := by omega
          subst k1; subst k2
          have : y = o := (nI_eq (by omega) (by omega)).mp (f2.symm.trans e1)
          subst this
          have := ac_uni h hn hy hz hd ht f1 e2
          omega
        have n2' : ¬ 2 * z + t' = 2 * o + t := fun k => by
          have k1 : z = o := by omega
          have k2 : t' = t := by omega
          subst k1; subst k2
          have : y = x := (nI_eq (by omega) (by omega)).mp (f2.symm.trans e2)
          subst this
          have := ac_uni h hn hy hz hd hs f1 e1
          omega
        rw [e, if_neg n1, if_neg n2']
        exact f2
set_option maxHeartbeats 2000000 in
theorem part_j45 {S0 S : SS} {x s : Nat} {y : Int32} (hW : WR S) (hF : Fr [1, 23, 24, 34, 39, 40, 41, 42] [(0, 0), (0, 1), (0, 2), (0, 3), (0, 5), (0, 49), (0, 56), (0, 57), (0, 58), (0, 60), (0, 61), (0, 62)] S0 S) (h62 : rg (S.1 0 62) 0 599) (hy : rg y 0 17) (h : y = 0 → x ≤ 71 ∧ s < 2 ∧ ¬ S.1 0 29 ≤ nI x ∧ ¬ S.1 23 (2 * x + s) = -4) {a1 a2 : Int32} (e1 : y = 0 → a1 = nI x ∧ a2 = nI s) : Ex2 (f_M_part_j45 a1 a2 y S) (fun r U => WR U ∧ Fr [1, 23, 24, 34, 39, 40, 41, 42] [(0, 0), (0, 1), (0, 2), (0, 3), (0, 5), (0, 49), (0, 56), (0, 57), (0, 58), (0, 60), (0, 61), (0, 62)] S0 U ∧ True) := by
  refine e_eq (f_M_part_j45.eq_1 _ _ _ _) ?_
  by_cases hy0 : y = 0
  · obtain ⟨hx1, hs, hl, hc⟩ := h hy0
    obtain ⟨rfl, rfl⟩ := e1 hy0
    subst hy0
    obtain ⟨n, hn, h29, hA, -⟩ := hW.2.1
    have hx : x < n := lm_n h29 hn hx1 hl
    obtain ⟨pos, dir, hcw, -⟩ := hA.dir x (s := s) hs
    obtain ⟨o, t, ho, ht, f1, f2, f3, -⟩ := ac_next hcw hn hx hs hc
    rw [ends0, bnd_r]
    refine e_t rfl ?_
    rw [n2, nI_clamp (by omega)]
    refine e_grd (inb_nI (by omega) (by omega)) ?_
    refine e_nm ?_
    rw [f1, sideTo_s rfl (by omega) ht f3, bnd_r, n2, nI_clamp (by omega)]
    refine e_grd (inb_nI (by omega) (by omega)) ?_
    refine e_wrA (fun T eT gT vT => ?_)
    refine e_grd (inb_nI (by omega) (by omega)) ?_
    refine e_wrA (fun U eU gU vU => ?_)
    have hR := RO.st (k := 23) (RO.st (k := 23) hW.1 (rn4l 0 71) eT) (rn4l 0 71) eU
    have eA : ∀ j, U.1 23 j = if j = 2 * x + s then -4 else if j = 2 * o + t then -4 else S.1 23 j := fun j => by
      rw [eU, st_at, if_pos rfl, eT, st_at, if_pos rfl]
    have hJ : J U := ⟨hW.2.1.c (fun n' hn' h29' hA' => by
        have : n' = n := (nI_eq (by omega) (by omega)).mp (h29'.symm.trans h29)
        subst this
        exact AC.part hn hA' hx hs ho ht f1 f2 eA) (fun b => by rw [gU.1 40 b rfl, gT.1 40 b rfl]) (by rw [gU.1 0 29 rfl, gT.1 0 29 rfl]) (by rw [gU.1 0 60 rfl, gT.1 0 60 rfl]) (by rw [gU.1 0 61 rfl, gT.1 0 61 rfl]), hW.2.2.of (by rw [gU.1 64 6 rfl, gT.1 64 6 rfl]) (by rw [gU.1 64 7 rfl, gT.1 64 7 rfl])⟩
    have hWU : WR U := ⟨hR, hJ⟩
    have hFU := (hF.tr gT rfl).tr gU rfl
    have k29 : U.1 0 29 = nI n := by rw [gU.1 0 29 rfl, gT.1 0 29 rfl]; exact h29
    refine e_cV (t_M_renumber hWU (rg_nI (j := x) (by omega) (by omega) (by omega)) (nI_lm k29 hn hx)) (fun V p => ?_)
    obtain ⟨hWV, gV⟩ := p
    have l29 : V.1 0 29 = nI n := by rw [gV.1 0 29 rfl]; exact k29
    refine e_cV (t_M_renumber hWV (rg_nI (j := o) (by omega) (by omega) (by omega)) (nI_lm l29 hn ho)) (fun Y p => ?_)
    obtain ⟨hWY, gY⟩ := p
    have k62 : rg (Y.1 0 62) 0 599 := by
      rw [gY.1 0 62 rfl, gV.1 0 62 rfl, gU.1 0 62 rfl, gT.1 0 62 rfl]; exact h62
    refine e_cE (t_M_entered hWY k62) (fun r Z p => ?_)
    obtain ⟨hWZ, gZ, -⟩ := p
    exact e_some ⟨hWZ, ((hFU.tr gV rfl).tr gY rfl).tr gZ rfl, trivial⟩
  · refine e_cE (endsN hW hy hy0) (fun r T p => ?_)
    obtain ⟨rfl, hW1, g1⟩ := p
    refine e_f (by decide) ?_
    refine e_cE (t_M_entered hW1 (rg_tr h62 (g1.1 0 62 rfl))) (fun r Z p => ?_)
    obtain ⟨hWZ, gZ, -⟩ := p
    exact e_some ⟨hWZ, (hF.tr g1 rfl).tr gZ rfl, trivial⟩
theorem t_M_part {a1 : Int32} {a2 : Int32} {S : SS} (hW : WR S) (hx0 : rg (S.1 0 62) 0 599) : Ex2 (f_M_part a1 a2 S) (fun r U => WR U ∧ Fr [1, 23, 24, 34, 39, 40, 41, 42] [(0, 0), (0, 1), (0, 2), (0, 3), (0, 5), (0, 49), (0, 56), (0, 57), (0, 58), (0, 60), (0, 61), (0, 62)] S U ∧ True) := by
  have hF : Fr [1, 23, 24, 34, 39, 40, 41, 42] [(0, 0), (0, 1), (0, 2), (0, 3), (0, 5), (0, 49), (0, 56), (0, 57), (0, 58), (0, 60), (0, 61), (0, 62)] S S := Fr.rf
  refine e_eq (f_M_part.eq_1 _ _ _) ?_
  refine e_cV (t_M_begin hW) (fun T1 p1 => ?_)
  obtain ⟨hW1, g1⟩ := p1
  refine e_cV (t_M_keep hW1) (fun T2 p2 => ?_)
  obtain ⟨hW2, g2⟩ := p2
  have hF2 := (hF.tr g1 rfl).tr g2 rfl
  refine e_cE (t_M_missSide hW2) (fun r T3 p3 => ?_)
  obtain ⟨hW3, g3, hr, hc⟩ := p3
  have hF3 := hF2.tr g3 rfl
  have k62 : rg (T3.1 0 62) 0 599 := by rw [g3.1 0 62 rfl, g2.1 0 62 rfl, g1.1 0 62 rfl]; exact hx0
  refine e_i (fun q => ?_) (fun q => ?_)
  · obtain ⟨c1, c2, c3⟩ := hc q
    obtain ⟨x, rfl, hxa, hxb, hxc⟩ := rg_ex c1 (by omega)
    obtain ⟨s, rfl, hsa, hsb, hsc⟩ := rg_ex c2 (by omega)
    rw [n2, nI_clamp (by omega)]
    refine e_grd (inb_nI (by omega) (by omega)) ?_
    refine e_i (fun q2 => ?_) (fun q2 => ?_)
    · exact part_j45 (x := x) (s := s) hW3 hF3 k62 (rgl 1 0 17 rfl) (fun e => absurd e (by decide)) (fun e => absurd e (by decide))
    · exact part_j45 (x := x) (s := s) hW3 hF3 k62 (rgl 0 0 17 rfl) (fun _ => ⟨by omega, by omega, c3, q2⟩) (fun _ => ⟨rfl, rfl⟩)
  · exact part_j45 (x := 0) (s := 0) hW3 hF3 k62 (hr.sub rfl) (fun e => absurd e q) (fun e => absurd e q)
set_option maxRecDepth 20000 in
set_option maxHeartbeats 4000000 in
theorem t_M_hasEngine_L4 {S0 : SS} : ∀ (n : Nat) (x1 : Int32) (x2 : Int32) (x3 : Int32) (S : SS), WR S → Fr [] [] S0 S → rg x1 0 71 → rg x2 0 1 → rg x3 0 2 → 2 - x3.toInt < (n : Int) → Ex2 (f_M_hasEngine_L4 n x1 x2 x3 S) (fun r U => WR U ∧ Fr [] [] S0 U ∧ rg r 0 1) := by
  intro n
  induction n with
  | zero =>
    intro x1 x2 x3 S hW hF h0 h1 h2 hm
    exact up_0 h2 hm rfl
  | succ n ih =>
    intro x1 x2 x3 S hW hF h0 h1 h2 hm
    refine e_eq (f_M_hasEngine_L4.eq_2 _ _ _ _ _) ?_
    refine e_i (fun q1 => ?_) (fun q1 => ?_)
    · refine e_grd (isB_g h1 rfl) ?_
      exact e_some ⟨hW, hF, h1⟩
    · have f3 := nle_r 1 (rgl (2) 2 2 rfl) h2 q1 rfl
      refine e_grd (inb_g (rg_add 0 143 (rg_mul 0 142 (rgl (2) 2 2 rfl) h0 rfl) f3 rfl) rfl) ?_
      refine e_nmG (fun w4 hw4 => ?_)
      have f5 := rn_tr (ro_23 hW _) hw4
      refine e_i (fun q6 => ?_) (fun q6 => ?_)
      · refine e_i (fun q8 => ?_) (fun q8 => ?_)
        · refine e_eq (f_M_hasEngine_j47.eq_1 _ _ _ _) ?_
          refine e_eq (f_M_hasEngine_j48.eq_1 _ _ _ _ _) ?_
          refine e_nmG (fun w11 hw11 => ?_)
          have f12 := rg_tr (rg_add 1 2 f3 (rgl (1) 1 1 rfl) rfl) hw11
          exact ih _ _ _ _ hW hF h0 ((rgl (0) 0 0 rfl).sub rfl) (f12.sub rfl) (up_s f3 hw11 hm rfl)
        · have f13 := rn.ne f5 q8
          refine e_grd (inb_g f13 rfl) ?_
          refine e_i (fun q15 => ?_) (fun q15 => ?_)
          · refine e_eq (f_M_hasEngine_j43.eq_1 _ _ _ _) ?_
            refine e_eq (f_M_hasEngine_j48.eq_1 _ _ _ _ _) ?_
            refine e_nmG (fun w17 hw17 => ?_)
            have f18 := rg_tr (rg_add 1 2 f3 (rgl (1) 1 1 rfl) rfl) hw17
            exact ih _ _ _ _ hW hF h0 ((rgl (1) 1 1 rfl).sub rfl) (f18.sub rfl) (up_s f3 hw17 hm rfl)
          · refine e_eq (f_M_hasEngine_j47.eq_1 _ _ _ _) ?_
            refine e_eq (f_M_hasEngine_j48.eq_1 _ _ _ _ _) ?_
            refine e_nmG (fun w19 hw19 => ?_)
            have f20 := rg_tr (rg_add 1 2 f3 (rgl (1) 1 1 rfl) rfl) hw19
            exact ih _ _ _ _ hW hF h0 ((rgl (0) 0 0 rfl).sub rfl) (f20.sub rfl) (up_s f3 hw19 hm rfl)
      · refine e_eq (f_M_hasEngine_j43.eq_1 _ _ _ _) ?_
        refine e_eq (f_M_hasEngine_j48.eq_1 _ _ _ _ _) ?_
        refine e_nmG (fun w22 hw22 => ?_)
        have f23 := rg_tr (rg_add 1 2 f3 (rgl (1) 1 1 rfl) rfl) hw22
        exact ih _ _ _ _ hW hF h0 ((rgl (1) 1 1 rfl).sub rfl) (f23.sub rfl) (up_s f3 hw22 hm rfl)
set_option maxRecDepth 20000 in
set_option maxHeartbeats 4000000 in
theorem t_M_hasEngine {a1 : Int32} {S : SS} (hW : WR S) (h0 : rg a1 0 71) : Ex2 (f_M_hasEngine a1 S) (fun r U => WR U ∧ Fr [] [] S U ∧ rg r 0 1) := by
  have hF : Fr [] [] S S := Fr.rf
  refine e_eq (f_M_hasEngine.eq_1 _ _) ?_
  exact t_M_hasEngine_L4  NF _ _ _ _ hW hF h0 ((rgl (0) 0 0 rfl).sub rfl) ((rgl (0) 0 0 rfl).sub rfl) (up_n (rgl (0) 0 0 rfl) rfl)
set_option maxRecDepth 20000 in
set_option maxHeartbeats 4000000 in
theorem t_M_pulls {a1 : Int32} {S : SS} (hW : WR S) (h0 : rg a1 0 71) : Ex2 (f_M_pulls a1 S) (fun r U => WR U ∧ Fr [2] [(0, 5)] S U ∧ rg r 0 100) := by
  have hF : Fr [2] [(0, 5)] S S := Fr.rf
  refine e_eq (f_M_pulls.eq_1 _ _) ?_
  refine e_grd (inb_g h0 rfl) ?_
  refine e_i (fun q1 => ?_) (fun q1 => ?_)
  · refine e_cV (t_M_note hW) (fun T3 p3 => ?_)
    obtain ⟨hW3, hT3⟩ := p3
    have hF3 := hF.tr hT3 rfl
    refine e_cE (t_M_hasEngine hW3 h0) (fun u5 T5 p5 => ?_)
    obtain ⟨-, hT5, hr5⟩ := p5
    have eT5 := (fr_nil hT5).symm
    subst eT5
    refine e_i (fun q6 => ?_) (fun q6 => ?_)
    · exact e_some ⟨hW3, hF3, ((rgl (0) 0 0 rfl).sub rfl)⟩
    · refine e_eq (f_M_pulls_j27.eq_1 _ _) ?_
      refine e_cV (t_M_note hW3) (fun T9 p9 => ?_)
      obtain ⟨hW9, hT9⟩ := p9
      have hF9 := hF3.tr hT9 rfl
      refine e_grd (inb_g h0 rfl) ?_
      exact e_some ⟨hW9, hF9, (ro_29 hW9 _)⟩
  · refine e_eq (f_M_pulls_j27.eq_1 _ _) ?_
    refine e_cV (t_M_note hW) (fun T11 p11 => ?_)
    obtain ⟨hW11, hT11⟩ := p11
    have hF11 := hF.tr hT11 rfl
    refine e_grd (inb_g h0 rfl) ?_
    exact e_some ⟨hW11, hF11, (ro_29 hW11 _)⟩
set_option maxRecDepth 20000 in
set_option maxHeartbeats 4000000 in
theorem t_M_weight {a1 : Int32} {S : SS} (hW : WR S) (h0 : rg a1 0 71) : Ex2 (f_M_weight a1 S) (fun r U => WR U ∧ Fr [2] [(0, 5)] S U ∧ rg r 0 2525) := by
  have hF : Fr [2] [(0, 5)] S S := Fr.rf
  refine e_eq (f_M_weight.eq_1 _ _) ?_
  refine e_grd (inb_g h0 rfl) ?_
  refine e_i (fun q1 => ?_) (fun q1 => ?_)
  · refine e_eq (f_M_weight_j21.eq_1 _ _ _) ?_
    refine e_grd (inb_g h0 rfl) ?_
    refine e_i (fun q3 => ?_) (fun q3 => ?_)
    · refine e_cV (t_M_note hW) (fun T5 p5 => ?_)
      obtain ⟨hW5, hT5⟩ := p5
      have hF5 := hF.tr hT5 rfl
      refine e_cE (t_M_loaded hW5 h0) (fun u8 T8 p8 => ?_)
      obtain ⟨-, hT8, hr8⟩ := p8
      have eT8 := (fr_nil hT8).symm
      subst eT8
      exact e_some ⟨hW5, hF5, (hr8.sub rfl)⟩
    · refine e_i (fun q9 => ?_) (fun q9 => ?_)
      · refine e_cV (t_M_note hW) (fun T11 p11 => ?_)
        obtain ⟨hW11, hT11⟩ := p11
        have hF11 := hF.tr hT11 rfl
        refine e_cV (t_M_note hW11) (fun T14 p14 => ?_)
        obtain ⟨hW14, hT14⟩ := p14
        have hF14 := hF11.tr hT14 rfl
        refine e_cE (t_M_loaded hW14 h0) (fun u17 T17 p17 => ?_)
        obtain ⟨-, hT17, hr17⟩ := p17
        have eT17 := (fr_nil hT17).symm
        subst eT17
        exact e_some ⟨hW14, hF14, ((rg_add 0 2500 hr17 (rgl (0) 0 0 rfl) rfl).sub rfl)⟩
      · refine e_i (fun q18 => ?_) (fun q18 => ?_)
        · refine e_cV (t_M_note hW) (fun T20 p20 => ?_)
          obtain ⟨hW20, hT20⟩ := p20
          have hF20 := hF.tr hT20 rfl
          refine e_cV (t_M_note hW20) (fun T23 p23 => ?_)
          obtain ⟨hW23, hT23⟩ := p23
          have hF23 := hF20.tr hT23 rfl
          refine e_cV (t_M_note hW23) (fun T26 p26 => ?_)
          obtain ⟨hW26, hT26⟩ := p26
          have hF26 := hF23.tr hT26 rfl
          refine e_cE (t_M_loaded hW26 h0) (fun u29 T29 p29 => ?_)
          obtain ⟨-, hT29, hr29⟩ := p29
          have eT29 := (fr_nil hT29).symm
          subst eT29
          exact e_some ⟨hW26, hF26, ((rg_add 5 2505 (rg_add 0 2500 hr29 (rgl (0) 0 0 rfl) rfl) (rgl (5) 5 5 rfl) rfl).sub rfl)⟩
        · refine e_i (fun q30 => ?_) (fun q30 => ?_)
          · refine e_cV (t_M_note hW) (fun T32 p32 => ?_)
            obtain ⟨hW32, hT32⟩ := p32
            have hF32 := hF.tr hT32 rfl
            refine e_cE (t_M_loaded hW32 h0) (fun u35 T35 p35 => ?_)
            obtain ⟨-, hT35, hr35⟩ := p35
            have eT35 := (fr_nil hT35).symm
            subst eT35
            exact e_some ⟨hW32, hF32, (hr35.sub rfl)⟩
          · refine e_i (fun q36 => ?_) (fun q36 => ?_)
            · refine e_cV (t_M_note hW) (fun T38 p38 => ?_)
              obtain ⟨hW38, hT38⟩ := p38
              have hF38 := hF.tr hT38 rfl
              refine e_grd (inb_g h0 rfl) ?_
              exact e_some ⟨hW38, hF38, ((ro_29 hW38 _).sub rfl)⟩
            · refine e_cV (t_M_note hW) (fun T41 p41 => ?_)
              obtain ⟨hW41, hT41⟩ := p41
              have hF41 := hF.tr hT41 rfl
              refine e_grd (inb_g h0 rfl) ?_
              exact e_some ⟨hW41, hF41, ((rg_add 80 180 (rgl (80) 80 80 rfl) (ro_29 hW41 _) rfl).sub rfl)⟩
  · have f43 := rn.ne (ro_35 hW _) q1
    refine e_grd (inb_g h0 rfl) ?_
    refine e_eq (f_M_weight_j21.eq_1 _ _ _) ?_
    refine e_grd (inb_g h0 rfl) ?_
    refine e_i (fun q44 => ?_) (fun q44 => ?_)
    · refine e_cV (t_M_note hW) (fun T46 p46 => ?_)
      obtain ⟨hW46, hT46⟩ := p46
      have hF46 := hF.tr hT46 rfl
      refine e_cE (t_M_loaded hW46 h0) (fun u49 T49 p49 => ?_)
      obtain ⟨-, hT49, hr49⟩ := p49
      have eT49 := (fr_nil hT49).symm
      subst eT49
      exact e_some ⟨hW46, hF46, (hr49.sub rfl)⟩
    · refine e_i (fun q50 => ?_) (fun q50 => ?_)
      · refine e_cV (t_M_note hW) (fun T52 p52 => ?_)
        obtain ⟨hW52, hT52⟩ := p52
        have hF52 := hF.tr hT52 rfl
        refine e_cV (t_M_note hW52) (fun T55 p55 => ?_)
        obtain ⟨hW55, hT55⟩ := p55
        have hF55 := hF52.tr hT55 rfl
        refine e_cE (t_M_loaded hW55 h0) (fun u58 T58 p58 => ?_)
        obtain ⟨-, hT58, hr58⟩ := p58
        have eT58 := (fr_nil hT58).symm
        subst eT58
        exact e_some ⟨hW55, hF55, ((rg_add 0 2520 hr58 f43 rfl).sub rfl)⟩
      · refine e_i (fun q59 => ?_) (fun q59 => ?_)
        · refine e_cV (t_M_note hW) (fun T61 p61 => ?_)
          obtain ⟨hW61, hT61⟩ := p61
          have hF61 := hF.tr hT61 rfl
          refine e_cV (t_M_note hW61) (fun T64 p64 => ?_)
          obtain ⟨hW64, hT64⟩ := p64
          have hF64 := hF61.tr hT64 rfl
          refine e_cV (t_M_note hW64) (fun T67 p67 => ?_)
          obtain ⟨hW67, hT67⟩ := p67
          have hF67 := hF64.tr hT67 rfl
          refine e_cE (t_M_loaded hW67 h0) (fun u70 T70 p70 => ?_)
          obtain ⟨-, hT70, hr70⟩ := p70
          have eT70 := (fr_nil hT70).symm
          subst eT70
          exact e_some ⟨hW67, hF67, ((rg_add 5 2525 (rg_add 0 2520 hr70 f43 rfl) (rgl (5) 5 5 rfl) rfl).sub rfl)⟩
        · refine e_i (fun q71 => ?_) (fun q71 => ?_)
          · refine e_cV (t_M_note hW) (fun T73 p73 => ?_)
            obtain ⟨hW73, hT73⟩ := p73
            have hF73 := hF.tr hT73 rfl
            refine e_cE (t_M_loaded hW73 h0) (fun u76 T76 p76 => ?_)
            obtain ⟨-, hT76, hr76⟩ := p76
            have eT76 := (fr_nil hT76).symm
            subst eT76
            exact e_some ⟨hW73, hF73, (hr76.sub rfl)⟩
          · refine e_i (fun q77 => ?_) (fun q77 => ?_)
            · refine e_cV (t_M_note hW) (fun T79 p79 => ?_)
              obtain ⟨hW79, hT79⟩ := p79
              have hF79 := hF.tr hT79 rfl
              refine e_grd (inb_g h0 rfl) ?_
              exact e_some ⟨hW79, hF79, ((ro_29 hW79 _).sub rfl)⟩
            · refine e_cV (t_M_note hW) (fun T82 p82 => ?_)
              obtain ⟨hW82, hT82⟩ := p82
              have hF82 := hF.tr hT82 rfl
              refine e_grd (inb_g h0 rfl) ?_
              exact e_some ⟨hW82, hF82, ((rg_add 80 180 (rgl (80) 80 80 rfl) (ro_29 hW82 _) rfl).sub rfl)⟩
set_option maxRecDepth 20000 in
set_option maxHeartbeats 4000000 in
theorem t_M_missPull_L62 {S0 : SS} : ∀ (n : Nat) (x4 : Int32) (x5 : Int32) (x6 : Int32) (S : SS), WR S → Fr [2, 39] [(0, 5), (0, 56), (0, 57), (0, 58)] S0 S → rg x6 0 72 → 72 - x6.toInt < (n : Int) → Ex2 (f_M_missPull_L62 n x4 x5 x6 S) (fun r U => WR U ∧ Fr [2, 39] [(0, 5), (0, 56), (0, 57), (0, 58)] S0 U ∧ rg r 0 15) := by
  intro n
  induction n with
  | zero =>
    intro x4 x5 x6 S hW hF h2 hm
    exact up_0 h2 hm rfl
  | succ n ih =>
    intro x4 x5 x6 S hW hF h2 hm
    refine e_eq (f_M_missPull_L62.eq_2 _ _ _ _ _) ?_
    refine e_i (fun q1 => ?_) (fun q1 => ?_)
    · refine e_i (fun q2 => ?_) (fun q2 => ?_)
      · exact e_some ⟨hW, hF, ((rgl (0) 0 0 rfl).sub rfl)⟩
      · exact e_some ⟨hW, hF, ((rgl (15) 15 15 rfl).sub rfl)⟩
    · have f6 := nle_r 71 (ro_0_56 hW) h2 q1 rfl
      refine e_grd (inb_g f6 rfl) ?_
      refine e_grd (inb_g (ro_39 hW _) rfl) ?_
      refine e_i (fun q7 => ?_) (fun q7 => ?_)
      · refine e_eq (f_M_missPull_j103.eq_1 _ _ _ _ _) ?_
        refine e_nmG (fun w9 hw9 => ?_)
        have f10 := rg_tr (rg_add 1 72 f6 (rgl (1) 1 1 rfl) rfl) hw9
        exact ih _ _ _ _ hW hF (f10.sub rfl) (up_s f6 hw9 hm rfl)
      · refine e_grd (inb_g f6 rfl) ?_
        refine e_cE (t_M_pulls hW (ro_39 hW _)) (fun u12 T12 p12 => ?_)
        obtain ⟨hW12, hT12, hr12⟩ := p12
        have hF12 := hF.tr hT12 rfl
        refine e_nmG (fun w14 hw14 => ?_)
        refine e_eq (f_M_missPull_j103.eq_1 _ _ _ _ _) ?_
        refine e_nmG (fun w15 hw15 => ?_)
        have f16 := rg_tr (rg_add 1 72 f6 (rgl (1) 1 1 rfl) rfl) hw15
        exact ih _ _ _ _ hW12 hF12 (f16.sub rfl) (up_s f6 hw15 hm rfl)
set_option maxRecDepth 20000 in
set_option maxHeartbeats 4000000 in
theorem t_M_missPull_L28 {S0 : SS} : ∀ (n : Nat) (x4 : Int32) (x5 : Int32) (x6 : Int32) (S : SS), WR S → Fr [2, 39] [(0, 5), (0, 56), (0, 57), (0, 58)] S0 S → rg x6 0 72 → 72 - x6.toInt < (n : Int) → Ex2 (f_M_missPull_L28 n x4 x5 x6 S) (fun r U => WR U ∧ Fr [2, 39] [(0, 5), (0, 56), (0, 57), (0, 58)] S0 U ∧ rg r 0 15) := by
  intro n
  induction n with
  | zero =>
    intro x4 x5 x6 S hW hF h2 hm
    exact up_0 h2 hm rfl
  | succ n ih =>
    intro x4 x5 x6 S hW hF h2 hm
    refine e_eq (f_M_missPull_L28.eq_2 _ _ _ _ _) ?_
    refine e_i (fun q1 => ?_) (fun q1 => ?_)
    · exact t_M_missPull_L62  NF _ _ _ _ hW hF ((rgl (0) 0 0 rfl).sub rfl) (up_n (rgl (0) 0 0 rfl) rfl)
    · have f3 := nle_r 71 (ro_0_56 hW) h2 q1 rfl
      refine e_grd (inb_g f3 rfl) ?_
      refine e_cE (t_M_weight hW (ro_39 hW _)) (fun u4 T4 p4 => ?_)
      obtain ⟨hW4, hT4, hr4⟩ := p4
      have hF4 := hF.tr hT4 rfl
      refine e_nmG (fun w6 hw6 => ?_)
      refine e_nmG (fun w7 hw7 => ?_)
      have f8 := rg_tr (rg_add 1 72 f3 (rgl (1) 1 1 rfl) rfl) hw7
      exact ih _ _ _ _ hW4 hF4 (f8.sub rfl) (up_s f3 hw7 hm rfl)
set_option maxRecDepth 20000 in
set_option maxHeartbeats 4000000 in
theorem t_M_missPull {a1 : Int32} {a2 : Int32} {S : SS} (hW : WR S) : Ex2 (f_M_missPull a1 a2 S) (fun r U => WR U ∧ Fr [2, 39] [(0, 5), (0, 56), (0, 57), (0, 58)] S U ∧ rg r 0 15 ∧ (r = 0 → rg a1 0 71 ∧ rg a2 0 1 ∧ ¬ U.1 0 29 ≤ a1)) := by
  have hF : Fr [2, 39] [(0, 5), (0, 56), (0, 57), (0, 58)] S S := Fr.rf
  refine e_eq (f_M_missPull.eq_1 _ _ _) ?_
  refine e_bnd ?_
  refine e_eq (f_M_missSide.eq_1 _ _ _ _) ?_
  refine e_bnd ?_
  refine e_eq (f_M_missThing.eq_1 _ _ _) ?_
  refine e_i (fun q1 => ?_) (fun q1 => ?_)
  · refine e_some ?_
    refine e_f (by decide) ?_
    refine e_some ?_
    refine e_f (by decide) ?_
    exact e_some ⟨hW, hF, ((rgl (3) 3 3 rfl).sub rfl), fun e => absurd e (d_ne (rgl (3) 3 3 rfl) (rgl 0 0 0 rfl) rfl)⟩
  · have f3 := nlt_l (rgt _) (rgl 0 0 0 rfl) q1
    refine e_i (fun q4 => ?_) (fun q4 => ?_)
    · have f5 := lt_l 71 f3 (rgl (72) 72 72 rfl) q4 rfl
      refine e_i (fun q6 => ?_) (fun q6 => ?_)
      · refine e_some ?_
        refine e_f (by decide) ?_
        refine e_some ?_
        refine e_f (by decide) ?_
        exact e_some ⟨hW, hF, ((rgl (1) 1 1 rfl).sub rfl), fun e => absurd e (d_ne (rgl (1) 1 1 rfl) (rgl 0 0 0 rfl) rfl)⟩
      · refine e_grd (inb_g f5 rfl) ?_
        refine e_i (fun q9 => ?_) (fun q9 => ?_)
        · refine e_some ?_
          refine e_f (by decide) ?_
          refine e_some ?_
          refine e_f (by decide) ?_
          exact e_some ⟨hW, hF, ((rgl (1) 1 1 rfl).sub rfl), fun e => absurd e (d_ne (rgl (1) 1 1 rfl) (rgl 0 0 0 rfl) rfl)⟩
        · refine e_bnd ?_
          refine e_eq (f_M_isSuch.eq_1 _ _ _) ?_
          refine e_grd (inb_g f5 rfl) ?_
          refine e_nmG (fun w12 hw12 => ?_)
          refine e_f (by decide) ?_
          refine e_t rfl ?_
          refine e_i (fun q13 => ?_) (fun q13 => ?_)
          · refine e_some ?_
            refine e_t (by decide) ?_
            refine e_some ?_
            refine e_f (by decide) ?_
            refine e_some ?_
            refine e_f (by decide) ?_
            exact e_some ⟨hW, hF, ((rgl (2) 2 2 rfl).sub rfl), fun e => absurd e (d_ne (rgl (2) 2 2 rfl) (rgl 0 0 0 rfl) rfl)⟩
          · refine e_some ?_
            refine e_f (by decide) ?_
            refine e_some ?_
            refine e_t (by decide) ?_
            refine e_bnd ?_
            refine e_eq (f_M_isSide.eq_1 _ _) ?_
            refine e_i (fun q18 => ?_) (fun q18 => ?_)
            · have f19 := rg_tr (rgl 0 0 0 rfl) q18
              refine e_some ?_
              refine e_f (by decide) ?_
              refine e_some ?_
              refine e_t (by decide) ?_
              refine e_cV (t_M_lineUp hW f5 q6) (fun T20 p20 => ?_)
              obtain ⟨hW20, hT20, hr20⟩ := p20
              have hF20 := hF.tr hT20 rfl
              exact e_mono (t_M_missPull_L28  NF _ _ _ _ hW20 hF20 ((rgl (0) 0 0 rfl).sub rfl) (up_n (rgl (0) 0 0 rfl) rfl)) (fun r U h => ⟨h.1, h.2.1, h.2.2, fun _ => ⟨f5, (f19.sub rfl), lm_tr q6 (h.2.1.1 0 29 rfl)⟩⟩)
            · refine e_i (fun q26 => ?_) (fun q26 => ?_)
              · have f27 := rg_tr (rgl (1) 1 1 rfl) q26
                refine e_some ?_
                refine e_f (by decide) ?_
                refine e_some ?_
                refine e_t (by decide) ?_
                refine e_cV (t_M_lineUp hW f5 q6) (fun T28 p28 => ?_)
                obtain ⟨hW28, hT28, hr28⟩ := p28
                have hF28 := hF.tr hT28 rfl
                exact e_mono (t_M_missPull_L28  NF _ _ _ _ hW28 hF28 ((rgl (0) 0 0 rfl).sub rfl) (up_n (rgl (0) 0 0 rfl) rfl)) (fun r U h => ⟨h.1, h.2.1, h.2.2, fun _ => ⟨f5, (f27.sub rfl), lm_tr q6 (h.2.1.1 0 29 rfl)⟩⟩)
              · refine e_some ?_
                refine e_t (by decide) ?_
                refine e_some ?_
                refine e_f (by decide) ?_
                exact e_some ⟨hW, hF, ((rgl (3) 3 3 rfl).sub rfl), fun e => absurd e (d_ne (rgl (3) 3 3 rfl) (rgl 0 0 0 rfl) rfl)⟩
    · refine e_some ?_
      refine e_f (by decide) ?_
      refine e_some ?_
      refine e_f (by decide) ?_
      exact e_some ⟨hW, hF, ((rgl (3) 3 3 rfl).sub rfl), fun e => absurd e (d_ne (rgl (3) 3 3 rfl) (rgl 0 0 0 rfl) rfl)⟩
set_option maxRecDepth 20000 in
set_option maxHeartbeats 4000000 in
theorem t_M_missStep_L62 {S0 : SS} : ∀ (n : Nat) (x2 : Int32) (S : SS), WR S → Fr [] [(0, 1), (0, 26), (0, 27), (0, 28)] S0 S → rg x2 0 72 → 72 - x2.toInt < (n : Int) → Ex2 (f_M_missStep_L62 n x2 S) (fun r U => WR U ∧ Fr [] [(0, 1), (0, 26), (0, 27), (0, 28)] S0 U ∧ rg r 0 10) := by
  intro n
  induction n with
  | zero =>
    intro x2 S hW hF h0 hm
    exact up_0 h0 hm rfl
  | succ n ih =>
    intro x2 S hW hF h0 hm
    refine e_eq (f_M_missStep_L62.eq_2 _ _ _) ?_
    refine e_i (fun q1 => ?_) (fun q1 => ?_)
    · exact e_some ⟨hW, hF, ((rgl (0) 0 0 rfl).sub rfl)⟩
    · have f3 := nle_r 71 (ro_0_70 hW) h0 q1 rfl
      refine e_grd (inb_g f3 rfl) ?_
      refine e_grd (inb_g (ro_44 hW _) rfl) ?_
      refine e_i (fun q4 => ?_) (fun q4 => ?_)
      · refine e_grd (inb_g f3 rfl) ?_
        refine e_bnd ?_
        refine e_eq (f_M_raised.eq_1 _ _) ?_
        refine e_grd (inb_g (ro_44 hW _) rfl) ?_
        refine e_wrO (fun T6 eT6 hT6 v6 => ?_)
        have hW6 := WR.st (k := 0) (i := 1) hW trivial rfl eT6
        have hF6 := hF.tr hT6 rfl
        refine e_grd (inb_g (ro_44 hW _) rfl) ?_
        refine e_i (fun q8 => ?_) (fun q8 => ?_)
        · refine e_some ?_
          exact e_some ⟨hW6, hF6, ((rgl (7) 7 7 rfl).sub rfl)⟩
        · refine e_some ?_
          exact e_some ⟨hW6, hF6, ((rgl (8) 8 8 rfl).sub rfl)⟩
      · refine e_nmG (fun w10 hw10 => ?_)
        have f11 := rg_tr (rg_add 1 72 f3 (rgl (1) 1 1 rfl) rfl) hw10
        exact ih _ _ hW hF (f11.sub rfl) (up_s f3 hw10 hm rfl)
set_option maxRecDepth 20000 in
set_option maxHeartbeats 4000000 in
theorem t_M_missStep {S : SS} (hW : WR S) : Ex2 (f_M_missStep  S) (fun r U => WR U ∧ Fr [] [(0, 1), (0, 26), (0, 27), (0, 28)] S U ∧ rg r 0 10) := by
  have hF : Fr [] [(0, 1), (0, 26), (0, 27), (0, 28)] S S := Fr.rf
  refine e_eq (f_M_missStep.eq_1 _) ?_
  refine e_grd (inb_g (rgl (0) 0 0 rfl) rfl) ?_
  refine e_nmG (fun w1 hw1 => ?_)
  have f2 := rg_tr (ro_44 hW _) hw1
  refine e_grd (inb_g f2 rfl) ?_
  refine e_grd (inb_g f2 rfl) ?_
  refine e_grd (inb_g (rgl (0) 0 0 rfl) rfl) ?_
  refine e_bnd ?_
  refine e_eq (f_M_wayOf.eq_1 _ _ _) ?_
  refine e_i (fun q3 => ?_) (fun q3 => ?_)
  · refine e_grd (inb_g f2 rfl) ?_
    refine e_someG (fun w5 hw5 => ?_)
    have f6 := rg_tr (ro_22 hW _) hw5
    refine e_cE (t_M_isOpen hW (ro_20 hW _) f6) (fun u7 T7 p7 => ?_)
    obtain ⟨hW7, hT7, hr7⟩ := p7
    have hF7 := hF.tr hT7 rfl
    refine e_i (fun q9 => ?_) (fun q9 => ?_)
    · exact e_some ⟨hW7, hF7, ((rgl (10) 10 10 rfl).sub rfl)⟩
    · refine e_cE (t_M_standing hW7) (fun u12 T12 p12 => ?_)
      obtain ⟨-, hT12, hr12⟩ := p12
      have eT12 := (fr_nil hT12).symm
      subst eT12
      refine e_i (fun q13 => ?_) (fun q13 => ?_)
      · exact t_M_missStep_L62  NF _ _ hW7 hF7 ((rgl (0) 0 0 rfl).sub rfl) (up_n (rgl (0) 0 0 rfl) rfl)
      · exact e_some ⟨hW7, hF7, ((rgl (9) 9 9 rfl).sub rfl)⟩
  · refine e_grd (inb_g f2 rfl) ?_
    refine e_someG (fun w17 hw17 => ?_)
    have f18 := rg_tr (rg_sb 0 1 (rgl (1) 1 1 rfl) (ro_22 hW _) rfl) hw17
    refine e_cE (t_M_isOpen hW (ro_20 hW _) f18) (fun u19 T19 p19 => ?_)
    obtain ⟨hW19, hT19, hr19⟩ := p19
    have hF19 := hF.tr hT19 rfl
    refine e_i (fun q21 => ?_) (fun q21 => ?_)
    · exact e_some ⟨hW19, hF19, ((rgl (10) 10 10 rfl).sub rfl)⟩
    · refine e_cE (t_M_standing hW19) (fun u24 T24 p24 => ?_)
      obtain ⟨-, hT24, hr24⟩ := p24
      have eT24 := (fr_nil hT24).symm
      subst eT24
      refine e_i (fun q25 => ?_) (fun q25 => ?_)
      · exact t_M_missStep_L62  NF _ _ hW19 hF19 ((rgl (0) 0 0 rfl).sub rfl) (up_n (rgl (0) 0 0 rfl) rfl)
      · exact e_some ⟨hW19, hF19, ((rgl (9) 9 9 rfl).sub rfl)⟩
set_option maxRecDepth 20000 in
set_option maxHeartbeats 4000000 in
theorem t_M_place {a1 : Int32} {a2 : Int32} {a3 : Int32} {a4 : Int32} {a5 : Int32} {S : SS} (hW : WR S) (h0 : rg a1 0 71) (h1 : rg a2 0 23) (h4 : rg a5 0 1) : Ew (f_M_place a1 a2 a3 a4 a5 S) (fun U => WR U ∧ Fr [20, 21, 22] [] S U) := by
  have hF : Fr [20, 21, 22] [] S S := Fr.rf
  refine v_eq (f_M_place.eq_1 _ _ _ _ _ _) ?_
  refine v_grd (inb_g h0 rfl) ?_
  refine v_wrA (fun T1 eT1 hT1 v1 => ?_)
  have hW1 := wo_20 hW h1 eT1
  have hF1 := hF.tr hT1 rfl
  refine v_grd (inb_g h0 rfl) ?_
  refine v_wrA (fun T3 eT3 hT3 v3 => ?_)
  have hW3 := WR.st (k := 21) hW1 trivial rfl eT3
  have hF3 := hF1.tr hT3 rfl
  refine v_i (fun q5 => ?_) (fun q5 => ?_)
  · refine v_grd (inb_g h0 rfl) ?_
    refine v_wrA (fun T7 eT7 hT7 v7 => ?_)
    have hW7 := wo_22 hW3 h4 eT7
    have hF7 := hF3.tr hT7 rfl
    exact v_some ⟨hW7, hF7⟩
  · refine v_grd (inb_g h0 rfl) ?_
    refine v_wrA (fun T10 eT10 hT10 v10 => ?_)
    have hW10 := wo_22 hW3 (rg_sb 0 1 (rgl (1) 1 1 rfl) h4 rfl) eT10
    have hF10 := hF3.tr hT10 rfl
    exact v_some ⟨hW10, hF10⟩
set_option maxRecDepth 20000 in
set_option maxHeartbeats 4000000 in
theorem t_M_goOn_L7 {S0 : SS} : ∀ (n : Nat) (x1 : Int32) (S : SS), WR S → Fr [20, 21, 22, 26] [] S0 S → rg x1 (-1) 71 → x1.toInt - (-1) < (n : Int) → Ew (f_M_goOn_L7 n x1 S) (fun U => WR U ∧ Fr [20, 21, 22, 26] [] S0 U) := by
  intro n
  induction n with
  | zero =>
    intro x1 S hW hF h0 hm
    exact dn_0 h0 hm rfl
  | succ n ih =>
    intro x1 S hW hF h0 hm
    refine v_eq (f_M_goOn_L7.eq_2 _ _ _) ?_
    refine v_i (fun q1 => ?_) (fun q1 => ?_)
    · exact v_some ⟨hW, hF⟩
    · have f3 := nlt_l h0 (rgl 0 0 0 rfl) q1
      refine v_grd (inb_g f3 rfl) ?_
      refine v_nmG (fun w4 hw4 => ?_)
      have f5 := rg_tr (ro_44 hW _) hw4
      refine v_grd (inb_g f5 rfl) ?_
      refine v_grd (inb_g f5 rfl) ?_
      refine v_i (fun q6 => ?_) (fun q6 => ?_)
      · have f7 := le_l (ro_26 hW _) (rgl 0 0 0 rfl) q6
        refine v_eq (f_M_goOn_j39.eq_1 _ _ _ _ _ _ _) ?_
        refine v_grd (inb_g f5 rfl) ?_
        refine v_wrA (fun T8 eT8 hT8 v8 => ?_)
        have hW8 := wo_26 hW ((rg_sb 0 0 f7 (rgl (0) 0 0 rfl) rfl).sub rfl) eT8
        have hF8 := hF.tr hT8 rfl
        refine v_i (fun q10 => ?_) (fun q10 => ?_)
        · have f11 := rg_tr (rgl 0 0 0 rfl) q10
          refine v_grd (inb_g (rgl (0) 0 0 rfl) rfl) ?_
          refine v_cV (t_M_place hW8 f5 (ro_0_26 hW8) (ro_0_28 hW8)) (fun T12 p12 => ?_)
          obtain ⟨hW12, hT12⟩ := p12
          have hF12 := hF8.tr hT12 rfl
          refine v_eq (f_M_goOn_j116.eq_1 _ _ _) ?_
          refine v_nmG (fun w14 hw14 => ?_)
          have f15 := rg_tr (rg_add (-1) (-1) f11 (rgl (-1) (-1) (-1) rfl) rfl) hw14
          exact ih _ _ hW12 hF12 (f15.sub rfl) (dn_sp f11 hw14 hm rfl)
        · have f16 := ne_l 1 f3 (rgl 0 0 0 rfl) q10 rfl
          refine v_grd (inb_g (rg_sb 0 70 f16 (rgl (1) 1 1 rfl) rfl) rfl) ?_
          refine v_nmG (fun w17 hw17 => ?_)
          have f18 := rg_tr (ro_44 hW8 _) hw17
          refine v_grd (inb_g f18 rfl) ?_
          refine v_grd (inb_g f18 rfl) ?_
          refine v_grd (inb_g f16 rfl) ?_
          refine v_grd (inb_g (rg_sb 0 70 f16 (rgl (1) 1 1 rfl) rfl) rfl) ?_
          refine v_bnd ?_
          refine e_eq (f_M_wayOf.eq_1 _ _ _) ?_
          refine e_i (fun q19 => ?_) (fun q19 => ?_)
          · refine e_grd (inb_g f18 rfl) ?_
            refine e_someG (fun w21 hw21 => ?_)
            have f22 := rg_tr (ro_22 hW8 _) hw21
            refine v_cV (t_M_place hW8 f5 (ro_20 hW8 _) f22) (fun T23 p23 => ?_)
            obtain ⟨hW23, hT23⟩ := p23
            have hF23 := hF8.tr hT23 rfl
            refine v_eq (f_M_goOn_j116.eq_1 _ _ _) ?_
            refine v_nmG (fun w26 hw26 => ?_)
            have f27 := rg_tr (rg_add 0 70 f16 (rgl (-1) (-1) (-1) rfl) rfl) hw26
            exact ih _ _ hW23 hF23 (f27.sub rfl) (dn_sp f16 hw26 hm rfl)
          · refine e_grd (inb_g f18 rfl) ?_
            refine e_someG (fun w29 hw29 => ?_)
            have f30 := rg_tr (rg_sb 0 1 (rgl (1) 1 1 rfl) (ro_22 hW8 _) rfl) hw29
            refine v_cV (t_M_place hW8 f5 (ro_20 hW8 _) f30) (fun T31 p31 => ?_)
            obtain ⟨hW31, hT31⟩ := p31
            have hF31 := hF8.tr hT31 rfl
            refine v_eq (f_M_goOn_j116.eq_1 _ _ _) ?_
            refine v_nmG (fun w34 hw34 => ?_)
            have f35 := rg_tr (rg_add 0 70 f16 (rgl (-1) (-1) (-1) rfl) rfl) hw34
            exact ih _ _ hW31 hF31 (f35.sub rfl) (dn_sp f16 hw34 hm rfl)
      · have f36 := nle_l 1 (ro_26 hW _) (rgl 0 0 0 rfl) q6 rfl
        refine v_eq (f_M_goOn_j39.eq_1 _ _ _ _ _ _ _) ?_
        refine v_grd (inb_g f5 rfl) ?_
        refine v_wrA (fun T37 eT37 hT37 v37 => ?_)
        have hW37 := wo_26 hW ((rg_sb 0 49 f36 (rgl (1) 1 1 rfl) rfl).sub rfl) eT37
        have hF37 := hF.tr hT37 rfl
        refine v_i (fun q39 => ?_) (fun q39 => ?_)
        · have f40 := rg_tr (rgl 0 0 0 rfl) q39
          refine v_grd (inb_g (rgl (0) 0 0 rfl) rfl) ?_
          refine v_cV (t_M_place hW37 f5 (ro_0_26 hW37) (ro_0_28 hW37)) (fun T41 p41 => ?_)
          obtain ⟨hW41, hT41⟩ := p41
          have hF41 := hF37.tr hT41 rfl
          refine v_eq (f_M_goOn_j116.eq_1 _ _ _) ?_
          refine v_nmG (fun w43 hw43 => ?_)
          have f44 := rg_tr (rg_add (-1) (-1) f40 (rgl (-1) (-1) (-1) rfl) rfl) hw43
          exact ih _ _ hW41 hF41 (f44.sub rfl) (dn_sp f40 hw43 hm rfl)
        · have f45 := ne_l 1 f3 (rgl 0 0 0 rfl) q39 rfl
          refine v_grd (inb_g (rg_sb 0 70 f45 (rgl (1) 1 1 rfl) rfl) rfl) ?_
          refine v_nmG (fun w46 hw46 => ?_)
          have f47 := rg_tr (ro_44 hW37 _) hw46
          refine v_grd (inb_g f47 rfl) ?_
          refine v_grd (inb_g f47 rfl) ?_
          refine v_grd (inb_g f45 rfl) ?_
          refine v_grd (inb_g (rg_sb 0 70 f45 (rgl (1) 1 1 rfl) rfl) rfl) ?_
          refine v_bnd ?_
          refine e_eq (f_M_wayOf.eq_1 _ _ _) ?_
          refine e_i (fun q48 => ?_) (fun q48 => ?_)
          · refine e_grd (inb_g f47 rfl) ?_
            refine e_someG (fun w50 hw50 => ?_)
            have f51 := rg_tr (ro_22 hW37 _) hw50
            refine v_cV (t_M_place hW37 f5 (ro_20 hW37 _) f51) (fun T52 p52 => ?_)
            obtain ⟨hW52, hT52⟩ := p52
            have hF52 := hF37.tr hT52 rfl
            refine v_eq (f_M_goOn_j116.eq_1 _ _ _) ?_
            refine v_nmG (fun w55 hw55 => ?_)
            have f56 := rg_tr (rg_add 0 70 f45 (rgl (-1) (-1) (-1) rfl) rfl) hw55
            exact ih _ _ hW52 hF52 (f56.sub rfl) (dn_sp f45 hw55 hm rfl)
          · refine e_grd (inb_g f47 rfl) ?_
            refine e_someG (fun w58 hw58 => ?_)
            have f59 := rg_tr (rg_sb 0 1 (rgl (1) 1 1 rfl) (ro_22 hW37 _) rfl) hw58
            refine v_cV (t_M_place hW37 f5 (ro_20 hW37 _) f59) (fun T60 p60 => ?_)
            obtain ⟨hW60, hT60⟩ := p60
            have hF60 := hF37.tr hT60 rfl
            refine v_eq (f_M_goOn_j116.eq_1 _ _ _) ?_
            refine v_nmG (fun w63 hw63 => ?_)
            have f64 := rg_tr (rg_add 0 70 f45 (rgl (-1) (-1) (-1) rfl) rfl) hw63
            exact ih _ _ hW60 hF60 (f64.sub rfl) (dn_sp f45 hw63 hm rfl)
set_option maxRecDepth 20000 in
set_option maxHeartbeats 4000000 in
theorem t_M_goOn {S : SS} (hW : WR S) : Ew (f_M_goOn  S) (fun U => WR U ∧ Fr [20, 21, 22, 26] [] S U) := by
  have hF : Fr [20, 21, 22, 26] [] S S := Fr.rf
  refine v_eq (f_M_goOn.eq_1 _) ?_
  refine v_nmG (fun w1 hw1 => ?_)
  have f2 := rg_tr (rg_sb (-1) 71 (ro_0_70 hW) (rgl (1) 1 1 rfl) rfl) hw1
  exact t_M_goOn_L7  NF _ _ hW hF f2 (dn_n f2 rfl)
set_option maxRecDepth 20000 in
set_option maxHeartbeats 4000000 in
theorem t_M_pull_L53 {S0 : SS} : ∀ (n : Nat) (x3 : Int32) (x4 : Int32) (S : SS), WR S → Fr [1, 2, 20, 21, 22, 26, 39, 40, 41, 42, 44, 45] [(0, 0), (0, 1), (0, 2), (0, 3), (0, 5), (0, 26), (0, 27), (0, 28), (0, 56), (0, 57), (0, 58), (0, 60), (0, 61), (0, 62), (0, 70)] S0 S → rg x3 1 200 → rg x4 0 200 → rg (S.1 0 62) 0 599 → 200 - x4.toInt < (n : Int) → Ex2 (f_M_pull_L53 n x3 x4 S) (fun r U => WR U ∧ Fr [1, 2, 20, 21, 22, 26, 39, 40, 41, 42, 44, 45] [(0, 0), (0, 1), (0, 2), (0, 3), (0, 5), (0, 26), (0, 27), (0, 28), (0, 56), (0, 57), (0, 58), (0, 60), (0, 61), (0, 62), (0, 70)] S0 U ∧ True) := by
  intro n
  induction n with
  | zero =>
    intro x3 x4 S hW hF h0 h1 hx0 hm
    exact up_0 h1 hm rfl
  | succ n ih =>
    intro x3 x4 S hW hF h0 h1 hx0 hm
    refine e_eq (f_M_pull_L53.eq_2 _ _ _ _) ?_
    refine e_i (fun q1 => ?_) (fun q1 => ?_)
    · refine e_cE (t_M_entered hW hx0) (fun u3 T3 p3 => ?_)
      obtain ⟨hW3, hT3, hr3⟩ := p3
      have hF3 := hF.tr hT3 rfl
      exact e_some ⟨hW3, hF3, trivial⟩
    · have f4 := nle_r 199 h0 h1 q1 rfl
      refine e_cE (t_M_missStep hW) (fun u5 T5 p5 => ?_)
      obtain ⟨hW5, hT5, hr5⟩ := p5
      have hF5 := hF.tr hT5 rfl
      have f6 := rg_tr hx0 (hT5.1 0 _ rfl)
      refine e_bnd ?_
      refine e_eq (f_M_ends.eq_1 _ _) ?_
      refine e_i (fun q7 => ?_) (fun q7 => ?_)
      · refine e_eq (f_M_ends_j10.eq_1 _ _) ?_
        refine e_t q7 ?_
        refine e_some ?_
        refine e_t (by decide) ?_
        refine e_cV (t_M_goOn hW5) (fun T9 p9 => ?_)
        obtain ⟨hW9, hT9⟩ := p9
        have hF9 := hF5.tr hT9 rfl
        have f10 := rg_tr f6 (hT9.1 0 _ rfl)
        refine e_wrO (fun T11 eT11 hT11 v11 => ?_)
        have hW11 := WR.st (k := 0) (i := 2) hW9 trivial rfl eT11
        have hF11 := hF9.tr hT11 rfl
        have f12 := rg_tr f10 (hT11.1 0 _ rfl)
        refine e_nmG (fun w13 hw13 => ?_)
        have f14 := rg_tr (rg_add 1 200 f4 (rgl (1) 1 1 rfl) rfl) hw13
        exact ih _ _ _ hW11 hF11 h0 (f14.sub rfl) f12 (up_s f4 hw13 hm rfl)
      · have f15 := ne_l 1 hr5 (rgl 0 0 0 rfl) q7 rfl
        refine e_cE (t_M_found hW5 (f15.sub rfl)) (fun u16 T16 p16 => ?_)
        obtain ⟨hW16, hT16, hr16⟩ := p16
        have hF16 := hF5.tr hT16 rfl
        have f17 := rg_tr f6 (hT16.1 0 _ rfl)
        refine e_eq (f_M_ends_j10.eq_1 _ _) ?_
        refine e_f q7 ?_
        refine e_some ?_
        refine e_f (by decide) ?_
        refine e_cE (t_M_entered hW16 f17) (fun u18 T18 p18 => ?_)
        obtain ⟨hW18, hT18, hr18⟩ := p18
        have hF18 := hF16.tr hT18 rfl
        exact e_some ⟨hW18, hF18, trivial⟩
set_option maxRecDepth 20000 in
set_option maxHeartbeats 4000000 in
theorem t_M_pull {a1 : Int32} {a2 : Int32} {a3 : Int32} {S : SS} (hW : WR S) (hx0 : rg (S.1 0 62) 0 599) : Ex2 (f_M_pull a1 a2 a3 S) (fun r U => WR U ∧ Fr [1, 2, 20, 21, 22, 26, 39, 40, 41, 42, 44, 45] [(0, 0), (0, 1), (0, 2), (0, 3), (0, 5), (0, 26), (0, 27), (0, 28), (0, 56), (0, 57), (0, 58), (0, 60), (0, 61), (0, 62), (0, 70)] S U ∧ True) := by
  have hF : Fr [1, 2, 20, 21, 22, 26, 39, 40, 41, 42, 44, 45] [(0, 0), (0, 1), (0, 2), (0, 3), (0, 5), (0, 26), (0, 27), (0, 28), (0, 56), (0, 57), (0, 58), (0, 60), (0, 61), (0, 62), (0, 70)] S S := Fr.rf
  refine e_eq (f_M_pull.eq_1 _ _ _ _) ?_
  refine e_i (fun q1 => ?_) (fun q1 => ?_)
  · exact e_some ⟨hW, hF, trivial⟩
  · have f3 := nlt_l (rgt _) (rgl (1) 1 1 rfl) q1
    refine e_i (fun q4 => ?_) (fun q4 => ?_)
    · have f5 := le_l f3 (rgl (200) 200 200 rfl) q4
      refine e_cV (t_M_begin hW) (fun T6 p6 => ?_)
      obtain ⟨hW6, hT6⟩ := p6
      have hF6 := hF.tr hT6 rfl
      have f7 := rg_tr hx0 (hT6.1 0 _ rfl)
      refine e_cV (t_M_keep hW6) (fun T8 p8 => ?_)
      obtain ⟨hW8, hT8⟩ := p8
      have hF8 := hF6.tr hT8 rfl
      have f9 := rg_tr f7 (hT8.1 0 _ rfl)
      refine e_cE (t_M_missPull hW8) (fun u10 T10 p10 => ?_)
      obtain ⟨hW10, hT10, hr10, hc10⟩ := p10
      have hF10 := hF8.tr hT10 rfl
      have f11 := rg_tr f9 (hT10.1 0 _ rfl)
      refine e_bnd ?_
      refine e_eq (f_M_ends.eq_1 _ _) ?_
      refine e_i (fun q12 => ?_) (fun q12 => ?_)
      · have f13 := (hc10 q12).1
        have f14 := (hc10 q12).2.1
        have m15 := (hc10 q12).2.2
        refine e_eq (f_M_ends_j10.eq_1 _ _) ?_
        refine e_t q12 ?_
        refine e_some ?_
        refine e_t (by decide) ?_
        refine e_cV (t_M_follow hW10 f13 f14 m15) (fun T17 p17 => ?_)
        obtain ⟨hW17, hT17⟩ := p17
        have hF17 := hF10.tr hT17 rfl
        have f18 := rg_tr f11 (hT17.1 0 _ rfl)
        exact t_M_pull_L53  NF _ _ _ hW17 hF17 f5 ((rgl (0) 0 0 rfl).sub rfl) f18 (up_n (rgl (0) 0 0 rfl) rfl)
      · have f20 := ne_l 1 hr10 (rgl 0 0 0 rfl) q12 rfl
        refine e_cE (t_M_found hW10 (f20.sub rfl)) (fun u21 T21 p21 => ?_)
        obtain ⟨hW21, hT21, hr21⟩ := p21
        have hF21 := hF10.tr hT21 rfl
        have f22 := rg_tr f11 (hT21.1 0 _ rfl)
        refine e_eq (f_M_ends_j10.eq_1 _ _) ?_
        refine e_f q12 ?_
        refine e_some ?_
        refine e_f (by decide) ?_
        refine e_cE (t_M_entered hW21 f22) (fun u23 T23 p23 => ?_)
        obtain ⟨hW23, hT23, hr23⟩ := p23
        have hF23 := hF21.tr hT23 rfl
        exact e_some ⟨hW23, hF23, trivial⟩
    · exact e_some ⟨hW, hF, trivial⟩
set_option maxRecDepth 20000 in
set_option maxHeartbeats 4000000 in
theorem t_M_heavy {a1 : Int32} {S : SS} (hW : WR S) (h0 : rg a1 0 71) : Ex2 (f_M_heavy a1 S) (fun r U => WR U ∧ Fr [2] [(0, 5)] S U ∧ rg r 0 5068) := by
  have hF : Fr [2] [(0, 5)] S S := Fr.rf
  refine e_eq (f_M_heavy.eq_1 _ _) ?_
  refine e_grd (inb_g h0 rfl) ?_
  refine e_i (fun q1 => ?_) (fun q1 => ?_)
  · have f2 := rg_tr (rgl (3) 3 3 rfl) q1
    refine e_cV (t_M_note hW) (fun T3 p3 => ?_)
    obtain ⟨hW3, hT3⟩ := p3
    have hF3 := hF.tr hT3 rfl
    have f4 := rg_tr f2 (hT3.1 18 _ rfl)
    refine e_eq (f_M_heavy_j16.eq_1 _ _) ?_
    refine e_cV (t_M_note hW3) (fun T5 p5 => ?_)
    obtain ⟨hW5, hT5⟩ := p5
    have hF5 := hF3.tr hT5 rfl
    have f6 := rg_tr f4 (hT5.1 18 _ rfl)
    refine e_cE (t_M_weight hW5 h0) (fun u7 T7 p7 => ?_)
    obtain ⟨hW7, hT7, hr7⟩ := p7
    have hF7 := hF5.tr hT7 rfl
    have f8 := rg_tr f6 (hT7.1 18 _ rfl)
    refine e_grd (inb_g h0 rfl) ?_
    refine e_grd (inb_g h0 rfl) ?_
    refine e_t (d_eq f8 (rgl (3) 3 3 rfl) rfl) ?_
    exact e_some ⟨hW7, hF7, ((rg_add 10 5068 (rg_add 0 5058 (rg_mul 0 5050 (rgl (2) 2 2 rfl) hr7 rfl) (ro_28 hW7 _) rfl) (rgl (10) 10 10 rfl) rfl).sub rfl)⟩
  · refine e_eq (f_M_heavy_j16.eq_1 _ _) ?_
    refine e_cV (t_M_note hW) (fun T9 p9 => ?_)
    obtain ⟨hW9, hT9⟩ := p9
    have hF9 := hF.tr hT9 rfl
    refine e_cE (t_M_weight hW9 h0) (fun u10 T10 p10 => ?_)
    obtain ⟨hW10, hT10, hr10⟩ := p10
    have hF10 := hF9.tr hT10 rfl
    refine e_grd (inb_g h0 rfl) ?_
    refine e_grd (inb_g h0 rfl) ?_
    refine e_i (fun q11 => ?_) (fun q11 => ?_)
    · exact e_some ⟨hW10, hF10, ((rg_add 10 5068 (rg_add 0 5058 (rg_mul 0 5050 (rgl (2) 2 2 rfl) hr10 rfl) (ro_28 hW10 _) rfl) (rgl (10) 10 10 rfl) rfl).sub rfl)⟩
    · exact e_some ⟨hW10, hF10, ((rg_add 0 5058 (rg_add 0 5058 (rg_mul 0 5050 (rgl (2) 2 2 rfl) hr10 rfl) (ro_28 hW10 _) rfl) (rgl (0) 0 0 rfl) rfl).sub rfl)⟩
