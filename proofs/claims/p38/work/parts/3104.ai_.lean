set_option maxRecDepth 20000 in
set_option maxHeartbeats 4000000 in
theorem t_M_kick {a1 : Int32} {a2 : Int32} {S : SS} (hW : WR S) (hx0 : rg (S.1 0 62) 0 599) (hx1 : rg (S.1 0 47) 0 599) : Ex2 (f_M_kick a1 a2 S) (fun r U => WR U ∧ Fr [1, 2, 30, 31, 32, 33, 40, 41, 42] [(0, 0), (0, 1), (0, 2), (0, 3), (0, 5), (0, 47), (0, 60), (0, 61), (0, 62)] S U ∧ True) := by
  have hF : Fr [1, 2, 30, 31, 32, 33, 40, 41, 42] [(0, 0), (0, 1), (0, 2), (0, 3), (0, 5), (0, 47), (0, 60), (0, 61), (0, 62)] S S := Fr.rf
  refine e_eq (f_M_kick.eq_1 _ _ _) ?_
  refine e_cV (t_M_begin hW) (fun T1 p1 => ?_)
  obtain ⟨hW1, hT1⟩ := p1
  have hF1 := hF.tr hT1 rfl
  have f2 := rg_tr hx0 (hT1.1 0 _ rfl)
  have f3 := rg_tr hx1 (hT1.1 0 _ rfl)
  refine e_cV (t_M_keep hW1) (fun T4 p4 => ?_)
  obtain ⟨hW4, hT4⟩ := p4
  have hF4 := hF1.tr hT4 rfl
  have f5 := rg_tr f2 (hT4.1 0 _ rfl)
  have f6 := rg_tr f3 (hT4.1 0 _ rfl)
  refine e_bnd ?_
  refine e_eq (f_M_missSide.eq_1 _ _ _ _) ?_
  refine e_bnd ?_
  refine e_eq (f_M_missThing.eq_1 _ _ _) ?_
  refine e_i (fun q7 => ?_) (fun q7 => ?_)
  · refine e_some ?_
    refine e_f (by decide) ?_
    refine e_some ?_
    refine e_f (by decide) ?_
    refine e_eq (f_M_kick_j69.eq_1 _ _ _ _) ?_
    refine e_bnd ?_
    refine e_eq (f_M_ends.eq_1 _ _) ?_
    refine e_f (by decide) ?_
    refine e_cE (t_M_found hW4 ((rgl (3) 3 3 rfl).sub rfl)) (fun u9 T9 p9 => ?_)
    obtain ⟨hW9, hT9, hr9⟩ := p9
    have hF9 := hF4.tr hT9 rfl
    have f10 := rg_tr f5 (hT9.1 0 _ rfl)
    refine e_eq (f_M_ends_j10.eq_1 _ _) ?_
    refine e_f (by decide) ?_
    refine e_some ?_
    refine e_f (by decide) ?_
    refine e_cE (t_M_entered hW9 f10) (fun u12 T12 p12 => ?_)
    obtain ⟨hW12, hT12, hr12⟩ := p12
    have hF12 := hF9.tr hT12 rfl
    exact e_some ⟨hW12, hF12, trivial⟩
  · have f14 := nlt_l (rgt _) (rgl 0 0 0 rfl) q7
    refine e_i (fun q15 => ?_) (fun q15 => ?_)
    · have f16 := lt_l 71 f14 (rgl (72) 72 72 rfl) q15 rfl
      refine e_i (fun q17 => ?_) (fun q17 => ?_)
      · refine e_some ?_
        refine e_f (by decide) ?_
        refine e_some ?_
        refine e_f (by decide) ?_
        refine e_eq (f_M_kick_j69.eq_1 _ _ _ _) ?_
        refine e_bnd ?_
        refine e_eq (f_M_ends.eq_1 _ _) ?_
        refine e_f (by decide) ?_
        refine e_cE (t_M_found hW4 ((rgl (1) 1 1 rfl).sub rfl)) (fun u19 T19 p19 => ?_)
        obtain ⟨hW19, hT19, hr19⟩ := p19
        have hF19 := hF4.tr hT19 rfl
        have f20 := rg_tr f5 (hT19.1 0 _ rfl)
        refine e_eq (f_M_ends_j10.eq_1 _ _) ?_
        refine e_f (by decide) ?_
        refine e_some ?_
        refine e_f (by decide) ?_
        refine e_cE (t_M_entered hW19 f20) (fun u23 T23 p23 => ?_)
        obtain ⟨hW23, hT23, hr23⟩ := p23
        have hF23 := hF19.tr hT23 rfl
        exact e_some ⟨hW23, hF23, trivial⟩
      · refine e_grd (inb_g f16 rfl) ?_
        refine e_i (fun q27 => ?_) (fun q27 => ?_)
        · refine e_some ?_
          refine e_f (by decide) ?_
          refine e_some ?_
          refine e_f (by decide) ?_
          refine e_eq (f_M_kick_j69.eq_1 _ _ _ _) ?_
          refine e_bnd ?_
          refine e_eq (f_M_ends.eq_1 _ _) ?_
          refine e_f (by decide) ?_
          refine e_cE (t_M_found hW4 ((rgl (1) 1 1 rfl).sub rfl)) (fun u29 T29 p29 => ?_)
          obtain ⟨hW29, hT29, hr29⟩ := p29
          have hF29 := hF4.tr hT29 rfl
          have f30 := rg_tr f5 (hT29.1 0 _ rfl)
          refine e_eq (f_M_ends_j10.eq_1 _ _) ?_
          refine e_f (by decide) ?_
          refine e_some ?_
          refine e_f (by decide) ?_
          refine e_cE (t_M_entered hW29 f30) (fun u35 T35 p35 => ?_)
          obtain ⟨hW35, hT35, hr35⟩ := p35
          have hF35 := hF29.tr hT35 rfl
          exact e_some ⟨hW35, hF35, trivial⟩
        · refine e_bnd ?_
          refine e_eq (f_M_isSuch.eq_1 _ _ _) ?_
          refine e_grd (inb_g f16 rfl) ?_
          refine e_nmG (fun w41 hw41 => ?_)
          refine e_t rfl ?_
          refine e_i (fun q42 => ?_) (fun q42 => ?_)
          · refine e_some ?_
            refine e_t (by decide) ?_
            refine e_some ?_
            refine e_f (by decide) ?_
            refine e_some ?_
            refine e_f (by decide) ?_
            refine e_eq (f_M_kick_j69.eq_1 _ _ _ _) ?_
            refine e_bnd ?_
            refine e_eq (f_M_ends.eq_1 _ _) ?_
            refine e_f (by decide) ?_
            refine e_cE (t_M_found hW4 ((rgl (2) 2 2 rfl).sub rfl)) (fun u45 T45 p45 => ?_)
            obtain ⟨hW45, hT45, hr45⟩ := p45
            have hF45 := hF4.tr hT45 rfl
            have f46 := rg_tr f5 (hT45.1 0 _ rfl)
            refine e_eq (f_M_ends_j10.eq_1 _ _) ?_
            refine e_f (by decide) ?_
            refine e_some ?_
            refine e_f (by decide) ?_
            refine e_cE (t_M_entered hW45 f46) (fun u52 T52 p52 => ?_)
            obtain ⟨hW52, hT52, hr52⟩ := p52
            have hF52 := hF45.tr hT52 rfl
            exact e_some ⟨hW52, hF52, trivial⟩
          · refine e_some ?_
            refine e_f (by decide) ?_
            refine e_some ?_
            refine e_t (by decide) ?_
            refine e_bnd ?_
            refine e_eq (f_M_isSide.eq_1 _ _) ?_
            refine e_i (fun q60 => ?_) (fun q60 => ?_)
            · refine e_some ?_
              refine e_f (by decide) ?_
              refine e_some ?_
              refine e_t (by decide) ?_
              refine e_grd (inb_g (rg_mul 0 142 (rgl (2) 2 2 rfl) f16 rfl) rfl) ?_
              refine e_i (fun q62 => ?_) (fun q62 => ?_)
              · refine e_grd (inb_g (rg_add 1 143 (rg_mul 0 142 (rgl (2) 2 2 rfl) f16 rfl) (rgl (1) 1 1 rfl) rfl) rfl) ?_
                refine e_i (fun q64 => ?_) (fun q64 => ?_)
                · refine e_grd (inb_g f16 rfl) ?_
                  refine e_i (fun q66 => ?_) (fun q66 => ?_)
                  · refine e_eq (f_M_kick_j68.eq_1 _ _ _ _) ?_
                    refine e_eq (f_M_kick_j69.eq_1 _ _ _ _) ?_
                    refine e_bnd ?_
                    refine e_eq (f_M_ends.eq_1 _ _) ?_
                    refine e_t (by decide) ?_
                    refine e_eq (f_M_ends_j10.eq_1 _ _) ?_
                    refine e_t (by decide) ?_
                    refine e_some ?_
                    refine e_t (by decide) ?_
                    refine e_cE (t_M_heavy hW4 f16) (fun u68 T68 p68 => ?_)
                    obtain ⟨hW68, hT68, hr68⟩ := p68
                    have hF68 := hF4.tr hT68 rfl
                    have f69 := rg_tr f5 (hT68.1 0 _ rfl)
                    have f70 := rg_tr f6 (hT68.1 0 _ rfl)
                    refine e_nmG (fun w78 hw78 => ?_)
                    have f79 := rg_tr (rg_div 0 126 40 hr68 (by decide) rfl) hw78
                    refine e_i (fun q80 => ?_) (fun q80 => ?_)
                    · have f81 := le_l f79 (rgl (7) 7 7 rfl) q80
                      refine e_eq (f_M_kick_j114.eq_1 _ _ _ _) ?_
                      refine e_grd (inb_g f81 rfl) ?_
                      refine e_nmG (fun w82 hw82 => ?_)
                      refine e_i (fun q83 => ?_) (fun q83 => ?_)
                      · refine e_eq (f_M_kick_j164.eq_1 _ _) ?_
                        refine e_cE (t_M_entered hW68 f69) (fun u86 T86 p86 => ?_)
                        obtain ⟨hW86, hT86, hr86⟩ := p86
                        have hF86 := hF68.tr hT86 rfl
                        exact e_some ⟨hW86, hF86, trivial⟩
                      · refine e_grd (inb_g f16 rfl) ?_
                        refine e_wrA (fun T98 eT98 hT98 v98 => ?_)
                        have hW98 := wo_31 hW68 (and1 _) eT98
                        have hF98 := hF68.tr hT98 rfl
                        have f99 := rg_tr f69 (hT98.1 0 _ rfl)
                        have f100 := rg_tr f70 (hT98.1 0 _ rfl)
                        refine e_grd (inb_g f16 rfl) ?_
                        refine e_wrA (fun T109 eT109 hT109 v109 => ?_)
                        have hW109 := WR.st (k := 30) hW98 trivial rfl eT109
                        have hF109 := hF98.tr hT109 rfl
                        have f110 := rg_tr f99 (hT109.1 0 _ rfl)
                        have f111 := rg_tr f100 (hT109.1 0 _ rfl)
                        refine e_grd (inb_g f16 rfl) ?_
                        refine e_wrA (fun T121 eT121 hT121 v121 => ?_)
                        have hW121 := WR.st (k := 32) hW109 trivial rfl eT121
                        have hF121 := hF109.tr hT121 rfl
                        have f122 := rg_tr f110 (hT121.1 0 _ rfl)
                        have f123 := rg_tr f111 (hT121.1 0 _ rfl)
                        refine e_wrO (fun T134 eT134 hT134 v134 => ?_)
                        have hW134 := wo_0_47 hW121 ((rg_add 1 600 f123 (rgl (1) 1 1 rfl) rfl).sub rfl) eT134
                        have hF134 := hF121.tr hT134 rfl
                        have f135 := rg_tr f122 (hT134.1 0 _ rfl)
                        have f146 := rg_tr (rg_add 1 600 f123 (rgl (1) 1 1 rfl) rfl) v134
                        refine e_grd (inb_g f16 rfl) ?_
                        refine e_wrA (fun T147 eT147 hT147 v147 => ?_)
                        have hW147 := wo_33 hW134 (f146.sub rfl) eT147
                        have hF147 := hF134.tr hT147 rfl
                        have f148 := rg_tr f135 (hT147.1 0 _ rfl)
                        refine e_eq (f_M_kick_j164.eq_1 _ _) ?_
                        refine e_cE (t_M_entered hW147 f148) (fun u161 T161 p161 => ?_)
                        obtain ⟨hW161, hT161, hr161⟩ := p161
                        have hF161 := hF147.tr hT161 rfl
                        exact e_some ⟨hW161, hF161, trivial⟩
                    · refine e_eq (f_M_kick_j114.eq_1 _ _ _ _) ?_
                      refine e_grd (inb_g (rgl (7) 7 7 rfl) rfl) ?_
                      refine e_nmG (fun w175 hw175 => ?_)
                      refine e_i (fun q176 => ?_) (fun q176 => ?_)
                      · refine e_eq (f_M_kick_j164.eq_1 _ _) ?_
                        refine e_cE (t_M_entered hW68 f69) (fun u179 T179 p179 => ?_)
                        obtain ⟨hW179, hT179, hr179⟩ := p179
                        have hF179 := hF68.tr hT179 rfl
                        exact e_some ⟨hW179, hF179, trivial⟩
                      · refine e_grd (inb_g f16 rfl) ?_
                        refine e_wrA (fun T191 eT191 hT191 v191 => ?_)
                        have hW191 := wo_31 hW68 (and1 _) eT191
                        have hF191 := hF68.tr hT191 rfl
                        have f192 := rg_tr f69 (hT191.1 0 _ rfl)
                        have f193 := rg_tr f70 (hT191.1 0 _ rfl)
                        refine e_grd (inb_g f16 rfl) ?_
                        refine e_wrA (fun T202 eT202 hT202 v202 => ?_)
                        have hW202 := WR.st (k := 30) hW191 trivial rfl eT202
                        have hF202 := hF191.tr hT202 rfl
                        have f203 := rg_tr f192 (hT202.1 0 _ rfl)
                        have f204 := rg_tr f193 (hT202.1 0 _ rfl)
                        refine e_grd (inb_g f16 rfl) ?_
                        refine e_wrA (fun T214 eT214 hT214 v214 => ?_)
                        have hW214 := WR.st (k := 32) hW202 trivial rfl eT214
                        have hF214 := hF202.tr hT214 rfl
                        have f215 := rg_tr f203 (hT214.1 0 _ rfl)
                        have f216 := rg_tr f204 (hT214.1 0 _ rfl)
                        refine e_wrO (fun T227 eT227 hT227 v227 => ?_)
                        have hW227 := wo_0_47 hW214 ((rg_add 1 600 f216 (rgl (1) 1 1 rfl) rfl).sub rfl) eT227
                        have hF227 := hF214.tr hT227 rfl
                        have f228 := rg_tr f215 (hT227.1 0 _ rfl)
                        have f239 := rg_tr (rg_add 1 600 f216 (rgl (1) 1 1 rfl) rfl) v227
                        refine e_grd (inb_g f16 rfl) ?_
                        refine e_wrA (fun T240 eT240 hT240 v240 => ?_)
                        have hW240 := wo_33 hW227 (f239.sub rfl) eT240
                        have hF240 := hF227.tr hT240 rfl
                        have f241 := rg_tr f228 (hT240.1 0 _ rfl)
                        refine e_eq (f_M_kick_j164.eq_1 _ _) ?_
                        refine e_cE (t_M_entered hW240 f241) (fun u254 T254 p254 => ?_)
                        obtain ⟨hW254, hT254, hr254⟩ := p254
                        have hF254 := hF240.tr hT254 rfl
                        exact e_some ⟨hW254, hF254, trivial⟩
                  · refine e_eq (f_M_kick_j68.eq_1 _ _ _ _) ?_
                    refine e_eq (f_M_kick_j69.eq_1 _ _ _ _) ?_
                    refine e_bnd ?_
                    refine e_eq (f_M_ends.eq_1 _ _) ?_
                    refine e_f (by decide) ?_
                    refine e_cE (t_M_found hW4 ((rgl (16) 16 16 rfl).sub rfl)) (fun u268 T268 p268 => ?_)
                    obtain ⟨hW268, hT268, hr268⟩ := p268
                    have hF268 := hF4.tr hT268 rfl
                    have f269 := rg_tr f5 (hT268.1 0 _ rfl)
                    refine e_eq (f_M_ends_j10.eq_1 _ _) ?_
                    refine e_f (by decide) ?_
                    refine e_some ?_
                    refine e_f (by decide) ?_
                    refine e_cE (t_M_entered hW268 f269) (fun u278 T278 p278 => ?_)
                    obtain ⟨hW278, hT278, hr278⟩ := p278
                    have hF278 := hF268.tr hT278 rfl
                    exact e_some ⟨hW278, hF278, trivial⟩
                · refine e_eq (f_M_kick_j48.eq_1 _ _ _) ?_
                  refine e_eq (f_M_kick_j68.eq_1 _ _ _ _) ?_
                  refine e_eq (f_M_kick_j69.eq_1 _ _ _ _) ?_
                  refine e_bnd ?_
                  refine e_eq (f_M_ends.eq_1 _ _) ?_
                  refine e_f (by decide) ?_
                  refine e_cE (t_M_found hW4 ((rgl (14) 14 14 rfl).sub rfl)) (fun u288 T288 p288 => ?_)
                  obtain ⟨hW288, hT288, hr288⟩ := p288
                  have hF288 := hF4.tr hT288 rfl
                  have f289 := rg_tr f5 (hT288.1 0 _ rfl)
                  refine e_eq (f_M_ends_j10.eq_1 _ _) ?_
                  refine e_f (by decide) ?_
                  refine e_some ?_
                  refine e_f (by decide) ?_
                  refine e_cE (t_M_entered hW288 f289) (fun u297 T297 p297 => ?_)
                  obtain ⟨hW297, hT297, hr297⟩ := p297
                  have hF297 := hF288.tr hT297 rfl
                  exact e_some ⟨hW297, hF297, trivial⟩
              · refine e_eq (f_M_kick_j48.eq_1 _ _ _) ?_
                refine e_eq (f_M_kick_j68.eq_1 _ _ _ _) ?_
                refine e_eq (f_M_kick_j69.eq_1 _ _ _ _) ?_
                refine e_bnd ?_
                refine e_eq (f_M_ends.eq_1 _ _) ?_
                refine e_f (by decide) ?_
                refine e_cE (t_M_found hW4 ((rgl (14) 14 14 rfl).sub rfl)) (fun u306 T306 p306 => ?_)
                obtain ⟨hW306, hT306, hr306⟩ := p306
                have hF306 := hF4.tr hT306 rfl
                have f307 := rg_tr f5 (hT306.1 0 _ rfl)
                refine e_eq (f_M_ends_j10.eq_1 _ _) ?_
                refine e_f (by decide) ?_
                refine e_some ?_
                refine e_f (by decide) ?_
                refine e_cE (t_M_entered hW306 f307) (fun u314 T314 p314 => ?_)
                obtain ⟨hW314, hT314, hr314⟩ := p314
                have hF314 := hF306.tr hT314 rfl
                exact e_some ⟨hW314, hF314, trivial⟩
            · refine e_i (fun q321 => ?_) (fun q321 => ?_)
              · refine e_some ?_
                refine e_f (by decide) ?_
                refine e_some ?_
                refine e_t (by decide) ?_
                refine e_grd (inb_g (rg_mul 0 142 (rgl (2) 2 2 rfl) f16 rfl) rfl) ?_
                refine e_i (fun q323 => ?_) (fun q323 => ?_)
                · refine e_grd (inb_g (rg_add 1 143 (rg_mul 0 142 (rgl (2) 2 2 rfl) f16 rfl) (rgl (1) 1 1 rfl) rfl) rfl) ?_
                  refine e_i (fun q325 => ?_) (fun q325 => ?_)
                  · refine e_grd (inb_g f16 rfl) ?_
                    refine e_i (fun q327 => ?_) (fun q327 => ?_)
                    · refine e_eq (f_M_kick_j68.eq_1 _ _ _ _) ?_
                      refine e_eq (f_M_kick_j69.eq_1 _ _ _ _) ?_
                      refine e_bnd ?_
                      refine e_eq (f_M_ends.eq_1 _ _) ?_
                      refine e_t (by decide) ?_
                      refine e_eq (f_M_ends_j10.eq_1 _ _) ?_
                      refine e_t (by decide) ?_
                      refine e_some ?_
                      refine e_t (by decide) ?_
                      refine e_cE (t_M_heavy hW4 f16) (fun u329 T329 p329 => ?_)
                      obtain ⟨hW329, hT329, hr329⟩ := p329
                      have hF329 := hF4.tr hT329 rfl
                      have f330 := rg_tr f5 (hT329.1 0 _ rfl)
                      have f331 := rg_tr f6 (hT329.1 0 _ rfl)
                      refine e_nmG (fun w339 hw339 => ?_)
                      have f340 := rg_tr (rg_div 0 126 40 hr329 (by decide) rfl) hw339
                      refine e_i (fun q341 => ?_) (fun q341 => ?_)
                      · have f342 := le_l f340 (rgl (7) 7 7 rfl) q341
                        refine e_eq (f_M_kick_j114.eq_1 _ _ _ _) ?_
                        refine e_grd (inb_g f342 rfl) ?_
                        refine e_nmG (fun w343 hw343 => ?_)
                        refine e_i (fun q344 => ?_) (fun q344 => ?_)
                        · refine e_eq (f_M_kick_j164.eq_1 _ _) ?_
                          refine e_cE (t_M_entered hW329 f330) (fun u347 T347 p347 => ?_)
                          obtain ⟨hW347, hT347, hr347⟩ := p347
                          have hF347 := hF329.tr hT347 rfl
                          exact e_some ⟨hW347, hF347, trivial⟩
                        · refine e_grd (inb_g f16 rfl) ?_
                          refine e_wrA (fun T359 eT359 hT359 v359 => ?_)
                          have hW359 := wo_31 hW329 (and1 _) eT359
                          have hF359 := hF329.tr hT359 rfl
                          have f360 := rg_tr f330 (hT359.1 0 _ rfl)
                          have f361 := rg_tr f331 (hT359.1 0 _ rfl)
                          refine e_grd (inb_g f16 rfl) ?_
                          refine e_wrA (fun T370 eT370 hT370 v370 => ?_)
                          have hW370 := WR.st (k := 30) hW359 trivial rfl eT370
                          have hF370 := hF359.tr hT370 rfl
                          have f371 := rg_tr f360 (hT370.1 0 _ rfl)
                          have f372 := rg_tr f361 (hT370.1 0 _ rfl)
                          refine e_grd (inb_g f16 rfl) ?_
                          refine e_wrA (fun T382 eT382 hT382 v382 => ?_)
                          have hW382 := WR.st (k := 32) hW370 trivial rfl eT382
                          have hF382 := hF370.tr hT382 rfl
                          have f383 := rg_tr f371 (hT382.1 0 _ rfl)
                          have f384 := rg_tr f372 (hT382.1 0 _ rfl)
                          refine e_wrO (fun T395 eT395 hT395 v395 => ?_)
                          have hW395 := wo_0_47 hW382 ((rg_add 1 600 f384 (rgl (1) 1 1 rfl) rfl).sub rfl) eT395
                          have hF395 := hF382.tr hT395 rfl
                          have f396 := rg_tr f383 (hT395.1 0 _ rfl)
                          have f407 := rg_tr (rg_add 1 600 f384 (rgl (1) 1 1 rfl) rfl) v395
                          refine e_grd (inb_g f16 rfl) ?_
                          refine e_wrA (fun T408 eT408 hT408 v408 => ?_)
                          have hW408 := wo_33 hW395 (f407.sub rfl) eT408
                          have hF408 := hF395.tr hT408 rfl
                          have f409 := rg_tr f396 (hT408.1 0 _ rfl)
                          refine e_eq (f_M_kick_j164.eq_1 _ _) ?_
                          refine e_cE (t_M_entered hW408 f409) (fun u422 T422 p422 => ?_)
                          obtain ⟨hW422, hT422, hr422⟩ := p422
                          have hF422 := hF408.tr hT422 rfl
                          exact e_some ⟨hW422, hF422, trivial⟩
                      · refine e_eq (f_M_kick_j114.eq_1 _ _ _ _) ?_
                        refine e_grd (inb_g (rgl (7) 7 7 rfl) rfl) ?_
                        refine e_nmG (fun w436 hw436 => ?_)
                        refine e_i (fun q437 => ?_) (fun q437 => ?_)
                        · refine e_eq (f_M_kick_j164.eq_1 _ _) ?_
                          refine e_cE (t_M_entered hW329 f330) (fun u440 T440 p440 => ?_)
                          obtain ⟨hW440, hT440, hr440⟩ := p440
                          have hF440 := hF329.tr hT440 rfl
                          exact e_some ⟨hW440, hF440, trivial⟩
                        · refine e_grd (inb_g f16 rfl) ?_
                          refine e_wrA (fun T452 eT452 hT452 v452 => ?_)
                          have hW452 := wo_31 hW329 (and1 _) eT452
                          have hF452 := hF329.tr hT452 rfl
                          have f453 := rg_tr f330 (hT452.1 0 _ rfl)
                          have f454 := rg_tr f331 (hT452.1 0 _ rfl)
                          refine e_grd (inb_g f16 rfl) ?_
                          refine e_wrA (fun T463 eT463 hT463 v463 => ?_)
                          have hW463 := WR.st (k := 30) hW452 trivial rfl eT463
                          have hF463 := hF452.tr hT463 rfl
                          have f464 := rg_tr f453 (hT463.1 0 _ rfl)
                          have f465 := rg_tr f454 (hT463.1 0 _ rfl)
                          refine e_grd (inb_g f16 rfl) ?_
                          refine e_wrA (fun T475 eT475 hT475 v475 => ?_)
                          have hW475 := WR.st (k := 32) hW463 trivial rfl eT475
                          have hF475 := hF463.tr hT475 rfl
                          have f476 := rg_tr f464 (hT475.1 0 _ rfl)
                          have f477 := rg_tr f465 (hT475.1 0 _ rfl)
                          refine e_wrO (fun T488 eT488 hT488 v488 => ?_)
                          have hW488 := wo_0_47 hW475 ((rg_add 1 600 f477 (rgl (1) 1 1 rfl) rfl).sub rfl) eT488
                          have hF488 := hF475.tr hT488 rfl
                          have f489 := rg_tr f476 (hT488.1 0 _ rfl)
                          have f500 := rg_tr (rg_add 1 600 f477 (rgl (1) 1 1 rfl) rfl) v488
                          refine e_grd (inb_g f16 rfl) ?_
                          refine e_wrA (fun T501 eT501 hT501 v501 => ?_)
                          have hW501 := wo_33 hW488 (f500.sub rfl) eT501
                          have hF501 := hF488.tr hT501 rfl
                          have f502 := rg_tr f489 (hT501.1 0 _ rfl)
                          refine e_eq (f_M_kick_j164.eq_1 _ _) ?_
                          refine e_cE (t_M_entered hW501 f502) (fun u515 T515 p515 => ?_)
                          obtain ⟨hW515, hT515, hr515⟩ := p515
                          have hF515 := hF501.tr hT515 rfl
                          exact e_some ⟨hW515, hF515, trivial⟩
                    · refine e_eq (f_M_kick_j68.eq_1 _ _ _ _) ?_
                      refine e_eq (f_M_kick_j69.eq_1 _ _ _ _) ?_
                      refine e_bnd ?_
                      refine e_eq (f_M_ends.eq_1 _ _) ?_
                      refine e_f (by decide) ?_
                      refine e_cE (t_M_found hW4 ((rgl (16) 16 16 rfl).sub rfl)) (fun u529 T529 p529 => ?_)
                      obtain ⟨hW529, hT529, hr529⟩ := p529
                      have hF529 := hF4.tr hT529 rfl
                      have f530 := rg_tr f5 (hT529.1 0 _ rfl)
                      refine e_eq (f_M_ends_j10.eq_1 _ _) ?_
                      refine e_f (by decide) ?_
                      refine e_some ?_
                      refine e_f (by decide) ?_
                      refine e_cE (t_M_entered hW529 f530) (fun u539 T539 p539 => ?_)
                      obtain ⟨hW539, hT539, hr539⟩ := p539
                      have hF539 := hF529.tr hT539 rfl
                      exact e_some ⟨hW539, hF539, trivial⟩
                  · refine e_eq (f_M_kick_j48.eq_1 _ _ _) ?_
                    refine e_eq (f_M_kick_j68.eq_1 _ _ _ _) ?_
                    refine e_eq (f_M_kick_j69.eq_1 _ _ _ _) ?_
                    refine e_bnd ?_
                    refine e_eq (f_M_ends.eq_1 _ _) ?_
                    refine e_f (by decide) ?_
                    refine e_cE (t_M_found hW4 ((rgl (14) 14 14 rfl).sub rfl)) (fun u549 T549 p549 => ?_)
                    obtain ⟨hW549, hT549, hr549⟩ := p549
                    have hF549 := hF4.tr hT549 rfl
                    have f550 := rg_tr f5 (hT549.1 0 _ rfl)
                    refine e_eq (f_M_ends_j10.eq_1 _ _) ?_
                    refine e_f (by decide) ?_
                    refine e_some ?_
                    refine e_f (by decide) ?_
                    refine e_cE (t_M_entered hW549 f550) (fun u558 T558 p558 => ?_)
                    obtain ⟨hW558, hT558, hr558⟩ := p558
                    have hF558 := hF549.tr hT558 rfl
                    exact e_some ⟨hW558, hF558, trivial⟩
                · refine e_eq (f_M_kick_j48.eq_1 _ _ _) ?_
                  refine e_eq (f_M_kick_j68.eq_1 _ _ _ _) ?_
                  refine e_eq (f_M_kick_j69.eq_1 _ _ _ _) ?_
                  refine e_bnd ?_
                  refine e_eq (f_M_ends.eq_1 _ _) ?_
                  refine e_f (by decide) ?_
                  refine e_cE (t_M_found hW4 ((rgl (14) 14 14 rfl).sub rfl)) (fun u567 T567 p567 => ?_)
                  obtain ⟨hW567, hT567, hr567⟩ := p567
                  have hF567 := hF4.tr hT567 rfl
                  have f568 := rg_tr f5 (hT567.1 0 _ rfl)
                  refine e_eq (f_M_ends_j10.eq_1 _ _) ?_
                  refine e_f (by decide) ?_
                  refine e_some ?_
                  refine e_f (by decide) ?_
                  refine e_cE (t_M_entered hW567 f568) (fun u575 T575 p575 => ?_)
                  obtain ⟨hW575, hT575, hr575⟩ := p575
                  have hF575 := hF567.tr hT575 rfl
                  exact e_some ⟨hW575, hF575, trivial⟩
              · refine e_some ?_
                refine e_t (by decide) ?_
                refine e_some ?_
                refine e_f (by decide) ?_
                refine e_eq (f_M_kick_j69.eq_1 _ _ _ _) ?_
                refine e_bnd ?_
                refine e_eq (f_M_ends.eq_1 _ _) ?_
                refine e_f (by decide) ?_
                refine e_cE (t_M_found hW4 ((rgl (3) 3 3 rfl).sub rfl)) (fun u582 T582 p582 => ?_)
                obtain ⟨hW582, hT582, hr582⟩ := p582
                have hF582 := hF4.tr hT582 rfl
                have f583 := rg_tr f5 (hT582.1 0 _ rfl)
                refine e_eq (f_M_ends_j10.eq_1 _ _) ?_
                refine e_f (by decide) ?_
                refine e_some ?_
                refine e_f (by decide) ?_
                refine e_cE (t_M_entered hW582 f583) (fun u589 T589 p589 => ?_)
                obtain ⟨hW589, hT589, hr589⟩ := p589
                have hF589 := hF582.tr hT589 rfl
                exact e_some ⟨hW589, hF589, trivial⟩
    · refine e_some ?_
      refine e_f (by decide) ?_
      refine e_some ?_
      refine e_f (by decide) ?_
      refine e_eq (f_M_kick_j69.eq_1 _ _ _ _) ?_
      refine e_bnd ?_
      refine e_eq (f_M_ends.eq_1 _ _) ?_
      refine e_f (by decide) ?_
      refine e_cE (t_M_found hW4 ((rgl (3) 3 3 rfl).sub rfl)) (fun u596 T596 p596 => ?_)
      obtain ⟨hW596, hT596, hr596⟩ := p596
      have hF596 := hF4.tr hT596 rfl
      have f597 := rg_tr f5 (hT596.1 0 _ rfl)
      refine e_eq (f_M_ends_j10.eq_1 _ _) ?_
      refine e_f (by decide) ?_
      refine e_some ?_
      refine e_f (by decide) ?_
      refine e_cE (t_M_entered hW596 f597) (fun u599 T599 p599 => ?_)
      obtain ⟨hW599, hT599, hr599⟩ := p599
      have hF599 := hF596.tr hT599 rfl
      exact e_some ⟨hW599, hF599, trivial⟩
set_option maxRecDepth 20000 in
set_option maxHeartbeats 4000000 in
theorem t_M_running_L4 {S0 : SS} : ∀ (n : Nat) (x1 : Int32) (x2 : Int32) (S : SS), WR S → Fr [] [] S0 S → rg x2 0 72 → 72 - x2.toInt < (n : Int) → Ex2 (f_M_running_L4 n x1 x2 S) (fun r U => WR U ∧ Fr [] [] S0 U ∧ True) := by
  intro n
  induction n with
  | zero =>
    intro x1 x2 S hW hF h1 hm
    exact up_0 h1 hm rfl
  | succ n ih =>
    intro x1 x2 S hW hF h1 hm
    refine e_eq (f_M_running_L4.eq_2 _ _ _ _) ?_
    refine e_i (fun q1 => ?_) (fun q1 => ?_)
    · exact e_some ⟨hW, hF, trivial⟩
    · have f3 := nle_r 71 (ro_0_29 hW) h1 q1 rfl
      refine e_grd (inb_g f3 rfl) ?_
      refine e_i (fun q4 => ?_) (fun q4 => ?_)
      · refine e_eq (f_M_running_j35.eq_1 _ _ _ _) ?_
        refine e_eq (f_M_running_j36.eq_1 _ _ _ _ _) ?_
        refine e_nmG (fun w6 hw6 => ?_)
        refine e_nmG (fun w7 hw7 => ?_)
        have f8 := rg_tr (rg_add 1 72 f3 (rgl (1) 1 1 rfl) rfl) hw7
        exact ih _ _ _ hW hF (f8.sub rfl) (up_s f3 hw7 hm rfl)
      · refine e_grd (inb_g f3 rfl) ?_
        refine e_i (fun q10 => ?_) (fun q10 => ?_)
        · refine e_eq (f_M_running_j35.eq_1 _ _ _ _) ?_
          refine e_eq (f_M_running_j36.eq_1 _ _ _ _ _) ?_
          refine e_nmG (fun w12 hw12 => ?_)
          refine e_nmG (fun w13 hw13 => ?_)
          have f14 := rg_tr (rg_add 1 72 f3 (rgl (1) 1 1 rfl) rfl) hw13
          exact ih _ _ _ hW hF (f14.sub rfl) (up_s f3 hw13 hm rfl)
        · refine e_eq (f_M_running_j36.eq_1 _ _ _ _ _) ?_
          refine e_nmG (fun w16 hw16 => ?_)
          refine e_nmG (fun w17 hw17 => ?_)
          have f18 := rg_tr (rg_add 1 72 f3 (rgl (1) 1 1 rfl) rfl) hw17
          exact ih _ _ _ hW hF (f18.sub rfl) (up_s f3 hw17 hm rfl)
set_option maxRecDepth 20000 in
set_option maxHeartbeats 4000000 in
theorem t_M_running {S : SS} (hW : WR S) : Ex2 (f_M_running  S) (fun r U => WR U ∧ Fr [] [] S U ∧ True) := by
  have hF : Fr [] [] S S := Fr.rf
  refine e_eq (f_M_running.eq_1 _) ?_
  exact t_M_running_L4  NF _ _ _ hW hF ((rgl (0) 0 0 rfl).sub rfl) (up_n (rgl (0) 0 0 rfl) rfl)
set_option maxRecDepth 20000 in
set_option maxHeartbeats 4000000 in
theorem t_M_nextRunning_L5 {S0 : SS} : ∀ (n : Nat) (x1 : Int32) (x2 : Int32) (x3 : Int32) (S : SS), WR S → Fr [] [] S0 S → rn x2 0 71 → rg x3 0 72 → 72 - x3.toInt < (n : Int) → Ex2 (f_M_nextRunning_L5 n x1 x2 x3 S) (fun r U => WR U ∧ Fr [] [] S0 U ∧ rn r 0 71) := by
  intro n
  induction n with
  | zero =>
    intro x1 x2 x3 S hW hF h1 h2 hm
    exact up_0 h2 hm rfl
  | succ n ih =>
    intro x1 x2 x3 S hW hF h1 h2 hm
    refine e_eq (f_M_nextRunning_L5.eq_2 _ _ _ _ _) ?_
    refine e_i (fun q1 => ?_) (fun q1 => ?_)
    · exact e_some ⟨hW, hF, h1⟩
    · have f3 := nle_r 71 (ro_0_29 hW) h2 q1 rfl
      refine e_grd (inb_g f3 rfl) ?_
      refine e_i (fun q4 => ?_) (fun q4 => ?_)
      · refine e_eq (f_M_nextRunning_j64.eq_1 _ _ _ _ _) ?_
        refine e_nmG (fun w6 hw6 => ?_)
        have f7 := rg_tr (rg_add 1 72 f3 (rgl (1) 1 1 rfl) rfl) hw6
        exact ih _ _ _ _ hW hF h1 (f7.sub rfl) (up_s f3 hw6 hm rfl)
      · refine e_grd (inb_g f3 rfl) ?_
        refine e_i (fun q9 => ?_) (fun q9 => ?_)
        · refine e_eq (f_M_nextRunning_j64.eq_1 _ _ _ _ _) ?_
          refine e_nmG (fun w11 hw11 => ?_)
          have f12 := rg_tr (rg_add 1 72 f3 (rgl (1) 1 1 rfl) rfl) hw11
          exact ih _ _ _ _ hW hF h1 (f12.sub rfl) (up_s f3 hw11 hm rfl)
        · refine e_grd (inb_g f3 rfl) ?_
          refine e_i (fun q14 => ?_) (fun q14 => ?_)
          · refine e_eq (f_M_nextRunning_j64.eq_1 _ _ _ _ _) ?_
            refine e_nmG (fun w16 hw16 => ?_)
            have f17 := rg_tr (rg_add 1 72 f3 (rgl (1) 1 1 rfl) rfl) hw16
            exact ih _ _ _ _ hW hF h1 (f17.sub rfl) (up_s f3 hw16 hm rfl)
          · refine e_i (fun q19 => ?_) (fun q19 => ?_)
            · refine e_eq (f_M_nextRunning_j62.eq_1 _ _ _ _) ?_
              refine e_eq (f_M_nextRunning_j64.eq_1 _ _ _ _ _) ?_
              refine e_nmG (fun w21 hw21 => ?_)
              have f22 := rg_tr (rg_add 1 72 f3 (rgl (1) 1 1 rfl) rfl) hw21
              exact ih _ _ _ _ hW hF (rg.toN (f3.sub rfl)) (f22.sub rfl) (up_s f3 hw21 hm rfl)
            · have f23 := rn.ne h1 q19
              refine e_grd (inb_g f3 rfl) ?_
              refine e_grd (inb_g f23 rfl) ?_
              refine e_i (fun q24 => ?_) (fun q24 => ?_)
              · refine e_eq (f_M_nextRunning_j64.eq_1 _ _ _ _ _) ?_
                refine e_nmG (fun w25 hw25 => ?_)
                have f26 := rg_tr (rg_add 1 72 f3 (rgl (1) 1 1 rfl) rfl) hw25
                exact ih _ _ _ _ hW hF (rg.toN (f23.sub rfl)) (f26.sub rfl) (up_s f3 hw25 hm rfl)
              · refine e_eq (f_M_nextRunning_j62.eq_1 _ _ _ _) ?_
                refine e_eq (f_M_nextRunning_j64.eq_1 _ _ _ _ _) ?_
                refine e_nmG (fun w29 hw29 => ?_)
                have f30 := rg_tr (rg_add 1 72 f3 (rgl (1) 1 1 rfl) rfl) hw29
                exact ih _ _ _ _ hW hF (rg.toN (f3.sub rfl)) (f30.sub rfl) (up_s f3 hw29 hm rfl)
set_option maxRecDepth 20000 in
set_option maxHeartbeats 4000000 in
theorem t_M_nextRunning {a1 : Int32} {S : SS} (hW : WR S) : Ex2 (f_M_nextRunning a1 S) (fun r U => WR U ∧ Fr [] [] S U ∧ rn r 0 71) := by
  have hF : Fr [] [] S S := Fr.rf
  refine e_eq (f_M_nextRunning.eq_1 _ _) ?_
  exact t_M_nextRunning_L5  NF _ _ _ _ hW hF (rn4 (d_eq (rgl (-4) (-4) (-4) rfl) (rgl (-4) (-4) (-4) rfl) rfl)) ((rgl (0) 0 0 rfl).sub rfl) (up_n (rgl (0) 0 0 rfl) rfl)
set_option maxRecDepth 20000 in
set_option maxHeartbeats 4000000 in
theorem t_M_stop {a1 : Int32} {S : SS} (hW : WR S) (h0 : rg a1 0 71) : Ew (f_M_stop a1 S) (fun U => WR U ∧ Fr [30, 31] [] S U) := by
  have hF : Fr [30, 31] [] S S := Fr.rf
  refine v_eq (f_M_stop.eq_1 _ _) ?_
  refine v_grd (inb_g h0 rfl) ?_
  refine v_wrA (fun T1 eT1 hT1 v1 => ?_)
  have hW1 := wo_31 hW (and1 _) eT1
  have hF1 := hF.tr hT1 rfl
  refine v_grd (inb_g h0 rfl) ?_
  refine v_wrA (fun T3 eT3 hT3 v3 => ?_)
  have hW3 := WR.st (k := 30) hW1 trivial rfl eT3
  have hF3 := hF1.tr hT3 rfl
  exact v_some ⟨hW3, hF3⟩
set_option maxRecDepth 20000 in
set_option maxHeartbeats 4000000 in
theorem t_M_run {a1 : Int32} {S : SS} (hW : WR S) (h0 : rg a1 0 71) : Ew (f_M_run a1 S) (fun U => WR U ∧ Fr [20, 21, 22, 30, 31] [(0, 26), (0, 27), (0, 28), (0, 48)] S U) := by
  have hF : Fr [20, 21, 22, 30, 31] [(0, 26), (0, 27), (0, 28), (0, 48)] S S := Fr.rf
  refine v_eq (f_M_run.eq_1 _ _) ?_
  refine v_grd (inb_g h0 rfl) ?_
  refine v_grd (inb_g h0 rfl) ?_
  refine v_grd (inb_g h0 rfl) ?_
  refine v_bnd ?_
  refine e_eq (f_M_wayOf.eq_1 _ _ _) ?_
  refine e_i (fun q1 => ?_) (fun q1 => ?_)
  · refine e_grd (inb_g h0 rfl) ?_
    refine e_someG (fun w3 hw3 => ?_)
    have f4 := rg_tr (ro_22 hW _) hw3
    refine v_cE (t_M_isOpen hW (ro_20 hW _) f4) (fun u5 T5 p5 => ?_)
    obtain ⟨hW5, hT5, hr5⟩ := p5
    have hF5 := hF.tr hT5 rfl
    refine v_i (fun q7 => ?_) (fun q7 => ?_)
    · refine v_cV (t_M_stop hW5 h0) (fun T9 p9 => ?_)
      obtain ⟨hW9, hT9⟩ := p9
      have hF9 := hF5.tr hT9 rfl
      exact v_some ⟨hW9, hF9⟩
    · refine v_cE (t_M_standing hW5) (fun u12 T12 p12 => ?_)
      obtain ⟨-, hT12, hr12⟩ := p12
      have eT12 := (fr_nil hT12).symm
      subst eT12
      refine v_i (fun q13 => ?_) (fun q13 => ?_)
      · refine v_eq (f_M_run_j80.eq_1 _ _ _) ?_
        refine v_t q13 ?_
        refine v_grd (inb_g h0 rfl) ?_
        refine v_cV (t_M_place hW5 h0 (ro_0_26 hW5) (ro_0_28 hW5)) (fun T15 p15 => ?_)
        obtain ⟨hW15, hT15⟩ := p15
        have hF15 := hF5.tr hT15 rfl
        refine v_eq (f_M_run_j109.eq_1 _ _) ?_
        refine v_grd (inb_g h0 rfl) ?_
        refine v_grd (inb_g h0 rfl) ?_
        refine v_wrA (fun T17 eT17 hT17 v17 => ?_)
        have hW17 := WR.st (k := 30) hW15 trivial rfl eT17
        have hF17 := hF15.tr hT17 rfl
        refine v_grd (inb_g h0 rfl) ?_
        refine v_i (fun q19 => ?_) (fun q19 => ?_)
        · refine v_cV (t_M_stop hW17 h0) (fun T21 p21 => ?_)
          obtain ⟨hW21, hT21⟩ := p21
          have hF21 := hF17.tr hT21 rfl
          exact v_some ⟨hW21, hF21⟩
        · exact v_some ⟨hW17, hF17⟩
      · have f23 := rn.ne hr12 q13
        refine v_grd (inb_g f23 rfl) ?_
        refine v_i (fun q24 => ?_) (fun q24 => ?_)
        · refine v_cV (t_M_stop hW5 h0) (fun T26 p26 => ?_)
          obtain ⟨hW26, hT26⟩ := p26
          have hF26 := hF5.tr hT26 rfl
          refine v_wrO (fun T28 eT28 hT28 v28 => ?_)
          have hW28 := WR.st (k := 0) (i := 48) hW26 trivial rfl eT28
          have hF28 := hF26.tr hT28 rfl
          exact v_some ⟨hW28, hF28⟩
        · refine v_eq (f_M_run_j80.eq_1 _ _ _) ?_
          refine v_f q13 ?_
          refine v_eq (f_M_run_j109.eq_1 _ _) ?_
          refine v_grd (inb_g h0 rfl) ?_
          refine v_grd (inb_g h0 rfl) ?_
          refine v_wrA (fun T31 eT31 hT31 v31 => ?_)
          have hW31 := WR.st (k := 30) hW5 trivial rfl eT31
          have hF31 := hF5.tr hT31 rfl
          refine v_grd (inb_g h0 rfl) ?_
          refine v_i (fun q34 => ?_) (fun q34 => ?_)
          · refine v_cV (t_M_stop hW31 h0) (fun T36 p36 => ?_)
            obtain ⟨hW36, hT36⟩ := p36
            have hF36 := hF31.tr hT36 rfl
            exact v_some ⟨hW36, hF36⟩
          · exact v_some ⟨hW31, hF31⟩
  · refine e_grd (inb_g h0 rfl) ?_
    refine e_someG (fun w38 hw38 => ?_)
    have f39 := rg_tr (rg_sb 0 1 (rgl (1) 1 1 rfl) (ro_22 hW _) rfl) hw38
    refine v_cE (t_M_isOpen hW (ro_20 hW _) f39) (fun u40 T40 p40 => ?_)
    obtain ⟨hW40, hT40, hr40⟩ := p40
    have hF40 := hF.tr hT40 rfl
    refine v_i (fun q41 => ?_) (fun q41 => ?_)
    · refine v_cV (t_M_stop hW40 h0) (fun T43 p43 => ?_)
      obtain ⟨hW43, hT43⟩ := p43
      have hF43 := hF40.tr hT43 rfl
      exact v_some ⟨hW43, hF43⟩
    · refine v_cE (t_M_standing hW40) (fun u45 T45 p45 => ?_)
      obtain ⟨-, hT45, hr45⟩ := p45
      have eT45 := (fr_nil hT45).symm
      subst eT45
      refine v_i (fun q46 => ?_) (fun q46 => ?_)
      · refine v_eq (f_M_run_j80.eq_1 _ _ _) ?_
        refine v_t q46 ?_
        refine v_grd (inb_g h0 rfl) ?_
        refine v_cV (t_M_place hW40 h0 (ro_0_26 hW40) (ro_0_28 hW40)) (fun T48 p48 => ?_)
        obtain ⟨hW48, hT48⟩ := p48
        have hF48 := hF40.tr hT48 rfl
        refine v_eq (f_M_run_j109.eq_1 _ _) ?_
        refine v_grd (inb_g h0 rfl) ?_
        refine v_grd (inb_g h0 rfl) ?_
        refine v_wrA (fun T49 eT49 hT49 v49 => ?_)
        have hW49 := WR.st (k := 30) hW48 trivial rfl eT49
        have hF49 := hF48.tr hT49 rfl
        refine v_grd (inb_g h0 rfl) ?_
        refine v_i (fun q50 => ?_) (fun q50 => ?_)
        · refine v_cV (t_M_stop hW49 h0) (fun T52 p52 => ?_)
          obtain ⟨hW52, hT52⟩ := p52
          have hF52 := hF49.tr hT52 rfl
          exact v_some ⟨hW52, hF52⟩
        · exact v_some ⟨hW49, hF49⟩
      · have f53 := rn.ne hr45 q46
        refine v_grd (inb_g f53 rfl) ?_
        refine v_i (fun q54 => ?_) (fun q54 => ?_)
        · refine v_cV (t_M_stop hW40 h0) (fun T56 p56 => ?_)
          obtain ⟨hW56, hT56⟩ := p56
          have hF56 := hF40.tr hT56 rfl
          refine v_wrO (fun T57 eT57 hT57 v57 => ?_)
          have hW57 := WR.st (k := 0) (i := 48) hW56 trivial rfl eT57
          have hF57 := hF56.tr hT57 rfl
          exact v_some ⟨hW57, hF57⟩
        · refine v_eq (f_M_run_j80.eq_1 _ _ _) ?_
          refine v_f q46 ?_
          refine v_eq (f_M_run_j109.eq_1 _ _) ?_
          refine v_grd (inb_g h0 rfl) ?_
          refine v_grd (inb_g h0 rfl) ?_
          refine v_wrA (fun T59 eT59 hT59 v59 => ?_)
          have hW59 := WR.st (k := 30) hW40 trivial rfl eT59
          have hF59 := hF40.tr hT59 rfl
          refine v_grd (inb_g h0 rfl) ?_
          refine v_i (fun q61 => ?_) (fun q61 => ?_)
          · refine v_cV (t_M_stop hW59 h0) (fun T63 p63 => ?_)
            obtain ⟨hW63, hT63⟩ := p63
            have hF63 := hF59.tr hT63 rfl
            exact v_some ⟨hW63, hF63⟩
          · exact v_some ⟨hW59, hF59⟩
theorem nr_L5 {S0 : SS} : ∀ (n : Nat) (x1 x2 x3 : Int32) (S : SS), WR S → Fr [] [] S0 S → (x2 = -4 ∨ (rg x2 0 71 ∧ x1 < S.1 33 x2.toNatClampNeg)) → rg x3 0 72 → 72 - x3.toInt < (n : Int) → Ex2 (f_M_nextRunning_L5 n x1 x2 x3 S) (fun r U => WR U ∧ Fr [] [] S0 U ∧ (r = -4 ∨ (rg r 0 71 ∧ x1 < U.1 33 r.toNatClampNeg))) := by
  intro n
  induction n with
  | zero =>
    intro x1 x2 x3 S hW hF h1 h2 hm
    exact up_0 h2 hm rfl
  | succ n ih =>
    intro x1 x2 x3 S hW hF h1 h2 hm
    refine e_eq (f_M_nextRunning_L5.eq_2 _ _ _ _ _) ?_
    refine e_i (fun q1 => ?_) (fun q1 => ?_)
    · exact e_some ⟨hW, hF, h1⟩
    · have f3 := nle_r 71 (ro_0_29 hW) h2 q1 rfl
      have kk : ∀ y, (y = -4 ∨ (rg y 0 71 ∧ x1 < S.1 33 y.toNatClampNeg)) → Ex2 (f_M_nextRunning_j64 (fun v0 v1 v2 S => f_M_nextRunning_L5 n v0 v1 v2 S) x1 y x3 S) (fun r U => WR U ∧ Fr [] [] S0 U ∧ (r = -4 ∨ (rg r 0 71 ∧ x1 < U.1 33 r.toNatClampNeg))) := fun y hy => by
        refine e_eq (f_M_nextRunning_j64.eq_1 _ _ _ _ _) ?_
        refine e_nmG (fun z hz => ?_)
        exact ih _ _ _ _ hW hF hy ((rg_tr (rg_add 1 72 f3 (rgl (1) 1 1 rfl) rfl) hz).sub rfl) (up_s f3 hz hm rfl)
      refine e_grd (inb_g f3 rfl) ?_
      refine e_i (fun q2 => kk x2 h1) (fun q2 => ?_)
      refine e_grd (inb_g f3 rfl) ?_
      refine e_i (fun q3 => kk x2 h1) (fun q3 => ?_)
      refine e_grd (inb_g f3 rfl) ?_
      refine e_i (fun q4 => kk x2 h1) (fun q4 => ?_)
      have hx3 : x3 = -4 ∨ (rg x3 0 71 ∧ x1 < S.1 33 x3.toNatClampNeg) := Or.inr ⟨f3.sub rfl, Int32.not_le.mp q4⟩
      refine e_i (fun q5 => ?_) (fun q5 => ?_)
      · refine e_eq (f_M_nextRunning_j62.eq_1 _ _ _ _) ?_
        exact kk x3 hx3
      · rcases h1 with h1 | h1
        · exact absurd h1 q5
        · refine e_grd (inb_g f3 rfl) ?_
          refine e_grd (inb_g h1.1 rfl) ?_
          refine e_i (fun q6 => kk x2 (Or.inr h1)) (fun q6 => ?_)
          refine e_eq (f_M_nextRunning_j62.eq_1 _ _ _ _) ?_
          exact kk x3 hx3
theorem u_M_nextRunning {a1 : Int32} {S : SS} (hW : WR S) : Ex2 (f_M_nextRunning a1 S) (fun r U => WR U ∧ Fr [] [] S U ∧ (r = -4 ∨ (rg r 0 71 ∧ a1 < U.1 33 r.toNatClampNeg))) := by
  refine e_eq (f_M_nextRunning.eq_1 _ _) ?_
  exact nr_L5 NF _ _ _ _ hW Fr.rf (Or.inl rfl) (rgl 0 0 72 rfl) (up_n (rgl 0 0 72 rfl) rfl)
theorem st30 {K : Int32 → Int32 → SS → Option (Int32 × SS)} {S0 : SS} {x1 x2 : Int32} {P : Int32 → SS → Prop} (hK : ∀ S', WR S' → Fr [20, 21, 22, 30, 31, 40, 41, 42] [(0, 26), (0, 27), (0, 28), (0, 48), (0, 60), (0, 61), (0, 62)] S0 S' → rg (S'.1 0 62) 0 599 → Ex2 (K x1 (x2 + 1) S') P) : ∀ (n : Nat) (x3 : Int32) (S : SS), WR S → Fr [20, 21, 22, 30, 31, 40, 41, 42] [(0, 26), (0, 27), (0, 28), (0, 48), (0, 60), (0, 61), (0, 62)] S0 S → rg (S.1 0 62) 0 599 → (x3 = -4 ∧ 1 ≤ n ∨ rg x3 0 71 ∧ 601 - (S.1 33 x3.toNatClampNeg).toInt < (n : Int)) → Ex2 (f_M_step_L30 K n x1 x2 x3 S) P := by
  intro n
  induction n with
  | zero =>
    intro x3 S hW hF h62 h
    rcases h with ⟨-, h⟩ | ⟨-, h⟩
    · omega
    · have := (ro_33 hW x3.toNatClampNeg).2
      omega
  | succ n ih =>
    intro x3 S hW hF h62 h
    refine e_eq (f_M_step_L30.eq_2 _ _ _ _ _ _) ?_
    refine e_i (fun q => ?_) (fun q => ?_)
    · exact e_nm (hK S hW hF h62)
    · rcases h with ⟨h, -⟩ | ⟨h3, hm⟩
      · exact absurd h q
      · have h33 := ro_33 hW x3.toNatClampNeg
        refine e_grd (inb_g h3 rfl) ?_
        refine e_nmG (fun z hz => ?_)
        refine e_cV (t_M_run hW h3) (fun T p => ?_)
        obtain ⟨hW1, g1⟩ := p
        refine e_cE (u_M_nextRunning hW1) (fun r T2 p => ?_)
        obtain ⟨-, g2, hr⟩ := p
        have := (fr_nil g2).symm
        subst this
        refine ih r T hW1 (hF.tr g1 rfl) (rg_tr h62 (g1.1 0 62 rfl)) ?_
        rcases hr with hr | ⟨hr1, hr2⟩
        · refine Or.inl ⟨hr, ?_⟩
          have := h33.2
          omega
        · refine Or.inr ⟨hr1, ?_⟩
          rw [Int32.lt_iff_toInt_lt, hz] at hr2
          omega
theorem st19 {S0 : SS} {x1 : Int32} (h1 : rg x1 1 50) : ∀ (n : Nat) (x2 : Int32) (S : SS), WR S → Fr [20, 21, 22, 30, 31, 40, 41, 42] [(0, 26), (0, 27), (0, 28), (0, 48), (0, 60), (0, 61), (0, 62)] S0 S → rg (S.1 0 62) 0 599 → rg x2 0 50 → 50 - x2.toInt < (n : Int) → Ex2 (f_M_step_L19 n x1 x2 S) (fun r U => WR U ∧ Fr [20, 21, 22, 30, 31, 40, 41, 42] [(0, 26), (0, 27), (0, 28), (0, 48), (0, 60), (0, 61), (0, 62)] S0 U ∧ True) := by
  intro n
  induction n with
  | zero =>
    intro x2 S hW hF h62 h2 hm
    exact up_0 h2 hm rfl
  | succ n ih =>
    intro x2 S hW hF h62 h2 hm
    refine e_eq (f_M_step_L19.eq_2 _ _ _ _) ?_
    refine e_i (fun q => ?_) (fun q => ?_)
    · refine e_cE (t_M_running hW) (fun u T p => ?_)
      obtain ⟨hW1, g1, -⟩ := p
      refine e_cE (t_M_entered hW1 (rg_tr h62 (g1.1 0 62 rfl))) (fun u2 T2 p => ?_)
      obtain ⟨hW2, g2, -⟩ := p
      exact e_some ⟨hW2, (hF.tr g1 rfl).tr g2 rfl, trivial⟩
    · have h2' := nle_r 49 h1 h2 q rfl
      refine e_cE (u_M_nextRunning hW) (fun r T p => ?_)
      obtain ⟨-, g2, hr⟩ := p
      have := (fr_nil g2).symm
      subst this
      refine st30 (fun S' hW' hF' h62' => ?_) NF r S hW hF h62 ?_
      · exact ih _ S' hW' hF' h62' ((rg_add 1 50 h2' (rgl 1 1 1 rfl) rfl).sub rfl) (up_s h2' rfl hm rfl)
      · rcases hr with hr | ⟨hr1, -⟩
        · exact Or.inl ⟨hr, by decide⟩
        · refine Or.inr ⟨hr1, ?_⟩
          have := (ro_33 hW r.toNatClampNeg).1
          have : (NF : Int) = 100000 := rfl
          omega
theorem t_M_step {a1 : Int32} {S : SS} (hW : WR S) (hx0 : rg (S.1 0 62) 0 599) : Ex2 (f_M_step a1 S) (fun r U => WR U ∧ Fr [20, 21, 22, 30, 31, 40, 41, 42] [(0, 26), (0, 27), (0, 28), (0, 48), (0, 60), (0, 61), (0, 62)] S U ∧ True) := by
  refine e_eq (f_M_step.eq_1 _ _) ?_
  refine e_i (fun q => e_some ⟨hW, Fr.rf, trivial⟩) (fun q => ?_)
  refine e_i (fun q2 => ?_) (fun q2 => e_some ⟨hW, Fr.rf, trivial⟩)
  have h0 : rg a1 1 50 := (le_l (nlt_l (rgt a1) (rgl 1 1 1 rfl) q) (rgl 50 50 50 rfl) q2).sub rfl
  refine e_cV (t_M_keep hW) (fun T p => ?_)
  obtain ⟨hW1, g1⟩ := p
  have hF : Fr [20, 21, 22, 30, 31, 40, 41, 42] [(0, 26), (0, 27), (0, 28), (0, 48), (0, 60), (0, 61), (0, 62)] S S := Fr.rf
  exact st19 h0 NF 0 T hW1 (hF.tr g1 rfl) (rg_tr hx0 (g1.1 0 62 rfl)) (rgl 0 0 50 rfl) (up_n (rgl 0 0 50 rfl) rfl)
set_option maxRecDepth 20000 in
set_option maxHeartbeats 4000000 in
theorem t_M_brake {a1 : Int32} {S : SS} (hW : WR S) (h0 : rg a1 0 71) : Ex2 (f_M_brake a1 S) (fun r U => WR U ∧ Fr [2] [(0, 5)] S U ∧ rg r 0 35) := by
  have hF : Fr [2] [(0, 5)] S S := Fr.rf
  refine e_eq (f_M_brake.eq_1 _ _) ?_
  refine e_grd (inb_g h0 rfl) ?_
  refine e_i (fun q1 => ?_) (fun q1 => ?_)
  · refine e_cV (t_M_note hW) (fun T3 p3 => ?_)
    obtain ⟨hW3, hT3⟩ := p3
    have hF3 := hF.tr hT3 rfl
    refine e_grd (inb_g h0 rfl) ?_
    exact e_some ⟨hW3, hF3, ((rg_mul 0 32 (rgl (4) 4 4 rfl) (ro_28 hW3 _) rfl).sub rfl)⟩
  · refine e_i (fun q5 => ?_) (fun q5 => ?_)
    · refine e_cV (t_M_note hW) (fun T7 p7 => ?_)
      obtain ⟨hW7, hT7⟩ := p7
      have hF7 := hF.tr hT7 rfl
      refine e_grd (inb_g h0 rfl) ?_
      exact e_some ⟨hW7, hF7, ((rg_mul 0 32 (rgl (4) 4 4 rfl) (ro_28 hW7 _) rfl).sub rfl)⟩
    · refine e_i (fun q9 => ?_) (fun q9 => ?_)
      · refine e_cV (t_M_note hW) (fun T11 p11 => ?_)
        obtain ⟨hW11, hT11⟩ := p11
        have hF11 := hF.tr hT11 rfl
        refine e_cV (t_M_note hW11) (fun T13 p13 => ?_)
        obtain ⟨hW13, hT13⟩ := p13
        have hF13 := hF11.tr hT13 rfl
        refine e_grd (inb_g h0 rfl) ?_
        exact e_some ⟨hW13, hF13, ((rg_add 2 34 (rg_mul 0 32 (rgl (4) 4 4 rfl) (ro_28 hW13 _) rfl) (rgl (2) 2 2 rfl) rfl).sub rfl)⟩
      · refine e_i (fun q15 => ?_) (fun q15 => ?_)
        · refine e_cV (t_M_note hW) (fun T17 p17 => ?_)
          obtain ⟨hW17, hT17⟩ := p17
          have hF17 := hF.tr hT17 rfl
          refine e_grd (inb_g h0 rfl) ?_
          exact e_some ⟨hW17, hF17, ((rg_mul 0 24 (rgl (3) 3 3 rfl) (ro_28 hW17 _) rfl).sub rfl)⟩
        · refine e_i (fun q19 => ?_) (fun q19 => ?_)
          · refine e_cV (t_M_note hW) (fun T21 p21 => ?_)
            obtain ⟨hW21, hT21⟩ := p21
            have hF21 := hF.tr hT21 rfl
            refine e_grd (inb_g h0 rfl) ?_
            exact e_some ⟨hW21, hF21, ((ro_28 hW21 _).sub rfl)⟩
          · refine e_i (fun q23 => ?_) (fun q23 => ?_)
            · refine e_cV (t_M_note hW) (fun T25 p25 => ?_)
              obtain ⟨hW25, hT25⟩ := p25
              have hF25 := hF.tr hT25 rfl
              exact e_some ⟨hW25, hF25, ((rgl (30) 30 30 rfl).sub rfl)⟩
            · refine e_cV (t_M_note hW) (fun T27 p27 => ?_)
              obtain ⟨hW27, hT27⟩ := p27
              have hF27 := hF.tr hT27 rfl
              refine e_cV (t_M_note hW27) (fun T28 p28 => ?_)
              obtain ⟨hW28, hT28⟩ := p28
              have hF28 := hF27.tr hT28 rfl
              exact e_some ⟨hW28, hF28, ((rgl (35) 35 35 rfl).sub rfl)⟩
set_option maxRecDepth 20000 in
set_option maxHeartbeats 4000000 in
theorem t_M_perAxle {a1 : Int32} {S : SS} (hW : WR S) (h0 : rg a1 0 71) : Ex2 (f_M_perAxle a1 S) (fun r U => WR U ∧ Fr [2] [(0, 5), (0, 54)] S U ∧ True) := by
  have hF : Fr [2] [(0, 5), (0, 54)] S S := Fr.rf
  refine e_eq (f_M_perAxle.eq_1 _ _) ?_
  refine e_cV (t_M_note hW) (fun T1 p1 => ?_)
  obtain ⟨hW1, hT1⟩ := p1
  have hF1 := hF.tr hT1 rfl
  refine e_cE (t_M_weight hW1 h0) (fun u2 T2 p2 => ?_)
  obtain ⟨hW2, hT2, hr2⟩ := p2
  have hF2 := hF1.tr hT2 rfl
  refine e_grd (inb_g h0 rfl) ?_
  refine e_i (fun q3 => ?_) (fun q3 => ?_)
  · refine e_eq (f_M_perAxle_j27.eq_1 _ _ _ _) ?_
    refine e_grd (isB_g (rgl (1) 1 1 rfl) rfl) ?_
    refine e_wrO (fun T5 eT5 hT5 v5 => ?_)
    have hW5 := wo_0_54 hW2 ((rgl (1) 1 1 rfl).sub rfl) eT5
    have hF5 := hF2.tr hT5 rfl
    have f7 := rg_tr (rgl (1) 1 1 rfl) v5
    refine e_f (d_ne f7 (rgl 0 0 0 rfl) rfl) ?_
    exact e_some ⟨hW5, hF5, trivial⟩
  · have f8 := ne_l 1 (ro_28 hW2 _) (rgl 0 0 0 rfl) q3 rfl
    refine e_eq (f_M_perAxle_j27.eq_1 _ _ _ _) ?_
    refine e_grd (isB_g (rgl (0) 0 0 rfl) rfl) ?_
    refine e_wrO (fun T9 eT9 hT9 v9 => ?_)
    have hW9 := wo_0_54 hW2 ((rgl (0) 0 0 rfl).sub rfl) eT9
    have hF9 := hF2.tr hT9 rfl
    have f10 := rg_tr f8 (hT9.1 28 _ rfl)
    have f11 := rg_tr (rgl (0) 0 0 rfl) v9
    refine e_t (d_eq f11 (rgl 0 0 0 rfl) rfl) ?_
    refine e_grd (inb_g h0 rfl) ?_
    refine e_grd (nz_g f10 rfl) ?_
    exact e_some ⟨hW9, hF9, trivial⟩
set_option maxRecDepth 20000 in
set_option maxHeartbeats 4000000 in
theorem t_M_test_L119 {S0 : SS} : ∀ (n : Nat) (x2 : Int32) (x3 : Int32) (S : SS), WR S → Fr [1, 2, 34, 39, 40, 41, 42] [(0, 0), (0, 1), (0, 2), (0, 3), (0, 5), (0, 54), (0, 56), (0, 57), (0, 58), (0, 60), (0, 61), (0, 62)] S0 S → rg x3 0 72 → rg (S.1 0 62) 0 599 → 72 - x3.toInt < (n : Int) → Ex2 (f_M_test_L119 n x2 x3 S) (fun r U => WR U ∧ Fr [1, 2, 34, 39, 40, 41, 42] [(0, 0), (0, 1), (0, 2), (0, 3), (0, 5), (0, 54), (0, 56), (0, 57), (0, 58), (0, 60), (0, 61), (0, 62)] S0 U ∧ True) := by
  intro n
  induction n with
  | zero =>
    intro x2 x3 S hW hF h1 hx0 hm
    exact up_0 h1 hm rfl
  | succ n ih =>
    intro x2 x3 S hW hF h1 hx0 hm
    refine e_eq (f_M_test_L119.eq_2 _ _ _ _) ?_
    refine e_i (fun q1 => ?_) (fun q1 => ?_)
    · refine e_cE (t_M_entered hW hx0) (fun u2 T2 p2 => ?_)
      obtain ⟨hW2, hT2, hr2⟩ := p2
      have hF2 := hF.tr hT2 rfl
      exact e_some ⟨hW2, hF2, trivial⟩
    · have f4 := nle_r 71 (ro_0_56 hW) h1 q1 rfl
      refine e_grd (inb_g f4 rfl) ?_
      refine e_i (fun q5 => ?_) (fun q5 => ?_)
      · refine e_eq (f_M_test_j150.eq_1 _ _ _ _ _ _) ?_
        refine e_grd (inb_g (ro_39 hW _) rfl) ?_
        refine e_wrA (fun T7 eT7 hT7 v7 => ?_)
        have hW7 := wo_34 hW (and1 _) eT7
        have hF7 := hF.tr hT7 rfl
        have f8 := rg_tr hx0 (hT7.1 0 _ rfl)
        refine e_nmG (fun w11 hw11 => ?_)
        have f12 := rg_tr (rg_add 1 72 f4 (rgl (1) 1 1 rfl) rfl) hw11
        exact ih _ _ _ hW7 hF7 (f12.sub rfl) f8 (up_s f4 hw11 hm rfl)
      · refine e_eq (f_M_test_j150.eq_1 _ _ _ _ _ _) ?_
        refine e_grd (inb_g (ro_39 hW _) rfl) ?_
        refine e_wrA (fun T13 eT13 hT13 v13 => ?_)
        have hW13 := wo_34 hW (and1 _) eT13
        have hF13 := hF.tr hT13 rfl
        have f14 := rg_tr hx0 (hT13.1 0 _ rfl)
        refine e_nmG (fun w17 hw17 => ?_)
        have f18 := rg_tr (rg_add 1 72 f4 (rgl (1) 1 1 rfl) rfl) hw17
        exact ih _ _ _ hW13 hF13 (f18.sub rfl) f14 (up_s f4 hw17 hm rfl)
set_option maxRecDepth 20000 in
set_option maxHeartbeats 4000000 in
theorem t_M_test_L39 {S0 : SS} : ∀ (n : Nat) (x2 : Int32) (x3 : Int32) (S : SS), WR S → Fr [1, 2, 34, 39, 40, 41, 42] [(0, 0), (0, 1), (0, 2), (0, 3), (0, 5), (0, 54), (0, 56), (0, 57), (0, 58), (0, 60), (0, 61), (0, 62)] S0 S → rg x3 0 72 → rg (S.1 0 62) 0 599 → 72 - x3.toInt < (n : Int) → Ex2 (f_M_test_L39 n x2 x3 S) (fun r U => WR U ∧ Fr [1, 2, 34, 39, 40, 41, 42] [(0, 0), (0, 1), (0, 2), (0, 3), (0, 5), (0, 54), (0, 56), (0, 57), (0, 58), (0, 60), (0, 61), (0, 62)] S0 U ∧ True) := by
  intro n
  induction n with
  | zero =>
    intro x2 x3 S hW hF h1 hx0 hm
    exact up_0 h1 hm rfl
  | succ n ih =>
    intro x2 x3 S hW hF h1 hx0 hm
    refine e_eq (f_M_test_L39.eq_2 _ _ _ _) ?_
    refine e_i (fun q1 => ?_) (fun q1 => ?_)
    · exact t_M_test_L119  NF _ _ _ hW hF ((rgl (0) 0 0 rfl).sub rfl) hx0 (up_n (rgl (0) 0 0 rfl) rfl)
    · have f3 := nle_r 71 (ro_0_56 hW) h1 q1 rfl
      refine e_grd (inb_g f3 rfl) ?_
      refine e_cE (t_M_brake hW (ro_39 hW _)) (fun u4 T4 p4 => ?_)
      obtain ⟨hW4, hT4, hr4⟩ := p4
      have hF4 := hF.tr hT4 rfl
      have f5 := rg_tr hx0 (hT4.1 0 _ rfl)
      refine e_grd (inb_g f3 rfl) ?_
      refine e_cE (t_M_perAxle hW4 (ro_39 hW4 _)) (fun u7 T7 p7 => ?_)
      obtain ⟨hW7, hT7, hr7⟩ := p7
      have hF7 := hF4.tr hT7 rfl
      have f8 := rg_tr f5 (hT7.1 0 _ rfl)
      refine e_i (fun q10 => ?_) (fun q10 => ?_)
      · refine e_i (fun q12 => ?_) (fun q12 => ?_)
        · refine e_eq (f_M_test_j109.eq_1 _ _ _ _ _) ?_
          refine e_nmG (fun w14 hw14 => ?_)
          refine e_nmG (fun w15 hw15 => ?_)
          have f16 := rg_tr (rg_add 1 72 f3 (rgl (1) 1 1 rfl) rfl) hw15
          exact ih _ _ _ hW7 hF7 (f16.sub rfl) f8 (up_s f3 hw15 hm rfl)
        · refine e_eq (f_M_test_j109.eq_1 _ _ _ _ _) ?_
          refine e_nmG (fun w18 hw18 => ?_)
          refine e_nmG (fun w19 hw19 => ?_)
          have f20 := rg_tr (rg_add 1 72 f3 (rgl (1) 1 1 rfl) rfl) hw19
          exact ih _ _ _ hW7 hF7 (f20.sub rfl) f8 (up_s f3 hw19 hm rfl)
      · refine e_cE (t_M_found hW7 ((rgl (6) 6 6 rfl).sub rfl)) (fun u22 T22 p22 => ?_)
        obtain ⟨hW22, hT22, hr22⟩ := p22
        have hF22 := hF7.tr hT22 rfl
        have f23 := rg_tr f8 (hT22.1 0 _ rfl)
        refine e_cE (t_M_entered hW22 f23) (fun u26 T26 p26 => ?_)
        obtain ⟨hW26, hT26, hr26⟩ := p26
        have hF26 := hF22.tr hT26 rfl
        exact e_some ⟨hW26, hF26, trivial⟩
set_option maxRecDepth 20000 in
set_option maxHeartbeats 4000000 in
theorem t_M_test {a1 : Int32} {S : SS} (hW : WR S) (hx0 : rg (S.1 0 62) 0 599) : Ex2 (f_M_test a1 S) (fun r U => WR U ∧ Fr [1, 2, 34, 39, 40, 41, 42] [(0, 0), (0, 1), (0, 2), (0, 3), (0, 5), (0, 54), (0, 56), (0, 57), (0, 58), (0, 60), (0, 61), (0, 62)] S U ∧ True) := by
  have hF : Fr [1, 2, 34, 39, 40, 41, 42] [(0, 0), (0, 1), (0, 2), (0, 3), (0, 5), (0, 54), (0, 56), (0, 57), (0, 58), (0, 60), (0, 61), (0, 62)] S S := Fr.rf
  refine e_eq (f_M_test.eq_1 _ _) ?_
  refine e_cV (t_M_begin hW) (fun T1 p1 => ?_)
  obtain ⟨hW1, hT1⟩ := p1
  have hF1 := hF.tr hT1 rfl
  have f2 := rg_tr hx0 (hT1.1 0 _ rfl)
  refine e_cV (t_M_keep hW1) (fun T3 p3 => ?_)
  obtain ⟨hW3, hT3⟩ := p3
  have hF3 := hF1.tr hT3 rfl
  have f4 := rg_tr f2 (hT3.1 0 _ rfl)
  refine e_bnd ?_
  refine e_eq (f_M_missThing.eq_1 _ _ _) ?_
  refine e_i (fun q5 => ?_) (fun q5 => ?_)
  · refine e_some ?_
    refine e_bnd ?_
    refine e_eq (f_M_ends.eq_1 _ _) ?_
    refine e_f (by decide) ?_
    refine e_cE (t_M_found hW3 ((rgl (3) 3 3 rfl).sub rfl)) (fun u7 T7 p7 => ?_)
    obtain ⟨hW7, hT7, hr7⟩ := p7
    have hF7 := hF3.tr hT7 rfl
    have f8 := rg_tr f4 (hT7.1 0 _ rfl)
    refine e_eq (f_M_ends_j10.eq_1 _ _) ?_
    refine e_f (by decide) ?_
    refine e_some ?_
    refine e_f (by decide) ?_
    refine e_cE (t_M_entered hW7 f8) (fun u9 T9 p9 => ?_)
    obtain ⟨hW9, hT9, hr9⟩ := p9
    have hF9 := hF7.tr hT9 rfl
    exact e_some ⟨hW9, hF9, trivial⟩
  · have f10 := nlt_l (rgt _) (rgl 0 0 0 rfl) q5
    refine e_i (fun q11 => ?_) (fun q11 => ?_)
    · have f12 := lt_l 71 f10 (rgl (72) 72 72 rfl) q11 rfl
      refine e_i (fun q13 => ?_) (fun q13 => ?_)
      · refine e_some ?_
        refine e_bnd ?_
        refine e_eq (f_M_ends.eq_1 _ _) ?_
        refine e_f (by decide) ?_
        refine e_cE (t_M_found hW3 ((rgl (1) 1 1 rfl).sub rfl)) (fun u15 T15 p15 => ?_)
        obtain ⟨hW15, hT15, hr15⟩ := p15
        have hF15 := hF3.tr hT15 rfl
        have f16 := rg_tr f4 (hT15.1 0 _ rfl)
        refine e_eq (f_M_ends_j10.eq_1 _ _) ?_
        refine e_f (by decide) ?_
        refine e_some ?_
        refine e_f (by decide) ?_
        refine e_cE (t_M_entered hW15 f16) (fun u18 T18 p18 => ?_)
        obtain ⟨hW18, hT18, hr18⟩ := p18
        have hF18 := hF15.tr hT18 rfl
        exact e_some ⟨hW18, hF18, trivial⟩
      · refine e_grd (inb_g f12 rfl) ?_
        refine e_i (fun q21 => ?_) (fun q21 => ?_)
        · refine e_some ?_
          refine e_bnd ?_
          refine e_eq (f_M_ends.eq_1 _ _) ?_
          refine e_f (by decide) ?_
          refine e_cE (t_M_found hW3 ((rgl (1) 1 1 rfl).sub rfl)) (fun u23 T23 p23 => ?_)
          obtain ⟨hW23, hT23, hr23⟩ := p23
          have hF23 := hF3.tr hT23 rfl
          have f24 := rg_tr f4 (hT23.1 0 _ rfl)
          refine e_eq (f_M_ends_j10.eq_1 _ _) ?_
          refine e_f (by decide) ?_
          refine e_some ?_
          refine e_f (by decide) ?_
          refine e_cE (t_M_entered hW23 f24) (fun u28 T28 p28 => ?_)
          obtain ⟨hW28, hT28, hr28⟩ := p28
          have hF28 := hF23.tr hT28 rfl
          exact e_some ⟨hW28, hF28, trivial⟩
        · refine e_bnd ?_
          refine e_eq (f_M_isSuch.eq_1 _ _ _) ?_
          refine e_grd (inb_g f12 rfl) ?_
          refine e_nmG (fun w33 hw33 => ?_)
          refine e_f (by decide) ?_
          refine e_f (by decide) ?_
          refine e_f (by decide) ?_
          refine e_f (by decide) ?_
          refine e_some ?_
          refine e_f (by decide) ?_
          refine e_some ?_
          refine e_bnd ?_
          refine e_eq (f_M_ends.eq_1 _ _) ?_
          refine e_t (by decide) ?_
          refine e_eq (f_M_ends_j10.eq_1 _ _) ?_
          refine e_t (by decide) ?_
          refine e_some ?_
          refine e_t (by decide) ?_
          refine e_cV (t_M_lineUp hW3 f12 q13) (fun T34 p34 => ?_)
          obtain ⟨hW34, hT34, hr34⟩ := p34
          have hF34 := hF3.tr hT34 rfl
          have f35 := rg_tr f4 (hT34.1 0 _ rfl)
          exact t_M_test_L39  NF _ _ _ hW34 hF34 ((rgl (0) 0 0 rfl).sub rfl) f35 (up_n (rgl (0) 0 0 rfl) rfl)
    · refine e_some ?_
      refine e_bnd ?_
      refine e_eq (f_M_ends.eq_1 _ _) ?_
      refine e_f (by decide) ?_
      refine e_cE (t_M_found hW3 ((rgl (3) 3 3 rfl).sub rfl)) (fun u41 T41 p41 => ?_)
      obtain ⟨hW41, hT41, hr41⟩ := p41
      have hF41 := hF3.tr hT41 rfl
      have f42 := rg_tr f4 (hT41.1 0 _ rfl)
      refine e_eq (f_M_ends_j10.eq_1 _ _) ?_
      refine e_f (by decide) ?_
      refine e_some ?_
      refine e_f (by decide) ?_
      refine e_cE (t_M_entered hW41 f42) (fun u43 T43 p43 => ?_)
      obtain ⟨hW43, hT43, hr43⟩ := p43
      have hF43 := hF41.tr hT43 rfl
      exact e_some ⟨hW43, hF43, trivial⟩
set_option maxRecDepth 20000 in
set_option maxHeartbeats 4000000 in
theorem t_M_mayLeave {a1 : Int32} {a2 : Int32} {S : SS} (hW : WR S) (h0 : rg a1 0 71) : Ex2 (f_M_mayLeave a1 a2 S) (fun r U => WR U ∧ Fr [] [] S U ∧ rg r 0 1) := by
  have hF : Fr [] [] S S := Fr.rf
  refine e_eq (f_M_mayLeave.eq_1 _ _ _) ?_
  refine e_grd (inb_g h0 rfl) ?_
  refine e_bnd ?_
  refine e_eq (f_M_wayOf.eq_1 _ _ _) ?_
  refine e_i (fun q1 => ?_) (fun q1 => ?_)
  · refine e_grd (inb_g h0 rfl) ?_
    refine e_someG (fun w3 hw3 => ?_)
    have f4 := rg_tr (ro_22 hW _) hw3
    refine e_nmG (fun w5 hw5 => ?_)
    have f6 := rg_tr (rg_add 0 47 (rg_mul 0 46 (rgl (2) 2 2 rfl) (ro_20 hW _) rfl) f4 rfl) hw5
    refine e_grd (inb_g f6 rfl) ?_
    refine e_i (fun q7 => ?_) (fun q7 => ?_)
    · exact e_some ⟨hW, hF, ((rgl (0) 0 0 rfl).sub rfl)⟩
    · refine e_grd (inb_g h0 rfl) ?_
      refine e_bnd ?_
      refine e_eq (f_M_placeAtEnd.eq_1 _ _) ?_
      refine e_i (fun q10 => ?_) (fun q10 => ?_)
      · refine e_some ?_
        refine e_i (fun q12 => ?_) (fun q12 => ?_)
        · exact e_some ⟨hW, hF, ((rgl (1) 1 1 rfl).sub rfl)⟩
        · exact e_some ⟨hW, hF, ((rgl (0) 0 0 rfl).sub rfl)⟩
      · refine e_grd (inb_g (rg_div 0 23 2 f6 (by decide) rfl) rfl) ?_
        refine e_someG (fun w15 hw15 => ?_)
        refine e_i (fun q16 => ?_) (fun q16 => ?_)
        · exact e_some ⟨hW, hF, ((rgl (1) 1 1 rfl).sub rfl)⟩
        · exact e_some ⟨hW, hF, ((rgl (0) 0 0 rfl).sub rfl)⟩
  · refine e_grd (inb_g h0 rfl) ?_
    refine e_someG (fun w17 hw17 => ?_)
    have f18 := rg_tr (rg_sb 0 1 (rgl (1) 1 1 rfl) (ro_22 hW _) rfl) hw17
    refine e_nmG (fun w19 hw19 => ?_)
    have f20 := rg_tr (rg_add 0 47 (rg_mul 0 46 (rgl (2) 2 2 rfl) (ro_20 hW _) rfl) f18 rfl) hw19
    refine e_grd (inb_g f20 rfl) ?_
    refine e_i (fun q21 => ?_) (fun q21 => ?_)
    · exact e_some ⟨hW, hF, ((rgl (0) 0 0 rfl).sub rfl)⟩
    · refine e_grd (inb_g h0 rfl) ?_
      refine e_bnd ?_
      refine e_eq (f_M_placeAtEnd.eq_1 _ _) ?_
      refine e_i (fun q24 => ?_) (fun q24 => ?_)
      · refine e_some ?_
        refine e_i (fun q26 => ?_) (fun q26 => ?_)
        · exact e_some ⟨hW, hF, ((rgl (1) 1 1 rfl).sub rfl)⟩
        · exact e_some ⟨hW, hF, ((rgl (0) 0 0 rfl).sub rfl)⟩
      · refine e_grd (inb_g (rg_div 0 23 2 f20 (by decide) rfl) rfl) ?_
        refine e_someG (fun w29 hw29 => ?_)
        refine e_i (fun q30 => ?_) (fun q30 => ?_)
        · exact e_some ⟨hW, hF, ((rgl (1) 1 1 rfl).sub rfl)⟩
        · exact e_some ⟨hW, hF, ((rgl (0) 0 0 rfl).sub rfl)⟩
set_option maxRecDepth 20000 in
set_option maxHeartbeats 4000000 in
theorem t_M_missLeave_L20 {S0 : SS} : ∀ (n : Nat) (x3 : Int32) (S : SS), WR S → Fr [39] [(0, 56), (0, 57), (0, 58)] S0 S → rg x3 0 72 → rg (S.1 0 56) 1 72 → 72 - x3.toInt < (n : Int) → Ex2 (f_M_missLeave_L20 n x3 S) (fun r U => WR U ∧ Fr [39] [(0, 56), (0, 57), (0, 58)] S0 U ∧ rg r 0 17) := by
  intro n
  induction n with
  | zero =>
    intro x3 S hW hF h0 hx0 hm
    exact up_0 h0 hm rfl
  | succ n ih =>
    intro x3 S hW hF h0 hx0 hm
    refine e_eq (f_M_missLeave_L20.eq_2 _ _ _) ?_
    refine e_i (fun q1 => ?_) (fun q1 => ?_)
    · refine e_grd (inb_g (rgl (0) 0 0 rfl) rfl) ?_
      refine e_cE (t_M_mayLeave hW (ro_39 hW _)) (fun u3 T3 p3 => ?_)
      obtain ⟨-, hT3, hr3⟩ := p3
      have eT3 := (fr_nil hT3).symm
      subst eT3
      refine e_i (fun q4 => ?_) (fun q4 => ?_)
      · refine e_grd (inb_g (rg_sb 0 71 hx0 (rgl (1) 1 1 rfl) rfl) rfl) ?_
        refine e_cE (t_M_mayLeave hW (ro_39 hW _)) (fun u6 T6 p6 => ?_)
        obtain ⟨-, hT6, hr6⟩ := p6
        have eT6 := (fr_nil hT6).symm
        subst eT6
        refine e_i (fun q7 => ?_) (fun q7 => ?_)
        · exact e_some ⟨hW, hF, ((rgl (10) 10 10 rfl).sub rfl)⟩
        · exact e_some ⟨hW, hF, ((rgl (0) 0 0 rfl).sub rfl)⟩
      · exact e_some ⟨hW, hF, ((rgl (0) 0 0 rfl).sub rfl)⟩
    · have f11 := nle_r 71 hx0 h0 q1 rfl
      refine e_grd (inb_g f11 rfl) ?_
      refine e_grd (inb_g (ro_39 hW _) rfl) ?_
      refine e_i (fun q12 => ?_) (fun q12 => ?_)
      · exact e_some ⟨hW, hF, ((rgl (17) 17 17 rfl).sub rfl)⟩
      · refine e_nmG (fun w15 hw15 => ?_)
        have f16 := rg_tr (rg_add 1 72 f11 (rgl (1) 1 1 rfl) rfl) hw15
        exact ih _ _ hW hF (f16.sub rfl) hx0 (up_s f11 hw15 hm rfl)
set_option maxRecDepth 20000 in
set_option maxHeartbeats 4000000 in
theorem t_M_missLeave {a1 : Int32} {S : SS} (hW : WR S) : Ex2 (f_M_missLeave a1 S) (fun r U => WR U ∧ Fr [39] [(0, 56), (0, 57), (0, 58)] S U ∧ rg r 0 17) := by
  have hF : Fr [39] [(0, 56), (0, 57), (0, 58)] S S := Fr.rf
  refine e_eq (f_M_missLeave.eq_1 _ _) ?_
  refine e_bnd ?_
  refine e_eq (f_M_missThing.eq_1 _ _ _) ?_
  refine e_i (fun q1 => ?_) (fun q1 => ?_)
  · refine e_some ?_
    refine e_f (by decide) ?_
    exact e_some ⟨hW, hF, ((rgl (3) 3 3 rfl).sub rfl)⟩
  · have f3 := nlt_l (rgt _) (rgl 0 0 0 rfl) q1
    refine e_i (fun q4 => ?_) (fun q4 => ?_)
    · have f5 := lt_l 71 f3 (rgl (72) 72 72 rfl) q4 rfl
      refine e_i (fun q6 => ?_) (fun q6 => ?_)
      · refine e_some ?_
        refine e_f (by decide) ?_
        exact e_some ⟨hW, hF, ((rgl (1) 1 1 rfl).sub rfl)⟩
      · refine e_grd (inb_g f5 rfl) ?_
        refine e_i (fun q9 => ?_) (fun q9 => ?_)
        · refine e_some ?_
          refine e_f (by decide) ?_
          exact e_some ⟨hW, hF, ((rgl (1) 1 1 rfl).sub rfl)⟩
        · refine e_bnd ?_
          refine e_eq (f_M_isSuch.eq_1 _ _ _) ?_
          refine e_grd (inb_g f5 rfl) ?_
          refine e_nmG (fun w12 hw12 => ?_)
          refine e_f (by decide) ?_
          refine e_t rfl ?_
          refine e_i (fun q13 => ?_) (fun q13 => ?_)
          · refine e_some ?_
            refine e_t (by decide) ?_
            refine e_some ?_
            refine e_f (by decide) ?_
            exact e_some ⟨hW, hF, ((rgl (2) 2 2 rfl).sub rfl)⟩
          · refine e_some ?_
            refine e_f (by decide) ?_
            refine e_some ?_
            refine e_t (by decide) ?_
            refine e_cV (t_M_lineUp hW f5 q6) (fun T18 p18 => ?_)
            obtain ⟨hW18, hT18, hr18⟩ := p18
            have hF18 := hF.tr hT18 rfl
            have f23 := hr18
            exact t_M_missLeave_L20  NF _ _ hW18 hF18 ((rgl (0) 0 0 rfl).sub rfl) f23 (up_n (rgl (0) 0 0 rfl) rfl)
    · refine e_some ?_
      refine e_f (by decide) ?_
      exact e_some ⟨hW, hF, ((rgl (3) 3 3 rfl).sub rfl)⟩
set_option maxRecDepth 20000 in
set_option maxHeartbeats 4000000 in
theorem t_M_leave_L31 {S0 : SS} : ∀ (n : Nat) (x2 : Int32) (S : SS), WR S → Fr [1, 19, 39, 40, 41, 42] [(0, 0), (0, 1), (0, 2), (0, 3), (0, 5), (0, 56), (0, 57), (0, 58), (0, 60), (0, 61), (0, 62)] S0 S → rg x2 0 72 → rg (S.1 0 62) 0 599 → 72 - x2.toInt < (n : Int) → Ex2 (f_M_leave_L31 n x2 S) (fun r U => WR U ∧ Fr [1, 19, 39, 40, 41, 42] [(0, 0), (0, 1), (0, 2), (0, 3), (0, 5), (0, 56), (0, 57), (0, 58), (0, 60), (0, 61), (0, 62)] S0 U ∧ True) := by
  intro n
  induction n with
  | zero =>
    intro x2 S hW hF h0 hx0 hm
    exact up_0 h0 hm rfl
  | succ n ih =>
    intro x2 S hW hF h0 hx0 hm
    refine e_eq (f_M_leave_L31.eq_2 _ _ _) ?_
    refine e_i (fun q1 => ?_) (fun q1 => ?_)
    · refine e_cE (t_M_entered hW hx0) (fun u2 T2 p2 => ?_)
      obtain ⟨hW2, hT2, hr2⟩ := p2
      have hF2 := hF.tr hT2 rfl
      exact e_some ⟨hW2, hF2, trivial⟩
    · have f4 := nle_r 71 (ro_0_56 hW) h0 q1 rfl
      refine e_grd (inb_g f4 rfl) ?_
      refine e_grd (inb_g (ro_39 hW _) rfl) ?_
      refine e_wrA (fun T5 eT5 hT5 v5 => ?_)
      have hW5 := wo_19 hW (and1 _) eT5
      have hF5 := hF.tr hT5 rfl
      have f6 := rg_tr hx0 (hT5.1 0 _ rfl)
      refine e_nmG (fun w9 hw9 => ?_)
      have f10 := rg_tr (rg_add 1 72 f4 (rgl (1) 1 1 rfl) rfl) hw9
      exact ih _ _ hW5 hF5 (f10.sub rfl) f6 (up_s f4 hw9 hm rfl)
set_option maxRecDepth 20000 in
set_option maxHeartbeats 4000000 in
theorem t_M_leave {a1 : Int32} {S : SS} (hW : WR S) (hx0 : rg (S.1 0 62) 0 599) : Ex2 (f_M_leave a1 S) (fun r U => WR U ∧ Fr [1, 19, 39, 40, 41, 42] [(0, 0), (0, 1), (0, 2), (0, 3), (0, 5), (0, 56), (0, 57), (0, 58), (0, 60), (0, 61), (0, 62)] S U ∧ True) := by
  have hF : Fr [1, 19, 39, 40, 41, 42] [(0, 0), (0, 1), (0, 2), (0, 3), (0, 5), (0, 56), (0, 57), (0, 58), (0, 60), (0, 61), (0, 62)] S S := Fr.rf
  refine e_eq (f_M_leave.eq_1 _ _) ?_
  refine e_cV (t_M_begin hW) (fun T1 p1 => ?_)
  obtain ⟨hW1, hT1⟩ := p1
  have hF1 := hF.tr hT1 rfl
  have f2 := rg_tr hx0 (hT1.1 0 _ rfl)
  refine e_cV (t_M_keep hW1) (fun T3 p3 => ?_)
  obtain ⟨hW3, hT3⟩ := p3
  have hF3 := hF1.tr hT3 rfl
  have f4 := rg_tr f2 (hT3.1 0 _ rfl)
  refine e_cE (t_M_missLeave hW3) (fun u5 T5 p5 => ?_)
  obtain ⟨hW5, hT5, hr5⟩ := p5
  have hF5 := hF3.tr hT5 rfl
  have f6 := rg_tr f4 (hT5.1 0 _ rfl)
  refine e_bnd ?_
  refine e_eq (f_M_ends.eq_1 _ _) ?_
  refine e_i (fun q7 => ?_) (fun q7 => ?_)
  · refine e_eq (f_M_ends_j10.eq_1 _ _) ?_
    refine e_t q7 ?_
    refine e_some ?_
    refine e_t (by decide) ?_
    exact t_M_leave_L31  NF _ _ hW5 hF5 ((rgl (0) 0 0 rfl).sub rfl) f6 (up_n (rgl (0) 0 0 rfl) rfl)
  · have f9 := ne_l 1 hr5 (rgl 0 0 0 rfl) q7 rfl
    refine e_cE (t_M_found hW5 (f9.sub rfl)) (fun u10 T10 p10 => ?_)
    obtain ⟨hW10, hT10, hr10⟩ := p10
    have hF10 := hF5.tr hT10 rfl
    have f11 := rg_tr f6 (hT10.1 0 _ rfl)
    refine e_eq (f_M_ends_j10.eq_1 _ _) ?_
    refine e_f q7 ?_
    refine e_some ?_
    refine e_f (by decide) ?_
    refine e_cE (t_M_entered hW10 f11) (fun u12 T12 p12 => ?_)
    obtain ⟨hW12, hT12, hr12⟩ := p12
    have hF12 := hF10.tr hT12 rfl
    exact e_some ⟨hW12, hF12, trivial⟩
set_option maxRecDepth 20000 in
set_option maxHeartbeats 4000000 in
theorem t_M_roll_L54 {S0 : SS} : ∀ (n : Nat) (x1 : Int32) (x2 : Int32) (x3 : Int32) (x4 : Int32) (S : SS), WR S → Fr [1, 38] [(0, 0), (0, 1), (0, 2), (0, 3), (0, 5)] S0 S → rg x3 0 8 → rg x4 0 8 → 8 - x4.toInt < (n : Int) → Ex2 (f_M_roll_L54 n x1 x2 x3 x4 S) (fun r U => WR U ∧ Fr [1, 38] [(0, 0), (0, 1), (0, 2), (0, 3), (0, 5)] S0 U ∧ rg r (-2) 8) := by
  intro n
  induction n with
  | zero =>
    intro x1 x2 x3 x4 S hW hF h2 h3 hm
    exact up_0 h3 hm rfl
  | succ n ih =>
    intro x1 x2 x3 x4 S hW hF h2 h3 hm
    refine e_eq (f_M_roll_L54.eq_2 _ _ _ _ _ _) ?_
    refine e_i (fun q1 => ?_) (fun q1 => ?_)
    · exact e_some ⟨hW, hF, (h2.sub rfl)⟩
    · have f2 := nle_l 1 h2 h3 q1 rfl
      have f3 := nle_r 7 h2 h3 q1 rfl
      refine e_cE (t_M_standing hW) (fun u4 T4 p4 => ?_)
      obtain ⟨-, hT4, hr4⟩ := p4
      have eT4 := (fr_nil hT4).symm
      subst eT4
      refine e_i (fun q5 => ?_) (fun q5 => ?_)
      · refine e_eq (f_M_roll_j95.eq_1 _ _ _ _ _ _ _) ?_
        refine e_grd (inb_g f3 rfl) ?_
        refine e_wrA (fun T7 eT7 hT7 v7 => ?_)
        have hW7 := WR.st (k := 38) hW trivial rfl eT7
        have hF7 := hF.tr hT7 rfl
        refine e_nmG (fun w9 hw9 => ?_)
        have f10 := rg_tr (rg_add 1 8 f3 (rgl (1) 1 1 rfl) rfl) hw9
        exact ih _ _ _ _ _ hW7 hF7 (f2.sub rfl) (f10.sub rfl) (up_s f3 hw9 hm rfl)
      · have f11 := rn.ne hr4 q5
        refine e_grd (inb_g f11 rfl) ?_
        refine e_i (fun q12 => ?_) (fun q12 => ?_)
        · refine e_eq (f_M_roll_j95.eq_1 _ _ _ _ _ _ _) ?_
          refine e_grd (inb_g f3 rfl) ?_
          refine e_wrA (fun T14 eT14 hT14 v14 => ?_)
          have hW14 := WR.st (k := 38) hW trivial rfl eT14
          have hF14 := hF.tr hT14 rfl
          refine e_nmG (fun w17 hw17 => ?_)
          have f18 := rg_tr (rg_add 1 8 f3 (rgl (1) 1 1 rfl) rfl) hw17
          exact ih _ _ _ _ _ hW14 hF14 (f2.sub rfl) (f18.sub rfl) (up_s f3 hw17 hm rfl)
        · refine e_cE (t_M_found hW ((rgl (4) 4 4 rfl).sub rfl)) (fun u20 T20 p20 => ?_)
          obtain ⟨hW20, hT20, hr20⟩ := p20
          have hF20 := hF.tr hT20 rfl
          exact e_some ⟨hW20, hF20, (hr20.sub rfl)⟩
set_option maxRecDepth 20000 in
set_option maxHeartbeats 4000000 in
theorem t_M_roll {a1 : Int32} {a2 : Int32} {a3 : Int32} {S : SS} (hW : WR S) : Ex2 (f_M_roll a1 a2 a3 S) (fun r U => WR U ∧ Fr [1, 38] [(0, 0), (0, 1), (0, 2), (0, 3), (0, 5)] S U ∧ rg r (-2) 8) := by
  have hF : Fr [1, 38] [(0, 0), (0, 1), (0, 2), (0, 3), (0, 5)] S S := Fr.rf
  refine e_eq (f_M_roll.eq_1 _ _ _ _) ?_
  refine e_cV (t_M_begin hW) (fun T1 p1 => ?_)
  obtain ⟨hW1, hT1⟩ := p1
  have hF1 := hF.tr hT1 rfl
  refine e_bnd ?_
  refine e_eq (f_M_missTrack.eq_1 _ _) ?_
  refine e_i (fun q2 => ?_) (fun q2 => ?_)
  · refine e_some ?_
    refine e_bnd ?_
    refine e_eq (f_M_ends.eq_1 _ _) ?_
    refine e_f (by decide) ?_
    refine e_cE (t_M_found hW1 ((rgl (3) 3 3 rfl).sub rfl)) (fun u4 T4 p4 => ?_)
    obtain ⟨hW4, hT4, hr4⟩ := p4
    have hF4 := hF1.tr hT4 rfl
    refine e_eq (f_M_ends_j10.eq_1 _ _) ?_
    refine e_f (by decide) ?_
    refine e_some ?_
    refine e_f (by decide) ?_
    exact e_some ⟨hW4, hF4, ((rgl (-2) (-2) (-2) rfl).sub rfl)⟩
  · have f5 := nlt_l (rgt _) (rgl 0 0 0 rfl) q2
    refine e_i (fun q6 => ?_) (fun q6 => ?_)
    · have f7 := lt_l 23 f5 (rgl (24) 24 24 rfl) q6 rfl
      refine e_i (fun q8 => ?_) (fun q8 => ?_)
      · refine e_some ?_
        refine e_bnd ?_
        refine e_eq (f_M_ends.eq_1 _ _) ?_
        refine e_t (by decide) ?_
        refine e_eq (f_M_ends_j10.eq_1 _ _) ?_
        refine e_t (by decide) ?_
        refine e_some ?_
        refine e_t (by decide) ?_
        refine e_i (fun q10 => ?_) (fun q10 => ?_)
        · refine e_eq (f_M_roll_j45.eq_1 _) ?_
          refine e_cE (t_M_found hW1 ((rgl (3) 3 3 rfl).sub rfl)) (fun u12 T12 p12 => ?_)
          obtain ⟨hW12, hT12, hr12⟩ := p12
          have hF12 := hF1.tr hT12 rfl
          exact e_some ⟨hW12, hF12, (hr12.sub rfl)⟩
        · refine e_i (fun q15 => ?_) (fun q15 => ?_)
          · refine e_eq (f_M_roll_j45.eq_1 _) ?_
            refine e_cE (t_M_found hW1 ((rgl (3) 3 3 rfl).sub rfl)) (fun u17 T17 p17 => ?_)
            obtain ⟨hW17, hT17, hr17⟩ := p17
            have hF17 := hF1.tr hT17 rfl
            exact e_some ⟨hW17, hF17, (hr17.sub rfl)⟩
          · have f19 := nlt_l (rgt _) (rgl 0 0 0 rfl) q15
            refine e_i (fun q20 => ?_) (fun q20 => ?_)
            · refine e_eq (f_M_roll_j45.eq_1 _) ?_
              refine e_cE (t_M_found hW1 ((rgl (3) 3 3 rfl).sub rfl)) (fun u22 T22 p22 => ?_)
              obtain ⟨hW22, hT22, hr22⟩ := p22
              have hF22 := hF1.tr hT22 rfl
              exact e_some ⟨hW22, hF22, (hr22.sub rfl)⟩
            · have f24 := nlt_r (rgl (8) 8 8 rfl) f19 q20
              refine e_grd (inb_g f7 rfl) ?_
              refine e_i (fun q25 => ?_) (fun q25 => ?_)
              · exact t_M_roll_L54  NF _ _ _ _ _ hW1 hF1 f24 ((rgl (0) 0 0 rfl).sub rfl) (up_n (rgl (0) 0 0 rfl) rfl)
              · refine e_eq (f_M_roll_j45.eq_1 _) ?_
                refine e_cE (t_M_found hW1 ((rgl (3) 3 3 rfl).sub rfl)) (fun u28 T28 p28 => ?_)
                obtain ⟨hW28, hT28, hr28⟩ := p28
                have hF28 := hF1.tr hT28 rfl
                exact e_some ⟨hW28, hF28, (hr28.sub rfl)⟩
      · refine e_some ?_
        refine e_bnd ?_
        refine e_eq (f_M_ends.eq_1 _ _) ?_
        refine e_f (by decide) ?_
        refine e_cE (t_M_found hW1 ((rgl (1) 1 1 rfl).sub rfl)) (fun u31 T31 p31 => ?_)
        obtain ⟨hW31, hT31, hr31⟩ := p31
        have hF31 := hF1.tr hT31 rfl
        refine e_eq (f_M_ends_j10.eq_1 _ _) ?_
        refine e_f (by decide) ?_
        refine e_some ?_
        refine e_f (by decide) ?_
        exact e_some ⟨hW31, hF31, ((rgl (-2) (-2) (-2) rfl).sub rfl)⟩
    · refine e_some ?_
      refine e_bnd ?_
      refine e_eq (f_M_ends.eq_1 _ _) ?_
      refine e_f (by decide) ?_
      refine e_cE (t_M_found hW1 ((rgl (3) 3 3 rfl).sub rfl)) (fun u34 T34 p34 => ?_)
      obtain ⟨hW34, hT34, hr34⟩ := p34
      have hF34 := hF1.tr hT34 rfl
      refine e_eq (f_M_ends_j10.eq_1 _ _) ?_
      refine e_f (by decide) ?_
      refine e_some ?_
      refine e_f (by decide) ?_
      exact e_some ⟨hW34, hF34, ((rgl (-2) (-2) (-2) rfl).sub rfl)⟩
set_option maxRecDepth 20000 in
set_option maxHeartbeats 4000000 in
theorem t_M_store {a1 : Int32} {a2 : Int32} {S : SS} (hW : WR S) : Ex2 (f_M_store a1 a2 S) (fun r U => WR U ∧ Fr [1, 38] [(0, 0), (0, 1), (0, 2), (0, 3), (0, 5)] S U ∧ rg r (-2) 1) := by
  have hF : Fr [1, 38] [(0, 0), (0, 1), (0, 2), (0, 3), (0, 5)] S S := Fr.rf
  refine e_eq (f_M_store.eq_1 _ _ _) ?_
  refine e_cV (t_M_begin hW) (fun T1 p1 => ?_)
  obtain ⟨hW1, hT1⟩ := p1
  have hF1 := hF.tr hT1 rfl
  refine e_bnd ?_
  refine e_eq (f_M_missThing.eq_1 _ _ _) ?_
  refine e_i (fun q2 => ?_) (fun q2 => ?_)
  · refine e_some ?_
    refine e_bnd ?_
    refine e_eq (f_M_ends.eq_1 _ _) ?_
    refine e_f (by decide) ?_
    refine e_cE (t_M_found hW1 ((rgl (3) 3 3 rfl).sub rfl)) (fun u4 T4 p4 => ?_)
    obtain ⟨hW4, hT4, hr4⟩ := p4
    have hF4 := hF1.tr hT4 rfl
    refine e_eq (f_M_ends_j10.eq_1 _ _) ?_
    refine e_f (by decide) ?_
    refine e_some ?_
    refine e_f (by decide) ?_
    exact e_some ⟨hW4, hF4, ((rgl (-2) (-2) (-2) rfl).sub rfl)⟩
  · have f5 := nlt_l (rgt _) (rgl 0 0 0 rfl) q2
    refine e_i (fun q6 => ?_) (fun q6 => ?_)
    · have f7 := lt_l 71 f5 (rgl (72) 72 72 rfl) q6 rfl
      refine e_i (fun q8 => ?_) (fun q8 => ?_)
      · refine e_some ?_
        refine e_bnd ?_
        refine e_eq (f_M_ends.eq_1 _ _) ?_
        refine e_f (by decide) ?_
        refine e_cE (t_M_found hW1 ((rgl (1) 1 1 rfl).sub rfl)) (fun u10 T10 p10 => ?_)
        obtain ⟨hW10, hT10, hr10⟩ := p10
        have hF10 := hF1.tr hT10 rfl
        refine e_eq (f_M_ends_j10.eq_1 _ _) ?_
        refine e_f (by decide) ?_
        refine e_some ?_
        refine e_f (by decide) ?_
        exact e_some ⟨hW10, hF10, ((rgl (-2) (-2) (-2) rfl).sub rfl)⟩
      · refine e_grd (inb_g f7 rfl) ?_
        refine e_i (fun q13 => ?_) (fun q13 => ?_)
        · refine e_some ?_
          refine e_bnd ?_
          refine e_eq (f_M_ends.eq_1 _ _) ?_
          refine e_f (by decide) ?_
          refine e_cE (t_M_found hW1 ((rgl (1) 1 1 rfl).sub rfl)) (fun u15 T15 p15 => ?_)
          obtain ⟨hW15, hT15, hr15⟩ := p15
          have hF15 := hF1.tr hT15 rfl
          refine e_eq (f_M_ends_j10.eq_1 _ _) ?_
          refine e_f (by decide) ?_
          refine e_some ?_
          refine e_f (by decide) ?_
          exact e_some ⟨hW15, hF15, ((rgl (-2) (-2) (-2) rfl).sub rfl)⟩
        · refine e_bnd ?_
          refine e_eq (f_M_isSuch.eq_1 _ _ _) ?_
          refine e_grd (inb_g f7 rfl) ?_
          refine e_nmG (fun w20 hw20 => ?_)
          refine e_f (by decide) ?_
          refine e_f (by decide) ?_
          refine e_f (by decide) ?_
          refine e_f (by decide) ?_
          refine e_some ?_
          refine e_f (by decide) ?_
          refine e_some ?_
          refine e_bnd ?_
          refine e_eq (f_M_ends.eq_1 _ _) ?_
          refine e_t (by decide) ?_
          refine e_eq (f_M_ends_j10.eq_1 _ _) ?_
          refine e_t (by decide) ?_
          refine e_some ?_
          refine e_t (by decide) ?_
          refine e_i (fun q21 => ?_) (fun q21 => ?_)
          · refine e_eq (f_M_store_j30.eq_1 _) ?_
            refine e_cE (t_M_found hW1 ((rgl (3) 3 3 rfl).sub rfl)) (fun u23 T23 p23 => ?_)
            obtain ⟨hW23, hT23, hr23⟩ := p23
            have hF23 := hF1.tr hT23 rfl
            exact e_some ⟨hW23, hF23, (hr23.sub rfl)⟩
          · have f27 := nlt_l (rgt _) (rgl 0 0 0 rfl) q21
            refine e_i (fun q28 => ?_) (fun q28 => ?_)
            · have f29 := lt_l 7 f27 (rgl (8) 8 8 rfl) q28 rfl
              refine e_grd (inb_g f7 rfl) ?_
              refine e_i (fun q30 => ?_) (fun q30 => ?_)
              · refine e_grd (inb_g f29 rfl) ?_
                refine e_wrA (fun T32 eT32 hT32 v32 => ?_)
                have hW32 := WR.st (k := 38) hW1 trivial rfl eT32
                have hF32 := hF1.tr hT32 rfl
                exact e_some ⟨hW32, hF32, ((rgl (1) 1 1 rfl).sub rfl)⟩
              · refine e_cE (t_M_found hW1 ((rgl (4) 4 4 rfl).sub rfl)) (fun u39 T39 p39 => ?_)
                obtain ⟨hW39, hT39, hr39⟩ := p39
                have hF39 := hF1.tr hT39 rfl
                exact e_some ⟨hW39, hF39, (hr39.sub rfl)⟩
            · refine e_eq (f_M_store_j30.eq_1 _) ?_
              refine e_cE (t_M_found hW1 ((rgl (3) 3 3 rfl).sub rfl)) (fun u45 T45 p45 => ?_)
              obtain ⟨hW45, hT45, hr45⟩ := p45
              have hF45 := hF1.tr hT45 rfl
              exact e_some ⟨hW45, hF45, (hr45.sub rfl)⟩
    · refine e_some ?_
      refine e_bnd ?_
      refine e_eq (f_M_ends.eq_1 _ _) ?_
      refine e_f (by decide) ?_
      refine e_cE (t_M_found hW1 ((rgl (3) 3 3 rfl).sub rfl)) (fun u50 T50 p50 => ?_)
      obtain ⟨hW50, hT50, hr50⟩ := p50
      have hF50 := hF1.tr hT50 rfl
      refine e_eq (f_M_ends_j10.eq_1 _ _) ?_
      refine e_f (by decide) ?_
      refine e_some ?_
      refine e_f (by decide) ?_
      exact e_some ⟨hW50, hF50, ((rgl (-2) (-2) (-2) rfl).sub rfl)⟩
set_option maxRecDepth 20000 in
set_option maxHeartbeats 4000000 in
theorem t_M_rolled {a1 : Int32} {S : SS} (hW : WR S) : Ex2 (f_M_rolled a1 S) (fun r U => WR U ∧ Fr [1] [(0, 0), (0, 1), (0, 2), (0, 3), (0, 5)] S U ∧ True) := by
  have hF : Fr [1] [(0, 0), (0, 1), (0, 2), (0, 3), (0, 5)] S S := Fr.rf
  refine e_eq (f_M_rolled.eq_1 _ _) ?_
  refine e_cV (t_M_begin hW) (fun T1 p1 => ?_)
  obtain ⟨hW1, hT1⟩ := p1
  have hF1 := hF.tr hT1 rfl
  refine e_i (fun q2 => ?_) (fun q2 => ?_)
  · refine e_eq (f_M_rolled_j14.eq_1 _) ?_
    refine e_cE (t_M_found hW1 ((rgl (3) 3 3 rfl).sub rfl)) (fun u4 T4 p4 => ?_)
    obtain ⟨hW4, hT4, hr4⟩ := p4
    have hF4 := hF1.tr hT4 rfl
    exact e_some ⟨hW4, hF4, trivial⟩
  · have f5 := nlt_l (rgt _) (rgl 0 0 0 rfl) q2
    refine e_i (fun q6 => ?_) (fun q6 => ?_)
    · have f7 := lt_l 7 f5 (rgl (8) 8 8 rfl) q6 rfl
      refine e_grd (inb_g f7 rfl) ?_
      exact e_some ⟨hW1, hF1, trivial⟩
    · refine e_eq (f_M_rolled_j14.eq_1 _) ?_
      refine e_cE (t_M_found hW1 ((rgl (3) 3 3 rfl).sub rfl)) (fun u9 T9 p9 => ?_)
      obtain ⟨hW9, hT9, hr9⟩ := p9
      have hF9 := hF1.tr hT9 rfl
      exact e_some ⟨hW9, hF9, trivial⟩
set_option maxRecDepth 20000 in
set_option maxHeartbeats 4000000 in
theorem t_M_at {a1 : Int32} {a2 : Int32} {S : SS} (hW : WR S) : Ex2 (f_M_at a1 a2 S) (fun r U => WR U ∧ Fr [1] [(0, 0), (0, 1), (0, 2), (0, 3), (0, 5)] S U ∧ rn r (-2) 71) := by
  have hF : Fr [1] [(0, 0), (0, 1), (0, 2), (0, 3), (0, 5)] S S := Fr.rf
  refine e_eq (f_M_at.eq_1 _ _ _) ?_
  refine e_cV (t_M_begin hW) (fun T1 p1 => ?_)
  obtain ⟨hW1, hT1⟩ := p1
  have hF1 := hF.tr hT1 rfl
  refine e_bnd ?_
  refine e_eq (f_M_missPlace.eq_1 _ _ _) ?_
  refine e_bnd ?_
  refine e_eq (f_M_missTrack.eq_1 _ _) ?_
  refine e_i (fun q2 => ?_) (fun q2 => ?_)
  · refine e_some ?_
    refine e_f (by decide) ?_
    refine e_some ?_
    refine e_bnd ?_
    refine e_eq (f_M_ends.eq_1 _ _) ?_
    refine e_f (by decide) ?_
    refine e_cE (t_M_found hW1 ((rgl (3) 3 3 rfl).sub rfl)) (fun u4 T4 p4 => ?_)
    obtain ⟨hW4, hT4, hr4⟩ := p4
    have hF4 := hF1.tr hT4 rfl
    refine e_eq (f_M_ends_j10.eq_1 _ _) ?_
    refine e_f (by decide) ?_
    refine e_some ?_
    refine e_f (by decide) ?_
    exact e_some ⟨hW4, hF4, (rg.toN ((rgl (-2) (-2) (-2) rfl).sub rfl))⟩
  · have f5 := nlt_l (rgt _) (rgl 0 0 0 rfl) q2
    refine e_i (fun q6 => ?_) (fun q6 => ?_)
    · have f7 := lt_l 23 f5 (rgl (24) 24 24 rfl) q6 rfl
      refine e_i (fun q8 => ?_) (fun q8 => ?_)
      · refine e_some ?_
        refine e_t (by decide) ?_
        refine e_i (fun q10 => ?_) (fun q10 => ?_)
        · refine e_some ?_
          refine e_bnd ?_
          refine e_eq (f_M_ends.eq_1 _ _) ?_
          refine e_f (by decide) ?_
          refine e_cE (t_M_found hW1 ((rgl (3) 3 3 rfl).sub rfl)) (fun u12 T12 p12 => ?_)
          obtain ⟨hW12, hT12, hr12⟩ := p12
          have hF12 := hF1.tr hT12 rfl
          refine e_eq (f_M_ends_j10.eq_1 _ _) ?_
          refine e_f (by decide) ?_
          refine e_some ?_
          refine e_f (by decide) ?_
          exact e_some ⟨hW12, hF12, (rg.toN ((rgl (-2) (-2) (-2) rfl).sub rfl))⟩
        · refine e_grd (inb_g f7 rfl) ?_
          refine e_i (fun q15 => ?_) (fun q15 => ?_)
          · refine e_some ?_
            refine e_bnd ?_
            refine e_eq (f_M_ends.eq_1 _ _) ?_
            refine e_t (by decide) ?_
            refine e_eq (f_M_ends_j10.eq_1 _ _) ?_
            refine e_t (by decide) ?_
            refine e_some ?_
            refine e_t (by decide) ?_
            refine e_cE (t_M_standing hW1) (fun u18 T18 p18 => ?_)
            obtain ⟨-, hT18, hr18⟩ := p18
            have eT18 := (fr_nil hT18).symm
            subst eT18
            exact e_some ⟨hW1, hF1, (rn.sub hr18 rfl)⟩
          · refine e_some ?_
            refine e_bnd ?_
            refine e_eq (f_M_ends.eq_1 _ _) ?_
            refine e_f (by decide) ?_
            refine e_cE (t_M_found hW1 ((rgl (3) 3 3 rfl).sub rfl)) (fun u19 T19 p19 => ?_)
            obtain ⟨hW19, hT19, hr19⟩ := p19
            have hF19 := hF1.tr hT19 rfl
            refine e_eq (f_M_ends_j10.eq_1 _ _) ?_
            refine e_f (by decide) ?_
            refine e_some ?_
            refine e_f (by decide) ?_
            exact e_some ⟨hW19, hF19, (rg.toN ((rgl (-2) (-2) (-2) rfl).sub rfl))⟩
      · refine e_some ?_
        refine e_f (by decide) ?_
        refine e_some ?_
        refine e_bnd ?_
        refine e_eq (f_M_ends.eq_1 _ _) ?_
        refine e_f (by decide) ?_
        refine e_cE (t_M_found hW1 ((rgl (1) 1 1 rfl).sub rfl)) (fun u22 T22 p22 => ?_)
        obtain ⟨hW22, hT22, hr22⟩ := p22
        have hF22 := hF1.tr hT22 rfl
        refine e_eq (f_M_ends_j10.eq_1 _ _) ?_
        refine e_f (by decide) ?_
        refine e_some ?_
        refine e_f (by decide) ?_
        exact e_some ⟨hW22, hF22, (rg.toN ((rgl (-2) (-2) (-2) rfl).sub rfl))⟩
    · refine e_some ?_
      refine e_f (by decide) ?_
      refine e_some ?_
      refine e_bnd ?_
      refine e_eq (f_M_ends.eq_1 _ _) ?_
      refine e_f (by decide) ?_
      refine e_cE (t_M_found hW1 ((rgl (3) 3 3 rfl).sub rfl)) (fun u25 T25 p25 => ?_)
      obtain ⟨hW25, hT25, hr25⟩ := p25
      have hF25 := hF1.tr hT25 rfl
      refine e_eq (f_M_ends_j10.eq_1 _ _) ?_
      refine e_f (by decide) ?_
      refine e_some ?_
      refine e_f (by decide) ?_
      exact e_some ⟨hW25, hF25, (rg.toN ((rgl (-2) (-2) (-2) rfl).sub rfl))⟩
