set_option maxRecDepth 20000 in
set_option maxHeartbeats 4000000 in
theorem t_M_free_L32 {S0 : SS} : ∀ (n : Nat) (x1 : Int32) (x2 : Int32) (x3 : Int32) (S : SS), WR S → Fr [1, 11, 40, 41, 42] [(0, 0), (0, 1), (0, 2), (0, 3), (0, 5), (0, 60), (0, 61), (0, 62)] S0 S → rg x3 0 40 → rg (S.1 0 62) 0 599 → 40 - x3.toInt < (n : Int) → Ex2 (f_M_free_L32 n x1 x2 x3 S) (fun r U => WR U ∧ Fr [1, 11, 40, 41, 42] [(0, 0), (0, 1), (0, 2), (0, 3), (0, 5), (0, 60), (0, 61), (0, 62)] S0 U ∧ True) := by
  intro n
  induction n with
  | zero =>
    intro x1 x2 x3 S hW hF h2 hx0 hm
    exact up_0 h2 hm rfl
  | succ n ih =>
    intro x1 x2 x3 S hW hF h2 hx0 hm
    refine e_eq (f_M_free_L32.eq_2 _ _ _ _ _) ?_
    refine e_i (fun q1 => ?_) (fun q1 => ?_)
    · refine e_cE (t_M_entered hW hx0) (fun u2 T2 p2 => ?_)
      obtain ⟨hW2, hT2, hr2⟩ := p2
      have hF2 := hF.tr hT2 rfl
      exact e_some ⟨hW2, hF2, trivial⟩
    · have f4 := nle_r 39 (ro_0_15 hW) h2 q1 rfl
      refine e_grd (inb_g f4 rfl) ?_
      refine e_i (fun q5 => ?_) (fun q5 => ?_)
      · refine e_eq (f_M_free_j56.eq_1 _ _ _ _ _ _) ?_
        refine e_nmG (fun w6 hw6 => ?_)
        refine e_grd (inb_g f4 rfl) ?_
        refine e_t q5 ?_
        refine e_eq (f_M_free_j84.eq_1 _ _ _ _ _ _ _) ?_
        refine e_grd (inb_g f4 rfl) ?_
        refine e_wrA (fun T7 eT7 hT7 v7 => ?_)
        have hW7 := WR.st (k := 11) hW trivial rfl eT7
        have hF7 := hF.tr hT7 rfl
        have f8 := rg_tr hx0 (hT7.1 0 _ rfl)
        refine e_nmG (fun w11 hw11 => ?_)
        have f12 := rg_tr (rg_add 1 40 f4 (rgl (1) 1 1 rfl) rfl) hw11
        exact ih _ _ _ _ hW7 hF7 (f12.sub rfl) f8 (up_s f4 hw11 hm rfl)
      · refine e_eq (f_M_free_j56.eq_1 _ _ _ _ _ _) ?_
        refine e_nmG (fun w13 hw13 => ?_)
        refine e_grd (inb_g f4 rfl) ?_
        refine e_f q5 ?_
        refine e_grd (inb_g f4 rfl) ?_
        refine e_eq (f_M_free_j84.eq_1 _ _ _ _ _ _ _) ?_
        refine e_grd (inb_g f4 rfl) ?_
        refine e_wrA (fun T14 eT14 hT14 v14 => ?_)
        have hW14 := WR.st (k := 11) hW trivial rfl eT14
        have hF14 := hF.tr hT14 rfl
        have f15 := rg_tr hx0 (hT14.1 0 _ rfl)
        refine e_nmG (fun w17 hw17 => ?_)
        have f18 := rg_tr (rg_add 1 40 f4 (rgl (1) 1 1 rfl) rfl) hw17
        exact ih _ _ _ _ hW14 hF14 (f18.sub rfl) f15 (up_s f4 hw17 hm rfl)
set_option maxRecDepth 20000 in
set_option maxHeartbeats 4000000 in
theorem t_M_free {a1 : Int32} {S : SS} (hW : WR S) (hx0 : rg (S.1 0 62) 0 599) : Ex2 (f_M_free a1 S) (fun r U => WR U ∧ Fr [1, 11, 40, 41, 42] [(0, 0), (0, 1), (0, 2), (0, 3), (0, 5), (0, 60), (0, 61), (0, 62)] S U ∧ True) := by
  have hF : Fr [1, 11, 40, 41, 42] [(0, 0), (0, 1), (0, 2), (0, 3), (0, 5), (0, 60), (0, 61), (0, 62)] S S := Fr.rf
  refine e_eq (f_M_free.eq_1 _ _) ?_
  refine e_cV (t_M_begin hW) (fun T1 p1 => ?_)
  obtain ⟨hW1, hT1⟩ := p1
  have hF1 := hF.tr hT1 rfl
  have f2 := rg_tr hx0 (hT1.1 0 _ rfl)
  refine e_cV (t_M_keep hW1) (fun T3 p3 => ?_)
  obtain ⟨hW3, hT3⟩ := p3
  have hF3 := hF1.tr hT3 rfl
  have f4 := rg_tr f2 (hT3.1 0 _ rfl)
  refine e_bnd ?_
  refine e_eq (f_M_missRoute.eq_1 _ _) ?_
  refine e_i (fun q5 => ?_) (fun q5 => ?_)
  · refine e_some ?_
    refine e_bnd ?_
    refine e_eq (f_M_ends.eq_1 _ _) ?_
    refine e_f (by decide) ?_
    refine e_cE (t_M_found hW3 ((rgl (3) 3 3 rfl).sub rfl)) (fun u7 T7 p7 => ?_)
    obtain ⟨hW7, hT7, hr7⟩ := p7
    have hF7 := hF3.tr hT7 rfl
    have f8 := rg_tr f4 (hT7.1 0 _ rfl)
    refine e_eq (f_M_ends_j10.eq_1 _ _) ?_
    refine e_f (by decide) ?_
    refine e_some ?_
    refine e_f (by decide) ?_
    refine e_cE (t_M_entered hW7 f8) (fun u9 T9 p9 => ?_)
    obtain ⟨hW9, hT9, hr9⟩ := p9
    have hF9 := hF7.tr hT9 rfl
    exact e_some ⟨hW9, hF9, trivial⟩
  · refine e_i (fun q11 => ?_) (fun q11 => ?_)
    · refine e_i (fun q13 => ?_) (fun q13 => ?_)
      · refine e_some ?_
        refine e_bnd ?_
        refine e_eq (f_M_ends.eq_1 _ _) ?_
        refine e_t (by decide) ?_
        refine e_eq (f_M_ends_j10.eq_1 _ _) ?_
        refine e_t (by decide) ?_
        refine e_some ?_
        refine e_t (by decide) ?_
        exact t_M_free_L32  NF _ _ _ _ hW3 hF3 ((rgl (0) 0 0 rfl).sub rfl) f4 (up_n (rgl (0) 0 0 rfl) rfl)
      · refine e_some ?_
        refine e_bnd ?_
        refine e_eq (f_M_ends.eq_1 _ _) ?_
        refine e_f (by decide) ?_
        refine e_cE (t_M_found hW3 ((rgl (1) 1 1 rfl).sub rfl)) (fun u16 T16 p16 => ?_)
        obtain ⟨hW16, hT16, hr16⟩ := p16
        have hF16 := hF3.tr hT16 rfl
        have f17 := rg_tr f4 (hT16.1 0 _ rfl)
        refine e_eq (f_M_ends_j10.eq_1 _ _) ?_
        refine e_f (by decide) ?_
        refine e_some ?_
        refine e_f (by decide) ?_
        refine e_cE (t_M_entered hW16 f17) (fun u19 T19 p19 => ?_)
        obtain ⟨hW19, hT19, hr19⟩ := p19
        have hF19 := hF16.tr hT19 rfl
        exact e_some ⟨hW19, hF19, trivial⟩
    · refine e_some ?_
      refine e_bnd ?_
      refine e_eq (f_M_ends.eq_1 _ _) ?_
      refine e_f (by decide) ?_
      refine e_cE (t_M_found hW3 ((rgl (3) 3 3 rfl).sub rfl)) (fun u22 T22 p22 => ?_)
      obtain ⟨hW22, hT22, hr22⟩ := p22
      have hF22 := hF3.tr hT22 rfl
      have f23 := rg_tr f4 (hT22.1 0 _ rfl)
      refine e_eq (f_M_ends_j10.eq_1 _ _) ?_
      refine e_f (by decide) ?_
      refine e_some ?_
      refine e_f (by decide) ?_
      refine e_cE (t_M_entered hW22 f23) (fun u24 T24 p24 => ?_)
      obtain ⟨hW24, hT24, hr24⟩ := p24
      have hF24 := hF22.tr hT24 rfl
      exact e_some ⟨hW24, hF24, trivial⟩
set_option maxRecDepth 20000 in
set_option maxHeartbeats 4000000 in
theorem t_M_missSide {a1 : Int32} {a2 : Int32} {a3 : Int32} {S : SS} (hW : WR S) : Ex2 (f_M_missSide a1 a2 a3 S) (fun r U => WR U ∧ Fr [] [] S U ∧ rg r 0 3 ∧ (r = 0 → rg a1 0 71 ∧ rg a3 0 1 ∧ ¬ U.1 0 29 ≤ a1)) := by
  have hF : Fr [] [] S S := Fr.rf
  refine e_eq (f_M_missSide.eq_1 _ _ _ _) ?_
  refine e_bnd ?_
  refine e_eq (f_M_missThing.eq_1 _ _ _) ?_
  refine e_i (fun q1 => ?_) (fun q1 => ?_)
  · refine e_some ?_
    refine e_f (by decide) ?_
    exact e_some ⟨hW, hF, ((rgl (3) 3 3 rfl).sub rfl), fun e => absurd e (d_ne (rgl (3) 3 3 rfl) (rgl 0 0 0 rfl) rfl)⟩
  · have f3 := nlt_l (rgt _) (rgl 0 0 0 rfl) q1
    refine e_i (fun q4 => ?_) (fun q4 => ?_)
    · have f5 := lt_l 71 f3 (rgl (72) 72 72 rfl) q4 rfl
      refine e_i (fun q6 => ?_) (fun q6 => ?_)
      · refine e_some ?_
        refine e_f (by decide) ?_
        exact e_some ⟨hW, hF, ((rgl (1) 1 1 rfl).sub rfl), fun e => absurd e (d_ne (rgl (1) 1 1 rfl) (rgl 0 0 0 rfl) rfl)⟩
      · refine e_grd (inb_g f5 rfl) ?_
        refine e_i (fun q9 => ?_) (fun q9 => ?_)
        · refine e_some ?_
          refine e_f (by decide) ?_
          exact e_some ⟨hW, hF, ((rgl (1) 1 1 rfl).sub rfl), fun e => absurd e (d_ne (rgl (1) 1 1 rfl) (rgl 0 0 0 rfl) rfl)⟩
        · refine e_bnd ?_
          refine e_eq (f_M_isSuch.eq_1 _ _ _) ?_
          refine e_grd (inb_g f5 rfl) ?_
          refine e_nmG (fun w12 hw12 => ?_)
          refine e_i (fun q13 => ?_) (fun q13 => ?_)
          · refine e_i (fun q15 => ?_) (fun q15 => ?_)
            · refine e_some ?_
              refine e_t (by decide) ?_
              refine e_some ?_
              refine e_f (by decide) ?_
              exact e_some ⟨hW, hF, ((rgl (2) 2 2 rfl).sub rfl), fun e => absurd e (d_ne (rgl (2) 2 2 rfl) (rgl 0 0 0 rfl) rfl)⟩
            · refine e_some ?_
              refine e_f (by decide) ?_
              refine e_some ?_
              refine e_t (by decide) ?_
              refine e_bnd ?_
              refine e_eq (f_M_isSide.eq_1 _ _) ?_
              refine e_i (fun q20 => ?_) (fun q20 => ?_)
              · have f21 := rg_tr (rgl 0 0 0 rfl) q20
                refine e_some ?_
                refine e_f (by decide) ?_
                exact e_some ⟨hW, hF, ((rgl (0) 0 0 rfl).sub rfl), fun _ => ⟨f5, (f21.sub rfl), q6⟩⟩
              · refine e_i (fun q22 => ?_) (fun q22 => ?_)
                · have f23 := rg_tr (rgl (1) 1 1 rfl) q22
                  refine e_some ?_
                  refine e_f (by decide) ?_
                  exact e_some ⟨hW, hF, ((rgl (0) 0 0 rfl).sub rfl), fun _ => ⟨f5, (f23.sub rfl), q6⟩⟩
                · refine e_some ?_
                  refine e_t (by decide) ?_
                  exact e_some ⟨hW, hF, ((rgl (3) 3 3 rfl).sub rfl), fun e => absurd e (d_ne (rgl (3) 3 3 rfl) (rgl 0 0 0 rfl) rfl)⟩
          · refine e_i (fun q24 => ?_) (fun q24 => ?_)
            · refine e_i (fun q26 => ?_) (fun q26 => ?_)
              · refine e_some ?_
                refine e_t (by decide) ?_
                refine e_some ?_
                refine e_f (by decide) ?_
                exact e_some ⟨hW, hF, ((rgl (2) 2 2 rfl).sub rfl), fun e => absurd e (d_ne (rgl (2) 2 2 rfl) (rgl 0 0 0 rfl) rfl)⟩
              · refine e_some ?_
                refine e_f (by decide) ?_
                refine e_some ?_
                refine e_t (by decide) ?_
                refine e_bnd ?_
                refine e_eq (f_M_isSide.eq_1 _ _) ?_
                refine e_i (fun q31 => ?_) (fun q31 => ?_)
                · have f32 := rg_tr (rgl 0 0 0 rfl) q31
                  refine e_some ?_
                  refine e_f (by decide) ?_
                  exact e_some ⟨hW, hF, ((rgl (0) 0 0 rfl).sub rfl), fun _ => ⟨f5, (f32.sub rfl), q6⟩⟩
                · refine e_i (fun q33 => ?_) (fun q33 => ?_)
                  · have f34 := rg_tr (rgl (1) 1 1 rfl) q33
                    refine e_some ?_
                    refine e_f (by decide) ?_
                    exact e_some ⟨hW, hF, ((rgl (0) 0 0 rfl).sub rfl), fun _ => ⟨f5, (f34.sub rfl), q6⟩⟩
                  · refine e_some ?_
                    refine e_t (by decide) ?_
                    exact e_some ⟨hW, hF, ((rgl (3) 3 3 rfl).sub rfl), fun e => absurd e (d_ne (rgl (3) 3 3 rfl) (rgl 0 0 0 rfl) rfl)⟩
            · refine e_i (fun q35 => ?_) (fun q35 => ?_)
              · refine e_i (fun q37 => ?_) (fun q37 => ?_)
                · refine e_some ?_
                  refine e_t (by decide) ?_
                  refine e_some ?_
                  refine e_f (by decide) ?_
                  exact e_some ⟨hW, hF, ((rgl (2) 2 2 rfl).sub rfl), fun e => absurd e (d_ne (rgl (2) 2 2 rfl) (rgl 0 0 0 rfl) rfl)⟩
                · refine e_some ?_
                  refine e_f (by decide) ?_
                  refine e_some ?_
                  refine e_t (by decide) ?_
                  refine e_bnd ?_
                  refine e_eq (f_M_isSide.eq_1 _ _) ?_
                  refine e_i (fun q42 => ?_) (fun q42 => ?_)
                  · have f43 := rg_tr (rgl 0 0 0 rfl) q42
                    refine e_some ?_
                    refine e_f (by decide) ?_
                    exact e_some ⟨hW, hF, ((rgl (0) 0 0 rfl).sub rfl), fun _ => ⟨f5, (f43.sub rfl), q6⟩⟩
                  · refine e_i (fun q44 => ?_) (fun q44 => ?_)
                    · have f45 := rg_tr (rgl (1) 1 1 rfl) q44
                      refine e_some ?_
                      refine e_f (by decide) ?_
                      exact e_some ⟨hW, hF, ((rgl (0) 0 0 rfl).sub rfl), fun _ => ⟨f5, (f45.sub rfl), q6⟩⟩
                    · refine e_some ?_
                      refine e_t (by decide) ?_
                      exact e_some ⟨hW, hF, ((rgl (3) 3 3 rfl).sub rfl), fun e => absurd e (d_ne (rgl (3) 3 3 rfl) (rgl 0 0 0 rfl) rfl)⟩
              · refine e_i (fun q46 => ?_) (fun q46 => ?_)
                · refine e_i (fun q48 => ?_) (fun q48 => ?_)
                  · refine e_some ?_
                    refine e_f (by decide) ?_
                    refine e_some ?_
                    refine e_t (by decide) ?_
                    refine e_bnd ?_
                    refine e_eq (f_M_isSide.eq_1 _ _) ?_
                    refine e_i (fun q51 => ?_) (fun q51 => ?_)
                    · have f52 := rg_tr (rgl 0 0 0 rfl) q51
                      refine e_some ?_
                      refine e_f (by decide) ?_
                      exact e_some ⟨hW, hF, ((rgl (0) 0 0 rfl).sub rfl), fun _ => ⟨f5, (f52.sub rfl), q6⟩⟩
                    · refine e_i (fun q53 => ?_) (fun q53 => ?_)
                      · have f54 := rg_tr (rgl (1) 1 1 rfl) q53
                        refine e_some ?_
                        refine e_f (by decide) ?_
                        exact e_some ⟨hW, hF, ((rgl (0) 0 0 rfl).sub rfl), fun _ => ⟨f5, (f54.sub rfl), q6⟩⟩
                      · refine e_some ?_
                        refine e_t (by decide) ?_
                        exact e_some ⟨hW, hF, ((rgl (3) 3 3 rfl).sub rfl), fun e => absurd e (d_ne (rgl (3) 3 3 rfl) (rgl 0 0 0 rfl) rfl)⟩
                  · refine e_some ?_
                    refine e_t (by decide) ?_
                    refine e_some ?_
                    refine e_f (by decide) ?_
                    exact e_some ⟨hW, hF, ((rgl (2) 2 2 rfl).sub rfl), fun e => absurd e (d_ne (rgl (2) 2 2 rfl) (rgl 0 0 0 rfl) rfl)⟩
                · refine e_some ?_
                  refine e_f (by decide) ?_
                  refine e_some ?_
                  refine e_t (by decide) ?_
                  refine e_bnd ?_
                  refine e_eq (f_M_isSide.eq_1 _ _) ?_
                  refine e_i (fun q55 => ?_) (fun q55 => ?_)
                  · have f56 := rg_tr (rgl 0 0 0 rfl) q55
                    refine e_some ?_
                    refine e_f (by decide) ?_
                    exact e_some ⟨hW, hF, ((rgl (0) 0 0 rfl).sub rfl), fun _ => ⟨f5, (f56.sub rfl), q6⟩⟩
                  · refine e_i (fun q57 => ?_) (fun q57 => ?_)
                    · have f58 := rg_tr (rgl (1) 1 1 rfl) q57
                      refine e_some ?_
                      refine e_f (by decide) ?_
                      exact e_some ⟨hW, hF, ((rgl (0) 0 0 rfl).sub rfl), fun _ => ⟨f5, (f58.sub rfl), q6⟩⟩
                    · refine e_some ?_
                      refine e_t (by decide) ?_
                      exact e_some ⟨hW, hF, ((rgl (3) 3 3 rfl).sub rfl), fun e => absurd e (d_ne (rgl (3) 3 3 rfl) (rgl 0 0 0 rfl) rfl)⟩
    · refine e_some ?_
      refine e_f (by decide) ?_
      exact e_some ⟨hW, hF, ((rgl (3) 3 3 rfl).sub rfl), fun e => absurd e (d_ne (rgl (3) 3 3 rfl) (rgl 0 0 0 rfl) rfl)⟩
set_option maxRecDepth 20000 in
set_option maxHeartbeats 4000000 in
theorem t_M_isOpen {a1 : Int32} {a2 : Int32} {a3 : Int32} {S : SS} (hW : WR S) (h0 : rg a1 0 23) (h2 : rg a3 0 1) : Ex2 (f_M_isOpen a1 a2 a3 S) (fun r U => WR U ∧ Fr [] [(0, 26), (0, 27), (0, 28)] S U ∧ rg r 0 1) := by
  have hF : Fr [] [(0, 26), (0, 27), (0, 28)] S S := Fr.rf
  refine e_eq (f_M_isOpen.eq_1 _ _ _ _) ?_
  refine e_i (fun q1 => ?_) (fun q1 => ?_)
  · have f2 := rg_tr (rgl (1) 1 1 rfl) q1
    refine e_eq (f_M_isOpen_j14.eq_1 _ _ _ _ _) ?_
    refine e_i (fun q3 => ?_) (fun q3 => ?_)
    · refine e_eq (f_M_isOpen_j50.eq_1 _ _ _ _) ?_
      refine e_nmG (fun w5 hw5 => ?_)
      have f6 := rg_tr (rg_add 1 47 (rg_mul 0 46 (rgl (2) 2 2 rfl) h0 rfl) f2 rfl) hw5
      refine e_bnd ?_
      refine e_eq (f_M_openLink.eq_1 _ _) ?_
      refine e_grd (inb_g f6 rfl) ?_
      refine e_i (fun q7 => ?_) (fun q7 => ?_)
      · refine e_eq (f_M_openLink_j26.eq_1 _ _ _) ?_
        refine e_grd (inb_g f6 rfl) ?_
        refine e_i (fun q9 => ?_) (fun q9 => ?_)
        · refine e_some ?_
          refine e_t rfl ?_
          exact e_some ⟨hW, hF, ((rgl (0) 0 0 rfl).sub rfl)⟩
        · refine e_some ?_
          refine e_f (by decide) ?_
          refine e_grd (inb_g (rg_add 3 141 (rg_mul 3 141 (rgl (3) 3 3 rfl) f6 rfl) (rgl (0) 0 0 rfl) rfl) rfl) ?_
          refine e_nmG (fun w12 hw12 => ?_)
          have f13 := rg_tr (ro_7 hW _) hw12
          refine e_bnd ?_
          refine e_eq (f_M_openLink.eq_1 _ _) ?_
          refine e_grd (inb_g f13 rfl) ?_
          refine e_i (fun q14 => ?_) (fun q14 => ?_)
          · refine e_eq (f_M_openLink_j26.eq_1 _ _ _) ?_
            refine e_grd (inb_g f13 rfl) ?_
            refine e_i (fun q16 => ?_) (fun q16 => ?_)
            · refine e_some ?_
              refine e_t rfl ?_
              exact e_some ⟨hW, hF, ((rgl (0) 0 0 rfl).sub rfl)⟩
            · refine e_some ?_
              refine e_f (by decide) ?_
              refine e_grd (inb_g (rg_add 0 141 (rg_mul 0 141 (rgl (3) 3 3 rfl) f13 rfl) (rgl (0) 0 0 rfl) rfl) rfl) ?_
              refine e_grd (inb_g (rg_add 3 141 (rg_mul 3 141 (rgl (3) 3 3 rfl) f6 rfl) (rgl (0) 0 0 rfl) rfl) rfl) ?_
              refine e_i (fun q19 => ?_) (fun q19 => ?_)
              · refine e_wrO (fun T20 eT20 hT20 v20 => ?_)
                have hW20 := wo_0_26 hW (rg_div 0 23 2 f13 (by decide) rfl) eT20
                have hF20 := hF.tr hT20 rfl
                refine e_bnd ?_
                refine e_eq (f_M_placeAtEnd.eq_1 _ _) ?_
                refine e_i (fun q26 => ?_) (fun q26 => ?_)
                · refine e_some ?_
                  refine e_wrO (fun T28 eT28 hT28 v28 => ?_)
                  have hW28 := WR.st (k := 0) (i := 27) hW20 trivial rfl eT28
                  have hF28 := hF20.tr hT28 rfl
                  refine e_t q26 ?_
                  refine e_eq (f_M_isOpen_j163.eq_1 _ _ _ _) ?_
                  refine e_wrO (fun T35 eT35 hT35 v35 => ?_)
                  have hW35 := wo_0_28 hW28 ((rgl (1) 1 1 rfl).sub rfl) eT35
                  have hF35 := hF28.tr hT35 rfl
                  refine e_i (fun q43 => ?_) (fun q43 => ?_)
                  · refine e_i (fun q44 => ?_) (fun q44 => ?_)
                    · exact e_some ⟨hW35, hF35, ((rgl (0) 0 0 rfl).sub rfl)⟩
                    · exact e_some ⟨hW35, hF35, ((rgl (1) 1 1 rfl).sub rfl)⟩
                  · exact e_some ⟨hW35, hF35, ((rgl (1) 1 1 rfl).sub rfl)⟩
                · refine e_grd (inb_g (rg_div 0 23 2 f13 (by decide) rfl) rfl) ?_
                  refine e_someG (fun w47 hw47 => ?_)
                  refine e_wrO (fun T48 eT48 hT48 v48 => ?_)
                  have hW48 := WR.st (k := 0) (i := 27) hW20 trivial rfl eT48
                  have hF48 := hF20.tr hT48 rfl
                  refine e_f q26 ?_
                  refine e_eq (f_M_isOpen_j163.eq_1 _ _ _ _) ?_
                  refine e_wrO (fun T54 eT54 hT54 v54 => ?_)
                  have hW54 := wo_0_28 hW48 ((rgl (0) 0 0 rfl).sub rfl) eT54
                  have hF54 := hF48.tr hT54 rfl
                  refine e_i (fun q61 => ?_) (fun q61 => ?_)
                  · refine e_i (fun q62 => ?_) (fun q62 => ?_)
                    · exact e_some ⟨hW54, hF54, ((rgl (0) 0 0 rfl).sub rfl)⟩
                    · exact e_some ⟨hW54, hF54, ((rgl (1) 1 1 rfl).sub rfl)⟩
                  · exact e_some ⟨hW54, hF54, ((rgl (1) 1 1 rfl).sub rfl)⟩
              · exact e_some ⟨hW, hF, ((rgl (0) 0 0 rfl).sub rfl)⟩
          · have f63 := rn.ne (ro_5 hW _) q14
            refine e_grd (inb_g f13 rfl) ?_
            refine e_grd (inb_g f63 rfl) ?_
            refine e_eq (f_M_openLink_j26.eq_1 _ _ _) ?_
            refine e_grd (inb_g f13 rfl) ?_
            refine e_i (fun q64 => ?_) (fun q64 => ?_)
            · refine e_some ?_
              refine e_t rfl ?_
              exact e_some ⟨hW, hF, ((rgl (0) 0 0 rfl).sub rfl)⟩
            · refine e_someG (fun w67 hw67 => ?_)
              have f68 := rg_tr (ro_10 hW _) hw67
              refine e_f (d_ne f68 (rgl (-4) (-4) (-4) rfl) rfl) ?_
              refine e_grd (inb_g (rg_add 0 143 (rg_mul 0 141 (rgl (3) 3 3 rfl) f13 rfl) f68 rfl) rfl) ?_
              refine e_grd (inb_g (rg_add 3 141 (rg_mul 3 141 (rgl (3) 3 3 rfl) f6 rfl) (rgl (0) 0 0 rfl) rfl) rfl) ?_
              refine e_i (fun q69 => ?_) (fun q69 => ?_)
              · refine e_wrO (fun T70 eT70 hT70 v70 => ?_)
                have hW70 := wo_0_26 hW (rg_div 0 23 2 f13 (by decide) rfl) eT70
                have hF70 := hF.tr hT70 rfl
                refine e_bnd ?_
                refine e_eq (f_M_placeAtEnd.eq_1 _ _) ?_
                refine e_i (fun q76 => ?_) (fun q76 => ?_)
                · refine e_some ?_
                  refine e_wrO (fun T78 eT78 hT78 v78 => ?_)
                  have hW78 := WR.st (k := 0) (i := 27) hW70 trivial rfl eT78
                  have hF78 := hF70.tr hT78 rfl
                  refine e_t q76 ?_
                  refine e_eq (f_M_isOpen_j163.eq_1 _ _ _ _) ?_
                  refine e_wrO (fun T85 eT85 hT85 v85 => ?_)
                  have hW85 := wo_0_28 hW78 ((rgl (1) 1 1 rfl).sub rfl) eT85
                  have hF85 := hF78.tr hT85 rfl
                  refine e_i (fun q93 => ?_) (fun q93 => ?_)
                  · refine e_i (fun q94 => ?_) (fun q94 => ?_)
                    · exact e_some ⟨hW85, hF85, ((rgl (0) 0 0 rfl).sub rfl)⟩
                    · exact e_some ⟨hW85, hF85, ((rgl (1) 1 1 rfl).sub rfl)⟩
                  · exact e_some ⟨hW85, hF85, ((rgl (1) 1 1 rfl).sub rfl)⟩
                · refine e_grd (inb_g (rg_div 0 23 2 f13 (by decide) rfl) rfl) ?_
                  refine e_someG (fun w97 hw97 => ?_)
                  refine e_wrO (fun T98 eT98 hT98 v98 => ?_)
                  have hW98 := WR.st (k := 0) (i := 27) hW70 trivial rfl eT98
                  have hF98 := hF70.tr hT98 rfl
                  refine e_f q76 ?_
                  refine e_eq (f_M_isOpen_j163.eq_1 _ _ _ _) ?_
                  refine e_wrO (fun T104 eT104 hT104 v104 => ?_)
                  have hW104 := wo_0_28 hW98 ((rgl (0) 0 0 rfl).sub rfl) eT104
                  have hF104 := hF98.tr hT104 rfl
                  refine e_i (fun q111 => ?_) (fun q111 => ?_)
                  · refine e_i (fun q112 => ?_) (fun q112 => ?_)
                    · exact e_some ⟨hW104, hF104, ((rgl (0) 0 0 rfl).sub rfl)⟩
                    · exact e_some ⟨hW104, hF104, ((rgl (1) 1 1 rfl).sub rfl)⟩
                  · exact e_some ⟨hW104, hF104, ((rgl (1) 1 1 rfl).sub rfl)⟩
              · exact e_some ⟨hW, hF, ((rgl (0) 0 0 rfl).sub rfl)⟩
      · have f113 := rn.ne (ro_5 hW _) q7
        refine e_grd (inb_g f6 rfl) ?_
        refine e_grd (inb_g f113 rfl) ?_
        refine e_eq (f_M_openLink_j26.eq_1 _ _ _) ?_
        refine e_grd (inb_g f6 rfl) ?_
        refine e_i (fun q114 => ?_) (fun q114 => ?_)
        · refine e_some ?_
          refine e_t rfl ?_
          exact e_some ⟨hW, hF, ((rgl (0) 0 0 rfl).sub rfl)⟩
        · refine e_someG (fun w117 hw117 => ?_)
          have f118 := rg_tr (ro_10 hW _) hw117
          refine e_f (d_ne f118 (rgl (-4) (-4) (-4) rfl) rfl) ?_
          refine e_grd (inb_g (rg_add 3 143 (rg_mul 3 141 (rgl (3) 3 3 rfl) f6 rfl) f118 rfl) rfl) ?_
          refine e_nmG (fun w119 hw119 => ?_)
          have f120 := rg_tr (ro_7 hW _) hw119
          refine e_bnd ?_
          refine e_eq (f_M_openLink.eq_1 _ _) ?_
          refine e_grd (inb_g f120 rfl) ?_
          refine e_i (fun q121 => ?_) (fun q121 => ?_)
          · refine e_eq (f_M_openLink_j26.eq_1 _ _ _) ?_
            refine e_grd (inb_g f120 rfl) ?_
            refine e_i (fun q123 => ?_) (fun q123 => ?_)
            · refine e_some ?_
              refine e_t rfl ?_
              exact e_some ⟨hW, hF, ((rgl (0) 0 0 rfl).sub rfl)⟩
            · refine e_some ?_
              refine e_f (by decide) ?_
              refine e_grd (inb_g (rg_add 0 141 (rg_mul 0 141 (rgl (3) 3 3 rfl) f120 rfl) (rgl (0) 0 0 rfl) rfl) rfl) ?_
              refine e_grd (inb_g (rg_add 3 143 (rg_mul 3 141 (rgl (3) 3 3 rfl) f6 rfl) f118 rfl) rfl) ?_
              refine e_i (fun q126 => ?_) (fun q126 => ?_)
              · refine e_wrO (fun T127 eT127 hT127 v127 => ?_)
                have hW127 := wo_0_26 hW (rg_div 0 23 2 f120 (by decide) rfl) eT127
                have hF127 := hF.tr hT127 rfl
                refine e_bnd ?_
                refine e_eq (f_M_placeAtEnd.eq_1 _ _) ?_
                refine e_i (fun q133 => ?_) (fun q133 => ?_)
                · refine e_some ?_
                  refine e_wrO (fun T135 eT135 hT135 v135 => ?_)
                  have hW135 := WR.st (k := 0) (i := 27) hW127 trivial rfl eT135
                  have hF135 := hF127.tr hT135 rfl
                  refine e_t q133 ?_
                  refine e_eq (f_M_isOpen_j163.eq_1 _ _ _ _) ?_
                  refine e_wrO (fun T142 eT142 hT142 v142 => ?_)
                  have hW142 := wo_0_28 hW135 ((rgl (1) 1 1 rfl).sub rfl) eT142
                  have hF142 := hF135.tr hT142 rfl
                  refine e_i (fun q150 => ?_) (fun q150 => ?_)
                  · refine e_i (fun q151 => ?_) (fun q151 => ?_)
                    · exact e_some ⟨hW142, hF142, ((rgl (0) 0 0 rfl).sub rfl)⟩
                    · exact e_some ⟨hW142, hF142, ((rgl (1) 1 1 rfl).sub rfl)⟩
                  · exact e_some ⟨hW142, hF142, ((rgl (1) 1 1 rfl).sub rfl)⟩
                · refine e_grd (inb_g (rg_div 0 23 2 f120 (by decide) rfl) rfl) ?_
                  refine e_someG (fun w154 hw154 => ?_)
                  refine e_wrO (fun T155 eT155 hT155 v155 => ?_)
                  have hW155 := WR.st (k := 0) (i := 27) hW127 trivial rfl eT155
                  have hF155 := hF127.tr hT155 rfl
                  refine e_f q133 ?_
                  refine e_eq (f_M_isOpen_j163.eq_1 _ _ _ _) ?_
                  refine e_wrO (fun T161 eT161 hT161 v161 => ?_)
                  have hW161 := wo_0_28 hW155 ((rgl (0) 0 0 rfl).sub rfl) eT161
                  have hF161 := hF155.tr hT161 rfl
                  refine e_i (fun q168 => ?_) (fun q168 => ?_)
                  · refine e_i (fun q169 => ?_) (fun q169 => ?_)
                    · exact e_some ⟨hW161, hF161, ((rgl (0) 0 0 rfl).sub rfl)⟩
                    · exact e_some ⟨hW161, hF161, ((rgl (1) 1 1 rfl).sub rfl)⟩
                  · exact e_some ⟨hW161, hF161, ((rgl (1) 1 1 rfl).sub rfl)⟩
              · exact e_some ⟨hW, hF, ((rgl (0) 0 0 rfl).sub rfl)⟩
          · have f170 := rn.ne (ro_5 hW _) q121
            refine e_grd (inb_g f120 rfl) ?_
            refine e_grd (inb_g f170 rfl) ?_
            refine e_eq (f_M_openLink_j26.eq_1 _ _ _) ?_
            refine e_grd (inb_g f120 rfl) ?_
            refine e_i (fun q171 => ?_) (fun q171 => ?_)
            · refine e_some ?_
              refine e_t rfl ?_
              exact e_some ⟨hW, hF, ((rgl (0) 0 0 rfl).sub rfl)⟩
            · refine e_someG (fun w174 hw174 => ?_)
              have f175 := rg_tr (ro_10 hW _) hw174
              refine e_f (d_ne f175 (rgl (-4) (-4) (-4) rfl) rfl) ?_
              refine e_grd (inb_g (rg_add 0 143 (rg_mul 0 141 (rgl (3) 3 3 rfl) f120 rfl) f175 rfl) rfl) ?_
              refine e_grd (inb_g (rg_add 3 143 (rg_mul 3 141 (rgl (3) 3 3 rfl) f6 rfl) f118 rfl) rfl) ?_
              refine e_i (fun q176 => ?_) (fun q176 => ?_)
              · refine e_wrO (fun T177 eT177 hT177 v177 => ?_)
                have hW177 := wo_0_26 hW (rg_div 0 23 2 f120 (by decide) rfl) eT177
                have hF177 := hF.tr hT177 rfl
                refine e_bnd ?_
                refine e_eq (f_M_placeAtEnd.eq_1 _ _) ?_
                refine e_i (fun q183 => ?_) (fun q183 => ?_)
                · refine e_some ?_
                  refine e_wrO (fun T185 eT185 hT185 v185 => ?_)
                  have hW185 := WR.st (k := 0) (i := 27) hW177 trivial rfl eT185
                  have hF185 := hF177.tr hT185 rfl
                  refine e_t q183 ?_
                  refine e_eq (f_M_isOpen_j163.eq_1 _ _ _ _) ?_
                  refine e_wrO (fun T192 eT192 hT192 v192 => ?_)
                  have hW192 := wo_0_28 hW185 ((rgl (1) 1 1 rfl).sub rfl) eT192
                  have hF192 := hF185.tr hT192 rfl
                  refine e_i (fun q200 => ?_) (fun q200 => ?_)
                  · refine e_i (fun q201 => ?_) (fun q201 => ?_)
                    · exact e_some ⟨hW192, hF192, ((rgl (0) 0 0 rfl).sub rfl)⟩
                    · exact e_some ⟨hW192, hF192, ((rgl (1) 1 1 rfl).sub rfl)⟩
                  · exact e_some ⟨hW192, hF192, ((rgl (1) 1 1 rfl).sub rfl)⟩
                · refine e_grd (inb_g (rg_div 0 23 2 f120 (by decide) rfl) rfl) ?_
                  refine e_someG (fun w204 hw204 => ?_)
                  refine e_wrO (fun T205 eT205 hT205 v205 => ?_)
                  have hW205 := WR.st (k := 0) (i := 27) hW177 trivial rfl eT205
                  have hF205 := hF177.tr hT205 rfl
                  refine e_f q183 ?_
                  refine e_eq (f_M_isOpen_j163.eq_1 _ _ _ _) ?_
                  refine e_wrO (fun T211 eT211 hT211 v211 => ?_)
                  have hW211 := wo_0_28 hW205 ((rgl (0) 0 0 rfl).sub rfl) eT211
                  have hF211 := hF205.tr hT211 rfl
                  refine e_i (fun q218 => ?_) (fun q218 => ?_)
                  · refine e_i (fun q219 => ?_) (fun q219 => ?_)
                    · exact e_some ⟨hW211, hF211, ((rgl (0) 0 0 rfl).sub rfl)⟩
                    · exact e_some ⟨hW211, hF211, ((rgl (1) 1 1 rfl).sub rfl)⟩
                  · exact e_some ⟨hW211, hF211, ((rgl (1) 1 1 rfl).sub rfl)⟩
              · exact e_some ⟨hW, hF, ((rgl (0) 0 0 rfl).sub rfl)⟩
    · refine e_grd (inb_g h0 rfl) ?_
      refine e_i (fun q221 => ?_) (fun q221 => ?_)
      · refine e_eq (f_M_isOpen_j50.eq_1 _ _ _ _) ?_
        refine e_nmG (fun w222 hw222 => ?_)
        have f223 := rg_tr (rg_add 1 47 (rg_mul 0 46 (rgl (2) 2 2 rfl) h0 rfl) f2 rfl) hw222
        refine e_bnd ?_
        refine e_eq (f_M_openLink.eq_1 _ _) ?_
        refine e_grd (inb_g f223 rfl) ?_
        refine e_i (fun q224 => ?_) (fun q224 => ?_)
        · refine e_eq (f_M_openLink_j26.eq_1 _ _ _) ?_
          refine e_grd (inb_g f223 rfl) ?_
          refine e_i (fun q226 => ?_) (fun q226 => ?_)
          · refine e_some ?_
            refine e_t rfl ?_
            exact e_some ⟨hW, hF, ((rgl (0) 0 0 rfl).sub rfl)⟩
          · refine e_some ?_
            refine e_f (by decide) ?_
            refine e_grd (inb_g (rg_add 3 141 (rg_mul 3 141 (rgl (3) 3 3 rfl) f223 rfl) (rgl (0) 0 0 rfl) rfl) rfl) ?_
            refine e_nmG (fun w229 hw229 => ?_)
            have f230 := rg_tr (ro_7 hW _) hw229
            refine e_bnd ?_
            refine e_eq (f_M_openLink.eq_1 _ _) ?_
            refine e_grd (inb_g f230 rfl) ?_
            refine e_i (fun q231 => ?_) (fun q231 => ?_)
            · refine e_eq (f_M_openLink_j26.eq_1 _ _ _) ?_
              refine e_grd (inb_g f230 rfl) ?_
              refine e_i (fun q233 => ?_) (fun q233 => ?_)
              · refine e_some ?_
                refine e_t rfl ?_
                exact e_some ⟨hW, hF, ((rgl (0) 0 0 rfl).sub rfl)⟩
              · refine e_some ?_
                refine e_f (by decide) ?_
                refine e_grd (inb_g (rg_add 0 141 (rg_mul 0 141 (rgl (3) 3 3 rfl) f230 rfl) (rgl (0) 0 0 rfl) rfl) rfl) ?_
                refine e_grd (inb_g (rg_add 3 141 (rg_mul 3 141 (rgl (3) 3 3 rfl) f223 rfl) (rgl (0) 0 0 rfl) rfl) rfl) ?_
                refine e_i (fun q236 => ?_) (fun q236 => ?_)
                · refine e_wrO (fun T237 eT237 hT237 v237 => ?_)
                  have hW237 := wo_0_26 hW (rg_div 0 23 2 f230 (by decide) rfl) eT237
                  have hF237 := hF.tr hT237 rfl
                  refine e_bnd ?_
                  refine e_eq (f_M_placeAtEnd.eq_1 _ _) ?_
                  refine e_i (fun q243 => ?_) (fun q243 => ?_)
                  · refine e_some ?_
                    refine e_wrO (fun T245 eT245 hT245 v245 => ?_)
                    have hW245 := WR.st (k := 0) (i := 27) hW237 trivial rfl eT245
                    have hF245 := hF237.tr hT245 rfl
                    refine e_t q243 ?_
                    refine e_eq (f_M_isOpen_j163.eq_1 _ _ _ _) ?_
                    refine e_wrO (fun T252 eT252 hT252 v252 => ?_)
                    have hW252 := wo_0_28 hW245 ((rgl (1) 1 1 rfl).sub rfl) eT252
                    have hF252 := hF245.tr hT252 rfl
                    refine e_i (fun q260 => ?_) (fun q260 => ?_)
                    · refine e_i (fun q261 => ?_) (fun q261 => ?_)
                      · exact e_some ⟨hW252, hF252, ((rgl (0) 0 0 rfl).sub rfl)⟩
                      · exact e_some ⟨hW252, hF252, ((rgl (1) 1 1 rfl).sub rfl)⟩
                    · exact e_some ⟨hW252, hF252, ((rgl (1) 1 1 rfl).sub rfl)⟩
                  · refine e_grd (inb_g (rg_div 0 23 2 f230 (by decide) rfl) rfl) ?_
                    refine e_someG (fun w264 hw264 => ?_)
                    refine e_wrO (fun T265 eT265 hT265 v265 => ?_)
                    have hW265 := WR.st (k := 0) (i := 27) hW237 trivial rfl eT265
                    have hF265 := hF237.tr hT265 rfl
                    refine e_f q243 ?_
                    refine e_eq (f_M_isOpen_j163.eq_1 _ _ _ _) ?_
                    refine e_wrO (fun T271 eT271 hT271 v271 => ?_)
                    have hW271 := wo_0_28 hW265 ((rgl (0) 0 0 rfl).sub rfl) eT271
                    have hF271 := hF265.tr hT271 rfl
                    refine e_i (fun q278 => ?_) (fun q278 => ?_)
                    · refine e_i (fun q279 => ?_) (fun q279 => ?_)
                      · exact e_some ⟨hW271, hF271, ((rgl (0) 0 0 rfl).sub rfl)⟩
                      · exact e_some ⟨hW271, hF271, ((rgl (1) 1 1 rfl).sub rfl)⟩
                    · exact e_some ⟨hW271, hF271, ((rgl (1) 1 1 rfl).sub rfl)⟩
                · exact e_some ⟨hW, hF, ((rgl (0) 0 0 rfl).sub rfl)⟩
            · have f280 := rn.ne (ro_5 hW _) q231
              refine e_grd (inb_g f230 rfl) ?_
              refine e_grd (inb_g f280 rfl) ?_
              refine e_eq (f_M_openLink_j26.eq_1 _ _ _) ?_
              refine e_grd (inb_g f230 rfl) ?_
              refine e_i (fun q281 => ?_) (fun q281 => ?_)
              · refine e_some ?_
                refine e_t rfl ?_
                exact e_some ⟨hW, hF, ((rgl (0) 0 0 rfl).sub rfl)⟩
              · refine e_someG (fun w284 hw284 => ?_)
                have f285 := rg_tr (ro_10 hW _) hw284
                refine e_f (d_ne f285 (rgl (-4) (-4) (-4) rfl) rfl) ?_
                refine e_grd (inb_g (rg_add 0 143 (rg_mul 0 141 (rgl (3) 3 3 rfl) f230 rfl) f285 rfl) rfl) ?_
                refine e_grd (inb_g (rg_add 3 141 (rg_mul 3 141 (rgl (3) 3 3 rfl) f223 rfl) (rgl (0) 0 0 rfl) rfl) rfl) ?_
                refine e_i (fun q286 => ?_) (fun q286 => ?_)
                · refine e_wrO (fun T287 eT287 hT287 v287 => ?_)
                  have hW287 := wo_0_26 hW (rg_div 0 23 2 f230 (by decide) rfl) eT287
                  have hF287 := hF.tr hT287 rfl
                  refine e_bnd ?_
                  refine e_eq (f_M_placeAtEnd.eq_1 _ _) ?_
                  refine e_i (fun q293 => ?_) (fun q293 => ?_)
                  · refine e_some ?_
                    refine e_wrO (fun T295 eT295 hT295 v295 => ?_)
                    have hW295 := WR.st (k := 0) (i := 27) hW287 trivial rfl eT295
                    have hF295 := hF287.tr hT295 rfl
                    refine e_t q293 ?_
                    refine e_eq (f_M_isOpen_j163.eq_1 _ _ _ _) ?_
                    refine e_wrO (fun T302 eT302 hT302 v302 => ?_)
                    have hW302 := wo_0_28 hW295 ((rgl (1) 1 1 rfl).sub rfl) eT302
                    have hF302 := hF295.tr hT302 rfl
                    refine e_i (fun q310 => ?_) (fun q310 => ?_)
                    · refine e_i (fun q311 => ?_) (fun q311 => ?_)
                      · exact e_some ⟨hW302, hF302, ((rgl (0) 0 0 rfl).sub rfl)⟩
                      · exact e_some ⟨hW302, hF302, ((rgl (1) 1 1 rfl).sub rfl)⟩
                    · exact e_some ⟨hW302, hF302, ((rgl (1) 1 1 rfl).sub rfl)⟩
                  · refine e_grd (inb_g (rg_div 0 23 2 f230 (by decide) rfl) rfl) ?_
                    refine e_someG (fun w314 hw314 => ?_)
                    refine e_wrO (fun T315 eT315 hT315 v315 => ?_)
                    have hW315 := WR.st (k := 0) (i := 27) hW287 trivial rfl eT315
                    have hF315 := hF287.tr hT315 rfl
                    refine e_f q293 ?_
                    refine e_eq (f_M_isOpen_j163.eq_1 _ _ _ _) ?_
                    refine e_wrO (fun T321 eT321 hT321 v321 => ?_)
                    have hW321 := wo_0_28 hW315 ((rgl (0) 0 0 rfl).sub rfl) eT321
                    have hF321 := hF315.tr hT321 rfl
                    refine e_i (fun q328 => ?_) (fun q328 => ?_)
                    · refine e_i (fun q329 => ?_) (fun q329 => ?_)
                      · exact e_some ⟨hW321, hF321, ((rgl (0) 0 0 rfl).sub rfl)⟩
                      · exact e_some ⟨hW321, hF321, ((rgl (1) 1 1 rfl).sub rfl)⟩
                    · exact e_some ⟨hW321, hF321, ((rgl (1) 1 1 rfl).sub rfl)⟩
                · exact e_some ⟨hW, hF, ((rgl (0) 0 0 rfl).sub rfl)⟩
        · have f330 := rn.ne (ro_5 hW _) q224
          refine e_grd (inb_g f223 rfl) ?_
          refine e_grd (inb_g f330 rfl) ?_
          refine e_eq (f_M_openLink_j26.eq_1 _ _ _) ?_
          refine e_grd (inb_g f223 rfl) ?_
          refine e_i (fun q331 => ?_) (fun q331 => ?_)
          · refine e_some ?_
            refine e_t rfl ?_
            exact e_some ⟨hW, hF, ((rgl (0) 0 0 rfl).sub rfl)⟩
          · refine e_someG (fun w334 hw334 => ?_)
            have f335 := rg_tr (ro_10 hW _) hw334
            refine e_f (d_ne f335 (rgl (-4) (-4) (-4) rfl) rfl) ?_
            refine e_grd (inb_g (rg_add 3 143 (rg_mul 3 141 (rgl (3) 3 3 rfl) f223 rfl) f335 rfl) rfl) ?_
            refine e_nmG (fun w336 hw336 => ?_)
            have f337 := rg_tr (ro_7 hW _) hw336
            refine e_bnd ?_
            refine e_eq (f_M_openLink.eq_1 _ _) ?_
            refine e_grd (inb_g f337 rfl) ?_
            refine e_i (fun q338 => ?_) (fun q338 => ?_)
            · refine e_eq (f_M_openLink_j26.eq_1 _ _ _) ?_
              refine e_grd (inb_g f337 rfl) ?_
              refine e_i (fun q340 => ?_) (fun q340 => ?_)
              · refine e_some ?_
                refine e_t rfl ?_
                exact e_some ⟨hW, hF, ((rgl (0) 0 0 rfl).sub rfl)⟩
              · refine e_some ?_
                refine e_f (by decide) ?_
                refine e_grd (inb_g (rg_add 0 141 (rg_mul 0 141 (rgl (3) 3 3 rfl) f337 rfl) (rgl (0) 0 0 rfl) rfl) rfl) ?_
                refine e_grd (inb_g (rg_add 3 143 (rg_mul 3 141 (rgl (3) 3 3 rfl) f223 rfl) f335 rfl) rfl) ?_
                refine e_i (fun q343 => ?_) (fun q343 => ?_)
                · refine e_wrO (fun T344 eT344 hT344 v344 => ?_)
                  have hW344 := wo_0_26 hW (rg_div 0 23 2 f337 (by decide) rfl) eT344
                  have hF344 := hF.tr hT344 rfl
                  refine e_bnd ?_
                  refine e_eq (f_M_placeAtEnd.eq_1 _ _) ?_
                  refine e_i (fun q350 => ?_) (fun q350 => ?_)
                  · refine e_some ?_
                    refine e_wrO (fun T352 eT352 hT352 v352 => ?_)
                    have hW352 := WR.st (k := 0) (i := 27) hW344 trivial rfl eT352
                    have hF352 := hF344.tr hT352 rfl
                    refine e_t q350 ?_
                    refine e_eq (f_M_isOpen_j163.eq_1 _ _ _ _) ?_
                    refine e_wrO (fun T359 eT359 hT359 v359 => ?_)
                    have hW359 := wo_0_28 hW352 ((rgl (1) 1 1 rfl).sub rfl) eT359
                    have hF359 := hF352.tr hT359 rfl
                    refine e_i (fun q367 => ?_) (fun q367 => ?_)
                    · refine e_i (fun q368 => ?_) (fun q368 => ?_)
                      · exact e_some ⟨hW359, hF359, ((rgl (0) 0 0 rfl).sub rfl)⟩
                      · exact e_some ⟨hW359, hF359, ((rgl (1) 1 1 rfl).sub rfl)⟩
                    · exact e_some ⟨hW359, hF359, ((rgl (1) 1 1 rfl).sub rfl)⟩
                  · refine e_grd (inb_g (rg_div 0 23 2 f337 (by decide) rfl) rfl) ?_
                    refine e_someG (fun w371 hw371 => ?_)
                    refine e_wrO (fun T372 eT372 hT372 v372 => ?_)
                    have hW372 := WR.st (k := 0) (i := 27) hW344 trivial rfl eT372
                    have hF372 := hF344.tr hT372 rfl
                    refine e_f q350 ?_
                    refine e_eq (f_M_isOpen_j163.eq_1 _ _ _ _) ?_
                    refine e_wrO (fun T378 eT378 hT378 v378 => ?_)
                    have hW378 := wo_0_28 hW372 ((rgl (0) 0 0 rfl).sub rfl) eT378
                    have hF378 := hF372.tr hT378 rfl
                    refine e_i (fun q385 => ?_) (fun q385 => ?_)
                    · refine e_i (fun q386 => ?_) (fun q386 => ?_)
                      · exact e_some ⟨hW378, hF378, ((rgl (0) 0 0 rfl).sub rfl)⟩
                      · exact e_some ⟨hW378, hF378, ((rgl (1) 1 1 rfl).sub rfl)⟩
                    · exact e_some ⟨hW378, hF378, ((rgl (1) 1 1 rfl).sub rfl)⟩
                · exact e_some ⟨hW, hF, ((rgl (0) 0 0 rfl).sub rfl)⟩
            · have f387 := rn.ne (ro_5 hW _) q338
              refine e_grd (inb_g f337 rfl) ?_
              refine e_grd (inb_g f387 rfl) ?_
              refine e_eq (f_M_openLink_j26.eq_1 _ _ _) ?_
              refine e_grd (inb_g f337 rfl) ?_
              refine e_i (fun q388 => ?_) (fun q388 => ?_)
              · refine e_some ?_
                refine e_t rfl ?_
                exact e_some ⟨hW, hF, ((rgl (0) 0 0 rfl).sub rfl)⟩
              · refine e_someG (fun w391 hw391 => ?_)
                have f392 := rg_tr (ro_10 hW _) hw391
                refine e_f (d_ne f392 (rgl (-4) (-4) (-4) rfl) rfl) ?_
                refine e_grd (inb_g (rg_add 0 143 (rg_mul 0 141 (rgl (3) 3 3 rfl) f337 rfl) f392 rfl) rfl) ?_
                refine e_grd (inb_g (rg_add 3 143 (rg_mul 3 141 (rgl (3) 3 3 rfl) f223 rfl) f335 rfl) rfl) ?_
                refine e_i (fun q393 => ?_) (fun q393 => ?_)
                · refine e_wrO (fun T394 eT394 hT394 v394 => ?_)
                  have hW394 := wo_0_26 hW (rg_div 0 23 2 f337 (by decide) rfl) eT394
                  have hF394 := hF.tr hT394 rfl
                  refine e_bnd ?_
                  refine e_eq (f_M_placeAtEnd.eq_1 _ _) ?_
                  refine e_i (fun q400 => ?_) (fun q400 => ?_)
                  · refine e_some ?_
                    refine e_wrO (fun T402 eT402 hT402 v402 => ?_)
                    have hW402 := WR.st (k := 0) (i := 27) hW394 trivial rfl eT402
                    have hF402 := hF394.tr hT402 rfl
                    refine e_t q400 ?_
                    refine e_eq (f_M_isOpen_j163.eq_1 _ _ _ _) ?_
                    refine e_wrO (fun T409 eT409 hT409 v409 => ?_)
                    have hW409 := wo_0_28 hW402 ((rgl (1) 1 1 rfl).sub rfl) eT409
                    have hF409 := hF402.tr hT409 rfl
                    refine e_i (fun q417 => ?_) (fun q417 => ?_)
                    · refine e_i (fun q418 => ?_) (fun q418 => ?_)
                      · exact e_some ⟨hW409, hF409, ((rgl (0) 0 0 rfl).sub rfl)⟩
                      · exact e_some ⟨hW409, hF409, ((rgl (1) 1 1 rfl).sub rfl)⟩
                    · exact e_some ⟨hW409, hF409, ((rgl (1) 1 1 rfl).sub rfl)⟩
                  · refine e_grd (inb_g (rg_div 0 23 2 f337 (by decide) rfl) rfl) ?_
                    refine e_someG (fun w421 hw421 => ?_)
                    refine e_wrO (fun T422 eT422 hT422 v422 => ?_)
                    have hW422 := WR.st (k := 0) (i := 27) hW394 trivial rfl eT422
                    have hF422 := hF394.tr hT422 rfl
                    refine e_f q400 ?_
                    refine e_eq (f_M_isOpen_j163.eq_1 _ _ _ _) ?_
                    refine e_wrO (fun T428 eT428 hT428 v428 => ?_)
                    have hW428 := wo_0_28 hW422 ((rgl (0) 0 0 rfl).sub rfl) eT428
                    have hF428 := hF422.tr hT428 rfl
                    refine e_i (fun q435 => ?_) (fun q435 => ?_)
                    · refine e_i (fun q436 => ?_) (fun q436 => ?_)
                      · exact e_some ⟨hW428, hF428, ((rgl (0) 0 0 rfl).sub rfl)⟩
                      · exact e_some ⟨hW428, hF428, ((rgl (1) 1 1 rfl).sub rfl)⟩
                    · exact e_some ⟨hW428, hF428, ((rgl (1) 1 1 rfl).sub rfl)⟩
                · exact e_some ⟨hW, hF, ((rgl (0) 0 0 rfl).sub rfl)⟩
      · refine e_wrO (fun T439 eT439 hT439 v439 => ?_)
        have hW439 := wo_0_26 hW h0 eT439
        have hF439 := hF.tr hT439 rfl
        refine e_wrO (fun T442 eT442 hT442 v442 => ?_)
        have hW442 := WR.st (k := 0) (i := 27) hW439 trivial rfl eT442
        have hF442 := hF439.tr hT442 rfl
        refine e_wrO (fun T446 eT446 hT446 v446 => ?_)
        have hW446 := wo_0_28 hW442 (f2.sub rfl) eT446
        have hF446 := hF442.tr hT446 rfl
        exact e_some ⟨hW446, hF446, ((rgl (1) 1 1 rfl).sub rfl)⟩
  · have f451 := ne_h 0 h2 (rgl (1) 1 1 rfl) q1 rfl
    refine e_eq (f_M_isOpen_j14.eq_1 _ _ _ _ _) ?_
    refine e_i (fun q452 => ?_) (fun q452 => ?_)
    · refine e_eq (f_M_isOpen_j50.eq_1 _ _ _ _) ?_
      refine e_nmG (fun w454 hw454 => ?_)
      have f455 := rg_tr (rg_add 0 46 (rg_mul 0 46 (rgl (2) 2 2 rfl) h0 rfl) f451 rfl) hw454
      refine e_bnd ?_
      refine e_eq (f_M_openLink.eq_1 _ _) ?_
      refine e_grd (inb_g f455 rfl) ?_
      refine e_i (fun q456 => ?_) (fun q456 => ?_)
      · refine e_eq (f_M_openLink_j26.eq_1 _ _ _) ?_
        refine e_grd (inb_g f455 rfl) ?_
        refine e_i (fun q458 => ?_) (fun q458 => ?_)
        · refine e_some ?_
          refine e_t rfl ?_
          exact e_some ⟨hW, hF, ((rgl (0) 0 0 rfl).sub rfl)⟩
        · refine e_some ?_
          refine e_f (by decide) ?_
          refine e_grd (inb_g (rg_add 0 138 (rg_mul 0 138 (rgl (3) 3 3 rfl) f455 rfl) (rgl (0) 0 0 rfl) rfl) rfl) ?_
          refine e_nmG (fun w461 hw461 => ?_)
          have f462 := rg_tr (ro_7 hW _) hw461
          refine e_bnd ?_
          refine e_eq (f_M_openLink.eq_1 _ _) ?_
          refine e_grd (inb_g f462 rfl) ?_
          refine e_i (fun q463 => ?_) (fun q463 => ?_)
          · refine e_eq (f_M_openLink_j26.eq_1 _ _ _) ?_
            refine e_grd (inb_g f462 rfl) ?_
            refine e_i (fun q465 => ?_) (fun q465 => ?_)
            · refine e_some ?_
              refine e_t rfl ?_
              exact e_some ⟨hW, hF, ((rgl (0) 0 0 rfl).sub rfl)⟩
            · refine e_some ?_
              refine e_f (by decide) ?_
              refine e_grd (inb_g (rg_add 0 141 (rg_mul 0 141 (rgl (3) 3 3 rfl) f462 rfl) (rgl (0) 0 0 rfl) rfl) rfl) ?_
              refine e_grd (inb_g (rg_add 0 138 (rg_mul 0 138 (rgl (3) 3 3 rfl) f455 rfl) (rgl (0) 0 0 rfl) rfl) rfl) ?_
              refine e_i (fun q468 => ?_) (fun q468 => ?_)
              · refine e_wrO (fun T469 eT469 hT469 v469 => ?_)
                have hW469 := wo_0_26 hW (rg_div 0 23 2 f462 (by decide) rfl) eT469
                have hF469 := hF.tr hT469 rfl
                refine e_bnd ?_
                refine e_eq (f_M_placeAtEnd.eq_1 _ _) ?_
                refine e_i (fun q475 => ?_) (fun q475 => ?_)
                · refine e_some ?_
                  refine e_wrO (fun T477 eT477 hT477 v477 => ?_)
                  have hW477 := WR.st (k := 0) (i := 27) hW469 trivial rfl eT477
                  have hF477 := hF469.tr hT477 rfl
                  refine e_t q475 ?_
                  refine e_eq (f_M_isOpen_j163.eq_1 _ _ _ _) ?_
                  refine e_wrO (fun T484 eT484 hT484 v484 => ?_)
                  have hW484 := wo_0_28 hW477 ((rgl (1) 1 1 rfl).sub rfl) eT484
                  have hF484 := hF477.tr hT484 rfl
                  refine e_i (fun q492 => ?_) (fun q492 => ?_)
                  · refine e_i (fun q493 => ?_) (fun q493 => ?_)
                    · exact e_some ⟨hW484, hF484, ((rgl (0) 0 0 rfl).sub rfl)⟩
                    · exact e_some ⟨hW484, hF484, ((rgl (1) 1 1 rfl).sub rfl)⟩
                  · exact e_some ⟨hW484, hF484, ((rgl (1) 1 1 rfl).sub rfl)⟩
                · refine e_grd (inb_g (rg_div 0 23 2 f462 (by decide) rfl) rfl) ?_
                  refine e_someG (fun w496 hw496 => ?_)
                  refine e_wrO (fun T497 eT497 hT497 v497 => ?_)
                  have hW497 := WR.st (k := 0) (i := 27) hW469 trivial rfl eT497
                  have hF497 := hF469.tr hT497 rfl
                  refine e_f q475 ?_
                  refine e_eq (f_M_isOpen_j163.eq_1 _ _ _ _) ?_
                  refine e_wrO (fun T503 eT503 hT503 v503 => ?_)
                  have hW503 := wo_0_28 hW497 ((rgl (0) 0 0 rfl).sub rfl) eT503
                  have hF503 := hF497.tr hT503 rfl
                  refine e_i (fun q510 => ?_) (fun q510 => ?_)
                  · refine e_i (fun q511 => ?_) (fun q511 => ?_)
                    · exact e_some ⟨hW503, hF503, ((rgl (0) 0 0 rfl).sub rfl)⟩
                    · exact e_some ⟨hW503, hF503, ((rgl (1) 1 1 rfl).sub rfl)⟩
                  · exact e_some ⟨hW503, hF503, ((rgl (1) 1 1 rfl).sub rfl)⟩
              · exact e_some ⟨hW, hF, ((rgl (0) 0 0 rfl).sub rfl)⟩
          · have f512 := rn.ne (ro_5 hW _) q463
            refine e_grd (inb_g f462 rfl) ?_
            refine e_grd (inb_g f512 rfl) ?_
            refine e_eq (f_M_openLink_j26.eq_1 _ _ _) ?_
            refine e_grd (inb_g f462 rfl) ?_
            refine e_i (fun q513 => ?_) (fun q513 => ?_)
            · refine e_some ?_
              refine e_t rfl ?_
              exact e_some ⟨hW, hF, ((rgl (0) 0 0 rfl).sub rfl)⟩
            · refine e_someG (fun w516 hw516 => ?_)
              have f517 := rg_tr (ro_10 hW _) hw516
              refine e_f (d_ne f517 (rgl (-4) (-4) (-4) rfl) rfl) ?_
              refine e_grd (inb_g (rg_add 0 143 (rg_mul 0 141 (rgl (3) 3 3 rfl) f462 rfl) f517 rfl) rfl) ?_
              refine e_grd (inb_g (rg_add 0 138 (rg_mul 0 138 (rgl (3) 3 3 rfl) f455 rfl) (rgl (0) 0 0 rfl) rfl) rfl) ?_
              refine e_i (fun q518 => ?_) (fun q518 => ?_)
              · refine e_wrO (fun T519 eT519 hT519 v519 => ?_)
                have hW519 := wo_0_26 hW (rg_div 0 23 2 f462 (by decide) rfl) eT519
                have hF519 := hF.tr hT519 rfl
                refine e_bnd ?_
                refine e_eq (f_M_placeAtEnd.eq_1 _ _) ?_
                refine e_i (fun q525 => ?_) (fun q525 => ?_)
                · refine e_some ?_
                  refine e_wrO (fun T527 eT527 hT527 v527 => ?_)
                  have hW527 := WR.st (k := 0) (i := 27) hW519 trivial rfl eT527
                  have hF527 := hF519.tr hT527 rfl
                  refine e_t q525 ?_
                  refine e_eq (f_M_isOpen_j163.eq_1 _ _ _ _) ?_
                  refine e_wrO (fun T534 eT534 hT534 v534 => ?_)
                  have hW534 := wo_0_28 hW527 ((rgl (1) 1 1 rfl).sub rfl) eT534
                  have hF534 := hF527.tr hT534 rfl
                  refine e_i (fun q542 => ?_) (fun q542 => ?_)
                  · refine e_i (fun q543 => ?_) (fun q543 => ?_)
                    · exact e_some ⟨hW534, hF534, ((rgl (0) 0 0 rfl).sub rfl)⟩
                    · exact e_some ⟨hW534, hF534, ((rgl (1) 1 1 rfl).sub rfl)⟩
                  · exact e_some ⟨hW534, hF534, ((rgl (1) 1 1 rfl).sub rfl)⟩
                · refine e_grd (inb_g (rg_div 0 23 2 f462 (by decide) rfl) rfl) ?_
                  refine e_someG (fun w546 hw546 => ?_)
                  refine e_wrO (fun T547 eT547 hT547 v547 => ?_)
                  have hW547 := WR.st (k := 0) (i := 27) hW519 trivial rfl eT547
                  have hF547 := hF519.tr hT547 rfl
                  refine e_f q525 ?_
                  refine e_eq (f_M_isOpen_j163.eq_1 _ _ _ _) ?_
                  refine e_wrO (fun T553 eT553 hT553 v553 => ?_)
                  have hW553 := wo_0_28 hW547 ((rgl (0) 0 0 rfl).sub rfl) eT553
                  have hF553 := hF547.tr hT553 rfl
                  refine e_i (fun q560 => ?_) (fun q560 => ?_)
                  · refine e_i (fun q561 => ?_) (fun q561 => ?_)
                    · exact e_some ⟨hW553, hF553, ((rgl (0) 0 0 rfl).sub rfl)⟩
                    · exact e_some ⟨hW553, hF553, ((rgl (1) 1 1 rfl).sub rfl)⟩
                  · exact e_some ⟨hW553, hF553, ((rgl (1) 1 1 rfl).sub rfl)⟩
              · exact e_some ⟨hW, hF, ((rgl (0) 0 0 rfl).sub rfl)⟩
      · have f562 := rn.ne (ro_5 hW _) q456
        refine e_grd (inb_g f455 rfl) ?_
        refine e_grd (inb_g f562 rfl) ?_
        refine e_eq (f_M_openLink_j26.eq_1 _ _ _) ?_
        refine e_grd (inb_g f455 rfl) ?_
        refine e_i (fun q563 => ?_) (fun q563 => ?_)
        · refine e_some ?_
          refine e_t rfl ?_
          exact e_some ⟨hW, hF, ((rgl (0) 0 0 rfl).sub rfl)⟩
        · refine e_someG (fun w566 hw566 => ?_)
          have f567 := rg_tr (ro_10 hW _) hw566
          refine e_f (d_ne f567 (rgl (-4) (-4) (-4) rfl) rfl) ?_
          refine e_grd (inb_g (rg_add 0 140 (rg_mul 0 138 (rgl (3) 3 3 rfl) f455 rfl) f567 rfl) rfl) ?_
          refine e_nmG (fun w568 hw568 => ?_)
          have f569 := rg_tr (ro_7 hW _) hw568
          refine e_bnd ?_
          refine e_eq (f_M_openLink.eq_1 _ _) ?_
          refine e_grd (inb_g f569 rfl) ?_
          refine e_i (fun q570 => ?_) (fun q570 => ?_)
          · refine e_eq (f_M_openLink_j26.eq_1 _ _ _) ?_
            refine e_grd (inb_g f569 rfl) ?_
            refine e_i (fun q572 => ?_) (fun q572 => ?_)
            · refine e_some ?_
              refine e_t rfl ?_
              exact e_some ⟨hW, hF, ((rgl (0) 0 0 rfl).sub rfl)⟩
            · refine e_some ?_
              refine e_f (by decide) ?_
              refine e_grd (inb_g (rg_add 0 141 (rg_mul 0 141 (rgl (3) 3 3 rfl) f569 rfl) (rgl (0) 0 0 rfl) rfl) rfl) ?_
              refine e_grd (inb_g (rg_add 0 140 (rg_mul 0 138 (rgl (3) 3 3 rfl) f455 rfl) f567 rfl) rfl) ?_
              refine e_i (fun q575 => ?_) (fun q575 => ?_)
              · refine e_wrO (fun T576 eT576 hT576 v576 => ?_)
                have hW576 := wo_0_26 hW (rg_div 0 23 2 f569 (by decide) rfl) eT576
                have hF576 := hF.tr hT576 rfl
                refine e_bnd ?_
                refine e_eq (f_M_placeAtEnd.eq_1 _ _) ?_
                refine e_i (fun q582 => ?_) (fun q582 => ?_)
                · refine e_some ?_
                  refine e_wrO (fun T584 eT584 hT584 v584 => ?_)
                  have hW584 := WR.st (k := 0) (i := 27) hW576 trivial rfl eT584
                  have hF584 := hF576.tr hT584 rfl
                  refine e_t q582 ?_
                  refine e_eq (f_M_isOpen_j163.eq_1 _ _ _ _) ?_
                  refine e_wrO (fun T591 eT591 hT591 v591 => ?_)
                  have hW591 := wo_0_28 hW584 ((rgl (1) 1 1 rfl).sub rfl) eT591
                  have hF591 := hF584.tr hT591 rfl
                  refine e_i (fun q599 => ?_) (fun q599 => ?_)
                  · refine e_i (fun q600 => ?_) (fun q600 => ?_)
                    · exact e_some ⟨hW591, hF591, ((rgl (0) 0 0 rfl).sub rfl)⟩
                    · exact e_some ⟨hW591, hF591, ((rgl (1) 1 1 rfl).sub rfl)⟩
                  · exact e_some ⟨hW591, hF591, ((rgl (1) 1 1 rfl).sub rfl)⟩
                · refine e_grd (inb_g (rg_div 0 23 2 f569 (by decide) rfl) rfl) ?_
                  refine e_someG (fun w603 hw603 => ?_)
                  refine e_wrO (fun T604 eT604 hT604 v604 => ?_)
                  have hW604 := WR.st (k := 0) (i := 27) hW576 trivial rfl eT604
                  have hF604 := hF576.tr hT604 rfl
                  refine e_f q582 ?_
                  refine e_eq (f_M_isOpen_j163.eq_1 _ _ _ _) ?_
                  refine e_wrO (fun T610 eT610 hT610 v610 => ?_)
                  have hW610 := wo_0_28 hW604 ((rgl (0) 0 0 rfl).sub rfl) eT610
                  have hF610 := hF604.tr hT610 rfl
                  refine e_i (fun q617 => ?_) (fun q617 => ?_)
                  · refine e_i (fun q618 => ?_) (fun q618 => ?_)
                    · exact e_some ⟨hW610, hF610, ((rgl (0) 0 0 rfl).sub rfl)⟩
                    · exact e_some ⟨hW610, hF610, ((rgl (1) 1 1 rfl).sub rfl)⟩
                  · exact e_some ⟨hW610, hF610, ((rgl (1) 1 1 rfl).sub rfl)⟩
              · exact e_some ⟨hW, hF, ((rgl (0) 0 0 rfl).sub rfl)⟩
          · have f619 := rn.ne (ro_5 hW _) q570
            refine e_grd (inb_g f569 rfl) ?_
            refine e_grd (inb_g f619 rfl) ?_
            refine e_eq (f_M_openLink_j26.eq_1 _ _ _) ?_
            refine e_grd (inb_g f569 rfl) ?_
            refine e_i (fun q620 => ?_) (fun q620 => ?_)
            · refine e_some ?_
              refine e_t rfl ?_
              exact e_some ⟨hW, hF, ((rgl (0) 0 0 rfl).sub rfl)⟩
            · refine e_someG (fun w623 hw623 => ?_)
              have f624 := rg_tr (ro_10 hW _) hw623
              refine e_f (d_ne f624 (rgl (-4) (-4) (-4) rfl) rfl) ?_
              refine e_grd (inb_g (rg_add 0 143 (rg_mul 0 141 (rgl (3) 3 3 rfl) f569 rfl) f624 rfl) rfl) ?_
              refine e_grd (inb_g (rg_add 0 140 (rg_mul 0 138 (rgl (3) 3 3 rfl) f455 rfl) f567 rfl) rfl) ?_
              refine e_i (fun q625 => ?_) (fun q625 => ?_)
              · refine e_wrO (fun T626 eT626 hT626 v626 => ?_)
                have hW626 := wo_0_26 hW (rg_div 0 23 2 f569 (by decide) rfl) eT626
                have hF626 := hF.tr hT626 rfl
                refine e_bnd ?_
                refine e_eq (f_M_placeAtEnd.eq_1 _ _) ?_
                refine e_i (fun q632 => ?_) (fun q632 => ?_)
                · refine e_some ?_
                  refine e_wrO (fun T634 eT634 hT634 v634 => ?_)
                  have hW634 := WR.st (k := 0) (i := 27) hW626 trivial rfl eT634
                  have hF634 := hF626.tr hT634 rfl
                  refine e_t q632 ?_
                  refine e_eq (f_M_isOpen_j163.eq_1 _ _ _ _) ?_
                  refine e_wrO (fun T641 eT641 hT641 v641 => ?_)
                  have hW641 := wo_0_28 hW634 ((rgl (1) 1 1 rfl).sub rfl) eT641
                  have hF641 := hF634.tr hT641 rfl
                  refine e_i (fun q649 => ?_) (fun q649 => ?_)
                  · refine e_i (fun q650 => ?_) (fun q650 => ?_)
                    · exact e_some ⟨hW641, hF641, ((rgl (0) 0 0 rfl).sub rfl)⟩
                    · exact e_some ⟨hW641, hF641, ((rgl (1) 1 1 rfl).sub rfl)⟩
                  · exact e_some ⟨hW641, hF641, ((rgl (1) 1 1 rfl).sub rfl)⟩
                · refine e_grd (inb_g (rg_div 0 23 2 f569 (by decide) rfl) rfl) ?_
                  refine e_someG (fun w653 hw653 => ?_)
                  refine e_wrO (fun T654 eT654 hT654 v654 => ?_)
                  have hW654 := WR.st (k := 0) (i := 27) hW626 trivial rfl eT654
                  have hF654 := hF626.tr hT654 rfl
                  refine e_f q632 ?_
                  refine e_eq (f_M_isOpen_j163.eq_1 _ _ _ _) ?_
                  refine e_wrO (fun T660 eT660 hT660 v660 => ?_)
                  have hW660 := wo_0_28 hW654 ((rgl (0) 0 0 rfl).sub rfl) eT660
                  have hF660 := hF654.tr hT660 rfl
                  refine e_i (fun q667 => ?_) (fun q667 => ?_)
                  · refine e_i (fun q668 => ?_) (fun q668 => ?_)
                    · exact e_some ⟨hW660, hF660, ((rgl (0) 0 0 rfl).sub rfl)⟩
                    · exact e_some ⟨hW660, hF660, ((rgl (1) 1 1 rfl).sub rfl)⟩
                  · exact e_some ⟨hW660, hF660, ((rgl (1) 1 1 rfl).sub rfl)⟩
              · exact e_some ⟨hW, hF, ((rgl (0) 0 0 rfl).sub rfl)⟩
    · refine e_grd (inb_g h0 rfl) ?_
      refine e_i (fun q670 => ?_) (fun q670 => ?_)
      · refine e_eq (f_M_isOpen_j50.eq_1 _ _ _ _) ?_
        refine e_nmG (fun w671 hw671 => ?_)
        have f672 := rg_tr (rg_add 0 46 (rg_mul 0 46 (rgl (2) 2 2 rfl) h0 rfl) f451 rfl) hw671
        refine e_bnd ?_
        refine e_eq (f_M_openLink.eq_1 _ _) ?_
        refine e_grd (inb_g f672 rfl) ?_
        refine e_i (fun q673 => ?_) (fun q673 => ?_)
        · refine e_eq (f_M_openLink_j26.eq_1 _ _ _) ?_
          refine e_grd (inb_g f672 rfl) ?_
          refine e_i (fun q675 => ?_) (fun q675 => ?_)
          · refine e_some ?_
            refine e_t rfl ?_
            exact e_some ⟨hW, hF, ((rgl (0) 0 0 rfl).sub rfl)⟩
          · refine e_some ?_
            refine e_f (by decide) ?_
            refine e_grd (inb_g (rg_add 0 138 (rg_mul 0 138 (rgl (3) 3 3 rfl) f672 rfl) (rgl (0) 0 0 rfl) rfl) rfl) ?_
            refine e_nmG (fun w678 hw678 => ?_)
            have f679 := rg_tr (ro_7 hW _) hw678
            refine e_bnd ?_
            refine e_eq (f_M_openLink.eq_1 _ _) ?_
            refine e_grd (inb_g f679 rfl) ?_
            refine e_i (fun q680 => ?_) (fun q680 => ?_)
            · refine e_eq (f_M_openLink_j26.eq_1 _ _ _) ?_
              refine e_grd (inb_g f679 rfl) ?_
              refine e_i (fun q682 => ?_) (fun q682 => ?_)
              · refine e_some ?_
                refine e_t rfl ?_
                exact e_some ⟨hW, hF, ((rgl (0) 0 0 rfl).sub rfl)⟩
              · refine e_some ?_
                refine e_f (by decide) ?_
                refine e_grd (inb_g (rg_add 0 141 (rg_mul 0 141 (rgl (3) 3 3 rfl) f679 rfl) (rgl (0) 0 0 rfl) rfl) rfl) ?_
                refine e_grd (inb_g (rg_add 0 138 (rg_mul 0 138 (rgl (3) 3 3 rfl) f672 rfl) (rgl (0) 0 0 rfl) rfl) rfl) ?_
                refine e_i (fun q685 => ?_) (fun q685 => ?_)
                · refine e_wrO (fun T686 eT686 hT686 v686 => ?_)
                  have hW686 := wo_0_26 hW (rg_div 0 23 2 f679 (by decide) rfl) eT686
                  have hF686 := hF.tr hT686 rfl
                  refine e_bnd ?_
                  refine e_eq (f_M_placeAtEnd.eq_1 _ _) ?_
                  refine e_i (fun q692 => ?_) (fun q692 => ?_)
                  · refine e_some ?_
                    refine e_wrO (fun T694 eT694 hT694 v694 => ?_)
                    have hW694 := WR.st (k := 0) (i := 27) hW686 trivial rfl eT694
                    have hF694 := hF686.tr hT694 rfl
                    refine e_t q692 ?_
                    refine e_eq (f_M_isOpen_j163.eq_1 _ _ _ _) ?_
                    refine e_wrO (fun T701 eT701 hT701 v701 => ?_)
                    have hW701 := wo_0_28 hW694 ((rgl (1) 1 1 rfl).sub rfl) eT701
                    have hF701 := hF694.tr hT701 rfl
                    refine e_i (fun q709 => ?_) (fun q709 => ?_)
                    · refine e_i (fun q710 => ?_) (fun q710 => ?_)
                      · exact e_some ⟨hW701, hF701, ((rgl (0) 0 0 rfl).sub rfl)⟩
                      · exact e_some ⟨hW701, hF701, ((rgl (1) 1 1 rfl).sub rfl)⟩
                    · exact e_some ⟨hW701, hF701, ((rgl (1) 1 1 rfl).sub rfl)⟩
                  · refine e_grd (inb_g (rg_div 0 23 2 f679 (by decide) rfl) rfl) ?_
                    refine e_someG (fun w713 hw713 => ?_)
                    refine e_wrO (fun T714 eT714 hT714 v714 => ?_)
                    have hW714 := WR.st (k := 0) (i := 27) hW686 trivial rfl eT714
                    have hF714 := hF686.tr hT714 rfl
                    refine e_f q692 ?_
                    refine e_eq (f_M_isOpen_j163.eq_1 _ _ _ _) ?_
                    refine e_wrO (fun T720 eT720 hT720 v720 => ?_)
                    have hW720 := wo_0_28 hW714 ((rgl (0) 0 0 rfl).sub rfl) eT720
                    have hF720 := hF714.tr hT720 rfl
                    refine e_i (fun q727 => ?_) (fun q727 => ?_)
                    · refine e_i (fun q728 => ?_) (fun q728 => ?_)
                      · exact e_some ⟨hW720, hF720, ((rgl (0) 0 0 rfl).sub rfl)⟩
                      · exact e_some ⟨hW720, hF720, ((rgl (1) 1 1 rfl).sub rfl)⟩
                    · exact e_some ⟨hW720, hF720, ((rgl (1) 1 1 rfl).sub rfl)⟩
                · exact e_some ⟨hW, hF, ((rgl (0) 0 0 rfl).sub rfl)⟩
            · have f729 := rn.ne (ro_5 hW _) q680
              refine e_grd (inb_g f679 rfl) ?_
              refine e_grd (inb_g f729 rfl) ?_
              refine e_eq (f_M_openLink_j26.eq_1 _ _ _) ?_
              refine e_grd (inb_g f679 rfl) ?_
              refine e_i (fun q730 => ?_) (fun q730 => ?_)
              · refine e_some ?_
                refine e_t rfl ?_
                exact e_some ⟨hW, hF, ((rgl (0) 0 0 rfl).sub rfl)⟩
              · refine e_someG (fun w733 hw733 => ?_)
                have f734 := rg_tr (ro_10 hW _) hw733
                refine e_f (d_ne f734 (rgl (-4) (-4) (-4) rfl) rfl) ?_
                refine e_grd (inb_g (rg_add 0 143 (rg_mul 0 141 (rgl (3) 3 3 rfl) f679 rfl) f734 rfl) rfl) ?_
                refine e_grd (inb_g (rg_add 0 138 (rg_mul 0 138 (rgl (3) 3 3 rfl) f672 rfl) (rgl (0) 0 0 rfl) rfl) rfl) ?_
                refine e_i (fun q735 => ?_) (fun q735 => ?_)
                · refine e_wrO (fun T736 eT736 hT736 v736 => ?_)
                  have hW736 := wo_0_26 hW (rg_div 0 23 2 f679 (by decide) rfl) eT736
                  have hF736 := hF.tr hT736 rfl
                  refine e_bnd ?_
                  refine e_eq (f_M_placeAtEnd.eq_1 _ _) ?_
                  refine e_i (fun q742 => ?_) (fun q742 => ?_)
                  · refine e_some ?_
                    refine e_wrO (fun T744 eT744 hT744 v744 => ?_)
                    have hW744 := WR.st (k := 0) (i := 27) hW736 trivial rfl eT744
                    have hF744 := hF736.tr hT744 rfl
                    refine e_t q742 ?_
                    refine e_eq (f_M_isOpen_j163.eq_1 _ _ _ _) ?_
                    refine e_wrO (fun T751 eT751 hT751 v751 => ?_)
                    have hW751 := wo_0_28 hW744 ((rgl (1) 1 1 rfl).sub rfl) eT751
                    have hF751 := hF744.tr hT751 rfl
                    refine e_i (fun q759 => ?_) (fun q759 => ?_)
                    · refine e_i (fun q760 => ?_) (fun q760 => ?_)
                      · exact e_some ⟨hW751, hF751, ((rgl (0) 0 0 rfl).sub rfl)⟩
                      · exact e_some ⟨hW751, hF751, ((rgl (1) 1 1 rfl).sub rfl)⟩
                    · exact e_some ⟨hW751, hF751, ((rgl (1) 1 1 rfl).sub rfl)⟩
                  · refine e_grd (inb_g (rg_div 0 23 2 f679 (by decide) rfl) rfl) ?_
                    refine e_someG (fun w763 hw763 => ?_)
                    refine e_wrO (fun T764 eT764 hT764 v764 => ?_)
                    have hW764 := WR.st (k := 0) (i := 27) hW736 trivial rfl eT764
                    have hF764 := hF736.tr hT764 rfl
                    refine e_f q742 ?_
                    refine e_eq (f_M_isOpen_j163.eq_1 _ _ _ _) ?_
                    refine e_wrO (fun T770 eT770 hT770 v770 => ?_)
                    have hW770 := wo_0_28 hW764 ((rgl (0) 0 0 rfl).sub rfl) eT770
                    have hF770 := hF764.tr hT770 rfl
                    refine e_i (fun q777 => ?_) (fun q777 => ?_)
                    · refine e_i (fun q778 => ?_) (fun q778 => ?_)
                      · exact e_some ⟨hW770, hF770, ((rgl (0) 0 0 rfl).sub rfl)⟩
                      · exact e_some ⟨hW770, hF770, ((rgl (1) 1 1 rfl).sub rfl)⟩
                    · exact e_some ⟨hW770, hF770, ((rgl (1) 1 1 rfl).sub rfl)⟩
                · exact e_some ⟨hW, hF, ((rgl (0) 0 0 rfl).sub rfl)⟩
        · have f779 := rn.ne (ro_5 hW _) q673
          refine e_grd (inb_g f672 rfl) ?_
          refine e_grd (inb_g f779 rfl) ?_
          refine e_eq (f_M_openLink_j26.eq_1 _ _ _) ?_
          refine e_grd (inb_g f672 rfl) ?_
          refine e_i (fun q780 => ?_) (fun q780 => ?_)
          · refine e_some ?_
            refine e_t rfl ?_
            exact e_some ⟨hW, hF, ((rgl (0) 0 0 rfl).sub rfl)⟩
          · refine e_someG (fun w783 hw783 => ?_)
            have f784 := rg_tr (ro_10 hW _) hw783
            refine e_f (d_ne f784 (rgl (-4) (-4) (-4) rfl) rfl) ?_
            refine e_grd (inb_g (rg_add 0 140 (rg_mul 0 138 (rgl (3) 3 3 rfl) f672 rfl) f784 rfl) rfl) ?_
            refine e_nmG (fun w785 hw785 => ?_)
            have f786 := rg_tr (ro_7 hW _) hw785
            refine e_bnd ?_
            refine e_eq (f_M_openLink.eq_1 _ _) ?_
            refine e_grd (inb_g f786 rfl) ?_
            refine e_i (fun q787 => ?_) (fun q787 => ?_)
            · refine e_eq (f_M_openLink_j26.eq_1 _ _ _) ?_
              refine e_grd (inb_g f786 rfl) ?_
              refine e_i (fun q789 => ?_) (fun q789 => ?_)
              · refine e_some ?_
                refine e_t rfl ?_
                exact e_some ⟨hW, hF, ((rgl (0) 0 0 rfl).sub rfl)⟩
              · refine e_some ?_
                refine e_f (by decide) ?_
                refine e_grd (inb_g (rg_add 0 141 (rg_mul 0 141 (rgl (3) 3 3 rfl) f786 rfl) (rgl (0) 0 0 rfl) rfl) rfl) ?_
                refine e_grd (inb_g (rg_add 0 140 (rg_mul 0 138 (rgl (3) 3 3 rfl) f672 rfl) f784 rfl) rfl) ?_
                refine e_i (fun q792 => ?_) (fun q792 => ?_)
                · refine e_wrO (fun T793 eT793 hT793 v793 => ?_)
                  have hW793 := wo_0_26 hW (rg_div 0 23 2 f786 (by decide) rfl) eT793
                  have hF793 := hF.tr hT793 rfl
                  refine e_bnd ?_
                  refine e_eq (f_M_placeAtEnd.eq_1 _ _) ?_
                  refine e_i (fun q799 => ?_) (fun q799 => ?_)
                  · refine e_some ?_
                    refine e_wrO (fun T801 eT801 hT801 v801 => ?_)
                    have hW801 := WR.st (k := 0) (i := 27) hW793 trivial rfl eT801
                    have hF801 := hF793.tr hT801 rfl
                    refine e_t q799 ?_
                    refine e_eq (f_M_isOpen_j163.eq_1 _ _ _ _) ?_
                    refine e_wrO (fun T808 eT808 hT808 v808 => ?_)
                    have hW808 := wo_0_28 hW801 ((rgl (1) 1 1 rfl).sub rfl) eT808
                    have hF808 := hF801.tr hT808 rfl
                    refine e_i (fun q816 => ?_) (fun q816 => ?_)
                    · refine e_i (fun q817 => ?_) (fun q817 => ?_)
                      · exact e_some ⟨hW808, hF808, ((rgl (0) 0 0 rfl).sub rfl)⟩
                      · exact e_some ⟨hW808, hF808, ((rgl (1) 1 1 rfl).sub rfl)⟩
                    · exact e_some ⟨hW808, hF808, ((rgl (1) 1 1 rfl).sub rfl)⟩
                  · refine e_grd (inb_g (rg_div 0 23 2 f786 (by decide) rfl) rfl) ?_
                    refine e_someG (fun w820 hw820 => ?_)
                    refine e_wrO (fun T821 eT821 hT821 v821 => ?_)
                    have hW821 := WR.st (k := 0) (i := 27) hW793 trivial rfl eT821
                    have hF821 := hF793.tr hT821 rfl
                    refine e_f q799 ?_
                    refine e_eq (f_M_isOpen_j163.eq_1 _ _ _ _) ?_
                    refine e_wrO (fun T827 eT827 hT827 v827 => ?_)
                    have hW827 := wo_0_28 hW821 ((rgl (0) 0 0 rfl).sub rfl) eT827
                    have hF827 := hF821.tr hT827 rfl
                    refine e_i (fun q834 => ?_) (fun q834 => ?_)
                    · refine e_i (fun q835 => ?_) (fun q835 => ?_)
                      · exact e_some ⟨hW827, hF827, ((rgl (0) 0 0 rfl).sub rfl)⟩
                      · exact e_some ⟨hW827, hF827, ((rgl (1) 1 1 rfl).sub rfl)⟩
                    · exact e_some ⟨hW827, hF827, ((rgl (1) 1 1 rfl).sub rfl)⟩
                · exact e_some ⟨hW, hF, ((rgl (0) 0 0 rfl).sub rfl)⟩
            · have f836 := rn.ne (ro_5 hW _) q787
              refine e_grd (inb_g f786 rfl) ?_
              refine e_grd (inb_g f836 rfl) ?_
              refine e_eq (f_M_openLink_j26.eq_1 _ _ _) ?_
              refine e_grd (inb_g f786 rfl) ?_
              refine e_i (fun q837 => ?_) (fun q837 => ?_)
              · refine e_some ?_
                refine e_t rfl ?_
                exact e_some ⟨hW, hF, ((rgl (0) 0 0 rfl).sub rfl)⟩
              · refine e_someG (fun w840 hw840 => ?_)
                have f841 := rg_tr (ro_10 hW _) hw840
                refine e_f (d_ne f841 (rgl (-4) (-4) (-4) rfl) rfl) ?_
                refine e_grd (inb_g (rg_add 0 143 (rg_mul 0 141 (rgl (3) 3 3 rfl) f786 rfl) f841 rfl) rfl) ?_
                refine e_grd (inb_g (rg_add 0 140 (rg_mul 0 138 (rgl (3) 3 3 rfl) f672 rfl) f784 rfl) rfl) ?_
                refine e_i (fun q842 => ?_) (fun q842 => ?_)
                · refine e_wrO (fun T843 eT843 hT843 v843 => ?_)
                  have hW843 := wo_0_26 hW (rg_div 0 23 2 f786 (by decide) rfl) eT843
                  have hF843 := hF.tr hT843 rfl
                  refine e_bnd ?_
                  refine e_eq (f_M_placeAtEnd.eq_1 _ _) ?_
                  refine e_i (fun q849 => ?_) (fun q849 => ?_)
                  · refine e_some ?_
                    refine e_wrO (fun T851 eT851 hT851 v851 => ?_)
                    have hW851 := WR.st (k := 0) (i := 27) hW843 trivial rfl eT851
                    have hF851 := hF843.tr hT851 rfl
                    refine e_t q849 ?_
                    refine e_eq (f_M_isOpen_j163.eq_1 _ _ _ _) ?_
                    refine e_wrO (fun T858 eT858 hT858 v858 => ?_)
                    have hW858 := wo_0_28 hW851 ((rgl (1) 1 1 rfl).sub rfl) eT858
                    have hF858 := hF851.tr hT858 rfl
                    refine e_i (fun q866 => ?_) (fun q866 => ?_)
                    · refine e_i (fun q867 => ?_) (fun q867 => ?_)
                      · exact e_some ⟨hW858, hF858, ((rgl (0) 0 0 rfl).sub rfl)⟩
                      · exact e_some ⟨hW858, hF858, ((rgl (1) 1 1 rfl).sub rfl)⟩
                    · exact e_some ⟨hW858, hF858, ((rgl (1) 1 1 rfl).sub rfl)⟩
                  · refine e_grd (inb_g (rg_div 0 23 2 f786 (by decide) rfl) rfl) ?_
                    refine e_someG (fun w870 hw870 => ?_)
                    refine e_wrO (fun T871 eT871 hT871 v871 => ?_)
                    have hW871 := WR.st (k := 0) (i := 27) hW843 trivial rfl eT871
                    have hF871 := hF843.tr hT871 rfl
                    refine e_f q849 ?_
                    refine e_eq (f_M_isOpen_j163.eq_1 _ _ _ _) ?_
                    refine e_wrO (fun T877 eT877 hT877 v877 => ?_)
                    have hW877 := wo_0_28 hW871 ((rgl (0) 0 0 rfl).sub rfl) eT877
                    have hF877 := hF871.tr hT877 rfl
                    refine e_i (fun q884 => ?_) (fun q884 => ?_)
                    · refine e_i (fun q885 => ?_) (fun q885 => ?_)
                      · exact e_some ⟨hW877, hF877, ((rgl (0) 0 0 rfl).sub rfl)⟩
                      · exact e_some ⟨hW877, hF877, ((rgl (1) 1 1 rfl).sub rfl)⟩
                    · exact e_some ⟨hW877, hF877, ((rgl (1) 1 1 rfl).sub rfl)⟩
                · exact e_some ⟨hW, hF, ((rgl (0) 0 0 rfl).sub rfl)⟩
      · refine e_wrO (fun T888 eT888 hT888 v888 => ?_)
        have hW888 := wo_0_26 hW h0 eT888
        have hF888 := hF.tr hT888 rfl
        refine e_wrO (fun T891 eT891 hT891 v891 => ?_)
        have hW891 := WR.st (k := 0) (i := 27) hW888 trivial rfl eT891
        have hF891 := hF888.tr hT891 rfl
        refine e_wrO (fun T895 eT895 hT895 v895 => ?_)
        have hW895 := wo_0_28 hW891 (f451.sub rfl) eT895
        have hF895 := hF891.tr hT895 rfl
        exact e_some ⟨hW895, hF895, ((rgl (1) 1 1 rfl).sub rfl)⟩
set_option maxRecDepth 20000 in
set_option maxHeartbeats 4000000 in
theorem t_M_areTogether_L10 {S0 : SS} : ∀ (n : Nat) (x2 : Int32) (x3 : Int32) (x4 : Int32) (S : SS), WR S → Fr [39] [(0, 56), (0, 57), (0, 58)] S0 S → rg x3 0 1 → rg x4 0 72 → 72 - x4.toInt < (n : Int) → Ex2 (f_M_areTogether_L10 n x2 x3 x4 S) (fun r U => WR U ∧ Fr [39] [(0, 56), (0, 57), (0, 58)] S0 U ∧ rg r 0 1) := by
  intro n
  induction n with
  | zero =>
    intro x2 x3 x4 S hW hF h1 h2 hm
    exact up_0 h2 hm rfl
  | succ n ih =>
    intro x2 x3 x4 S hW hF h1 h2 hm
    refine e_eq (f_M_areTogether_L10.eq_2 _ _ _ _ _) ?_
    refine e_i (fun q1 => ?_) (fun q1 => ?_)
    · refine e_grd (isB_g h1 rfl) ?_
      exact e_some ⟨hW, hF, h1⟩
    · have f3 := nle_r 71 (ro_0_56 hW) h2 q1 rfl
      refine e_i (fun q4 => ?_) (fun q4 => ?_)
      · refine e_grd (inb_g f3 rfl) ?_
        refine e_i (fun q6 => ?_) (fun q6 => ?_)
        · refine e_eq (f_M_areTogether_j34.eq_1 _ _ _ _) ?_
          refine e_eq (f_M_areTogether_j39.eq_1 _ _ _ _ _) ?_
          refine e_nmG (fun w8 hw8 => ?_)
          have f9 := rg_tr (rg_add 1 72 f3 (rgl (1) 1 1 rfl) rfl) hw8
          exact ih _ _ _ _ hW hF ((rgl (1) 1 1 rfl).sub rfl) (f9.sub rfl) (up_s f3 hw8 hm rfl)
        · refine e_eq (f_M_areTogether_j39.eq_1 _ _ _ _ _) ?_
          refine e_nmG (fun w10 hw10 => ?_)
          have f11 := rg_tr (rg_add 1 72 f3 (rgl (1) 1 1 rfl) rfl) hw10
          exact ih _ _ _ _ hW hF ((rgl (0) 0 0 rfl).sub rfl) (f11.sub rfl) (up_s f3 hw10 hm rfl)
      · refine e_eq (f_M_areTogether_j34.eq_1 _ _ _ _) ?_
        refine e_eq (f_M_areTogether_j39.eq_1 _ _ _ _ _) ?_
        refine e_nmG (fun w13 hw13 => ?_)
        have f14 := rg_tr (rg_add 1 72 f3 (rgl (1) 1 1 rfl) rfl) hw13
        exact ih _ _ _ _ hW hF ((rgl (1) 1 1 rfl).sub rfl) (f14.sub rfl) (up_s f3 hw13 hm rfl)
set_option maxRecDepth 20000 in
set_option maxHeartbeats 4000000 in
theorem t_M_areTogether {a1 : Int32} {a2 : Int32} {S : SS} (hW : WR S) (h0 : rg a1 0 71) (hl0 : ¬ S.1 0 29 ≤ a1) : Ex2 (f_M_areTogether a1 a2 S) (fun r U => WR U ∧ Fr [39] [(0, 56), (0, 57), (0, 58)] S U ∧ rg r 0 1) := by
  have hF : Fr [39] [(0, 56), (0, 57), (0, 58)] S S := Fr.rf
  refine e_eq (f_M_areTogether.eq_1 _ _ _) ?_
  refine e_cV (t_M_lineUp hW h0 hl0) (fun T1 p1 => ?_)
  obtain ⟨hW1, hT1, hr1⟩ := p1
  have hF1 := hF.tr hT1 rfl
  exact t_M_areTogether_L10  NF _ _ _ _ hW1 hF1 ((rgl (0) 0 0 rfl).sub rfl) ((rgl (0) 0 0 rfl).sub rfl) (up_n (rgl (0) 0 0 rfl) rfl)
set_option maxRecDepth 20000 in
set_option maxHeartbeats 4000000 in
theorem t_M_note {a1 : Int32} {S : SS} (hW : WR S) : Ew (f_M_note a1 S) (fun U => WR U ∧ Fr [2] [(0, 5)] S U) := by
  have hF : Fr [2] [(0, 5)] S S := Fr.rf
  refine v_eq (f_M_note.eq_1 _ _) ?_
  refine v_i (fun q1 => ?_) (fun q1 => ?_)
  · exact v_some ⟨hW, hF⟩
  · have f3 := nle_r 199 (rgl (200) 200 200 rfl) (ro_0_5 hW) q1 rfl
    refine v_grd (inb_g f3 rfl) ?_
    refine v_wrA (fun T4 eT4 hT4 v4 => ?_)
    have hW4 := WR.st (k := 2) hW trivial rfl eT4
    have hF4 := hF.tr hT4 rfl
    have f5 := rg_tr f3 (hT4.1 0 _ rfl)
    refine v_wrO (fun T6 eT6 hT6 v6 => ?_)
    have hW6 := wo_0_5 hW4 ((rg_add 1 200 f5 (rgl (1) 1 1 rfl) rfl).sub rfl) eT6
    have hF6 := hF4.tr hT6 rfl
    exact v_some ⟨hW6, hF6⟩
set_option maxRecDepth 20000 in
set_option maxHeartbeats 4000000 in
theorem t_M_suits {a1 : Int32} {a2 : Int32} {S : SS} (hW : WR S) (h0 : rg a1 0 71) (h1 : rg a2 0 71) : Ex2 (f_M_suits a1 a2 S) (fun r U => WR U ∧ Fr [2] [(0, 5)] S U ∧ rg r 0 1) := by
  have hF : Fr [2] [(0, 5)] S S := Fr.rf
  refine e_eq (f_M_suits.eq_1 _ _ _) ?_
  refine e_grd (inb_g h0 rfl) ?_
  refine e_i (fun q1 => ?_) (fun q1 => ?_)
  · refine e_grd (inb_g h0 rfl) ?_
    refine e_i (fun q3 => ?_) (fun q3 => ?_)
    · refine e_cV (t_M_note hW) (fun T5 p5 => ?_)
      obtain ⟨hW5, hT5⟩ := p5
      have hF5 := hF.tr hT5 rfl
      refine e_grd (inb_g h1 rfl) ?_
      refine e_i (fun q7 => ?_) (fun q7 => ?_)
      · exact e_some ⟨hW5, hF5, ((rgl (0) 0 0 rfl).sub rfl)⟩
      · refine e_grd (inb_g h1 rfl) ?_
        refine e_i (fun q9 => ?_) (fun q9 => ?_)
        · exact e_some ⟨hW5, hF5, ((rgl (0) 0 0 rfl).sub rfl)⟩
        · refine e_eq (f_M_suits_j56.eq_1 _ _ _) ?_
          refine e_cV (t_M_note hW5) (fun T11 p11 => ?_)
          obtain ⟨hW11, hT11⟩ := p11
          have hF11 := hF5.tr hT11 rfl
          refine e_grd (inb_g h1 rfl) ?_
          refine e_i (fun q13 => ?_) (fun q13 => ?_)
          · exact e_some ⟨hW11, hF11, ((rgl (1) 1 1 rfl).sub rfl)⟩
          · refine e_grd (inb_g h0 rfl) ?_
            refine e_grd (inb_g h1 rfl) ?_
            refine e_grd (inb_g (rg_add 0 99 (rg_mul 0 90 (rgl (10) 10 10 rfl) (ro_27 hW11 _) rfl) (ro_27 hW11 _) rfl) rfl) ?_
            refine e_i (fun q16 => ?_) (fun q16 => ?_)
            · exact e_some ⟨hW11, hF11, ((rgl (1) 1 1 rfl).sub rfl)⟩
            · exact e_some ⟨hW11, hF11, ((rgl (0) 0 0 rfl).sub rfl)⟩
    · refine e_eq (f_M_suits_j56.eq_1 _ _ _) ?_
      refine e_cV (t_M_note hW) (fun T20 p20 => ?_)
      obtain ⟨hW20, hT20⟩ := p20
      have hF20 := hF.tr hT20 rfl
      refine e_grd (inb_g h1 rfl) ?_
      refine e_i (fun q22 => ?_) (fun q22 => ?_)
      · exact e_some ⟨hW20, hF20, ((rgl (1) 1 1 rfl).sub rfl)⟩
      · refine e_grd (inb_g h0 rfl) ?_
        refine e_grd (inb_g h1 rfl) ?_
        refine e_grd (inb_g (rg_add 0 99 (rg_mul 0 90 (rgl (10) 10 10 rfl) (ro_27 hW20 _) rfl) (ro_27 hW20 _) rfl) rfl) ?_
        refine e_i (fun q25 => ?_) (fun q25 => ?_)
        · exact e_some ⟨hW20, hF20, ((rgl (1) 1 1 rfl).sub rfl)⟩
        · exact e_some ⟨hW20, hF20, ((rgl (0) 0 0 rfl).sub rfl)⟩
  · refine e_cV (t_M_note hW) (fun T29 p29 => ?_)
    obtain ⟨hW29, hT29⟩ := p29
    have hF29 := hF.tr hT29 rfl
    exact e_some ⟨hW29, hF29, ((rgl (1) 1 1 rfl).sub rfl)⟩
