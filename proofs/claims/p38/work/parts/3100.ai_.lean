set_option maxRecDepth 20000 in
set_option maxHeartbeats 4000000 in
theorem t_M_begin {S : SS} (hW : WR S) : Ew (f_M_begin  S) (fun U => WR U ∧ Fr [] [(0, 0), (0, 1), (0, 2), (0, 3), (0, 5)] S U) := by
  have hF : Fr [] [(0, 0), (0, 1), (0, 2), (0, 3), (0, 5)] S S := Fr.rf
  refine v_eq (f_M_begin.eq_1 _) ?_
  refine v_wrO (fun T1 eT1 hT1 v1 => ?_)
  have hW1 := WR.st (k := 0) (i := 0) hW trivial rfl eT1
  have hF1 := hF.tr hT1 rfl
  refine v_wrO (fun T3 eT3 hT3 v3 => ?_)
  have hW3 := WR.st (k := 0) (i := 1) hW1 trivial rfl eT3
  have hF3 := hF1.tr hT3 rfl
  refine v_wrO (fun T6 eT6 hT6 v6 => ?_)
  have hW6 := WR.st (k := 0) (i := 2) hW3 trivial rfl eT6
  have hF6 := hF3.tr hT6 rfl
  refine v_wrO (fun T10 eT10 hT10 v10 => ?_)
  have hW10 := WR.st (k := 0) (i := 3) hW6 trivial rfl eT10
  have hF10 := hF6.tr hT10 rfl
  refine v_wrO (fun T15 eT15 hT15 v15 => ?_)
  have hW15 := wo_0_5 hW10 ((rgl (0) 0 0 rfl).sub rfl) eT15
  have hF15 := hF10.tr hT15 rfl
  exact v_some ⟨hW15, hF15⟩
set_option maxRecDepth 20000 in
set_option maxHeartbeats 4000000 in
theorem t_M_found {a1 : Int32} {S : SS} (hW : WR S) (h0 : rg a1 0 17) : Ex2 (f_M_found a1 S) (fun r U => WR U ∧ Fr [1] [(0, 0)] S U ∧ rg r (-2) (-2)) := by
  have hF : Fr [1] [(0, 0)] S S := Fr.rf
  refine e_eq (f_M_found.eq_1 _ _) ?_
  refine e_wrO (fun T1 eT1 hT1 v1 => ?_)
  have hW1 := WR.st (k := 0) (i := 0) hW trivial rfl eT1
  have hF1 := hF.tr hT1 rfl
  refine e_grd (inb_g h0 rfl) ?_
  refine e_grd (inb_g h0 rfl) ?_
  refine e_wrA (fun T3 eT3 hT3 v3 => ?_)
  have hW3 := WR.st (k := 1) hW1 trivial rfl eT3
  have hF3 := hF1.tr hT3 rfl
  exact e_some ⟨hW3, hF3, (rgl (-2) (-2) (-2) rfl)⟩
set_option maxRecDepth 20000 in
set_option maxHeartbeats 4000000 in
theorem t_M_track {a1 : Int32} {S : SS} (hW : WR S) : Ex2 (f_M_track a1 S) (fun r U => WR U ∧ Fr [1, 3] [(0, 0), (0, 1), (0, 2), (0, 3), (0, 5), (0, 7), (0, 60), (0, 61)] S U ∧ rg r (-3) 23) := by
  have hF : Fr [1, 3] [(0, 0), (0, 1), (0, 2), (0, 3), (0, 5), (0, 7), (0, 60), (0, 61)] S S := Fr.rf
  refine e_eq (f_M_track.eq_1 _ _) ?_
  refine e_i (fun q1 => ?_) (fun q1 => ?_)
  · exact e_some ⟨hW, hF, ((rgl (-1) (-1) (-1) rfl).sub rfl)⟩
  · refine e_i (fun q3 => ?_) (fun q3 => ?_)
    · refine e_i (fun q5 => ?_) (fun q5 => ?_)
      · exact e_some ⟨hW, hF, ((rgl (-3) (-3) (-3) rfl).sub rfl)⟩
      · have f7 := ne_h 23 (ro_0_7 hW) (rgl (24) 24 24 rfl) q5 rfl
        refine e_cV (t_M_begin hW) (fun T8 p8 => ?_)
        obtain ⟨hW8, hT8⟩ := p8
        have hF8 := hF.tr hT8 rfl
        have f9 := rg_tr f7 (hT8.1 0 _ rfl)
        refine e_i (fun q10 => ?_) (fun q10 => ?_)
        · refine e_grd (inb_g f9 rfl) ?_
          refine e_wrA (fun T12 eT12 hT12 v12 => ?_)
          have hW12 := WR.st (k := 3) hW8 trivial rfl eT12
          have hF12 := hF8.tr hT12 rfl
          have f13 := rg_tr f9 (hT12.1 0 _ rfl)
          refine e_wrO (fun T15 eT15 hT15 v15 => ?_)
          have hW15 := wo_0_7 hW12 ((rg_add 1 24 f13 (rgl (1) 1 1 rfl) rfl).sub rfl) eT15
          have hF15 := hF12.tr hT15 rfl
          have f16 := rg_tr (rg_add 1 24 f13 (rgl (1) 1 1 rfl) rfl) v15
          refine e_cV (t_M_forget hW15) (fun T17 p17 => ?_)
          obtain ⟨hW17, hT17⟩ := p17
          have hF17 := hF15.tr hT17 rfl
          have f18 := rg_tr f16 (hT17.1 0 _ rfl)
          exact e_some ⟨hW17, hF17, ((rg_sb 0 23 f18 (rgl (1) 1 1 rfl) rfl).sub rfl)⟩
        · refine e_cE (t_M_found hW8 ((rgl (5) 5 5 rfl).sub rfl)) (fun u20 T20 p20 => ?_)
          obtain ⟨hW20, hT20, hr20⟩ := p20
          have hF20 := hF8.tr hT20 rfl
          exact e_some ⟨hW20, hF20, (hr20.sub rfl)⟩
    · exact e_some ⟨hW, hF, ((rgl (-1) (-1) (-1) rfl).sub rfl)⟩
set_option maxRecDepth 20000 in
set_option maxHeartbeats 4000000 in
theorem t_M_ends {a1 : Int32} {S : SS} (hW : WR S) (h0 : rg a1 0 17) : Ex2 (f_M_ends a1 S) (fun r U => WR U ∧ Fr [1] [(0, 0)] S U ∧ rg r 0 1) := by
  have hF : Fr [1] [(0, 0)] S S := Fr.rf
  refine e_eq (f_M_ends.eq_1 _ _) ?_
  refine e_i (fun q1 => ?_) (fun q1 => ?_)
  · refine e_eq (f_M_ends_j10.eq_1 _ _) ?_
    refine e_t q1 ?_
    exact e_some ⟨hW, hF, ((rgl (0) 0 0 rfl).sub rfl)⟩
  · have f3 := ne_l 1 h0 (rgl 0 0 0 rfl) q1 rfl
    refine e_cE (t_M_found hW (f3.sub rfl)) (fun u4 T4 p4 => ?_)
    obtain ⟨hW4, hT4, hr4⟩ := p4
    have hF4 := hF.tr hT4 rfl
    refine e_eq (f_M_ends_j10.eq_1 _ _) ?_
    refine e_f q1 ?_
    exact e_some ⟨hW4, hF4, ((rgl (1) 1 1 rfl).sub rfl)⟩
set_option maxRecDepth 20000 in
set_option maxHeartbeats 4000000 in
theorem t_M_point {a1 : Int32} {a2 : Int32} {S : SS} (hW : WR S) : Ex2 (f_M_point a1 a2 S) (fun r U => WR U ∧ Fr [1, 5, 9, 10, 11] [(0, 0), (0, 1), (0, 2), (0, 3), (0, 5), (0, 15), (0, 60), (0, 61)] S U ∧ rg r (-3) 39) := by
  have hF : Fr [1, 5, 9, 10, 11] [(0, 0), (0, 1), (0, 2), (0, 3), (0, 5), (0, 15), (0, 60), (0, 61)] S S := Fr.rf
  refine e_eq (f_M_point.eq_1 _ _ _) ?_
  refine e_bnd ?_
  refine e_eq (f_M_isSide.eq_1 _ _) ?_
  refine e_i (fun q1 => ?_) (fun q1 => ?_)
  · have f2 := rg_tr (rgl 0 0 0 rfl) q1
    refine e_some ?_
    refine e_f (by decide) ?_
    refine e_i (fun q3 => ?_) (fun q3 => ?_)
    · exact e_some ⟨hW, hF, ((rgl (-3) (-3) (-3) rfl).sub rfl)⟩
    · have f5 := ne_h 39 (ro_0_15 hW) (rgl (40) 40 40 rfl) q3 rfl
      refine e_cV (t_M_begin hW) (fun T6 p6 => ?_)
      obtain ⟨hW6, hT6⟩ := p6
      have hF6 := hF.tr hT6 rfl
      have f7 := rg_tr f5 (hT6.1 0 _ rfl)
      refine e_bnd ?_
      refine e_eq (f_M_missTrack.eq_1 _ _) ?_
      refine e_i (fun q8 => ?_) (fun q8 => ?_)
      · refine e_some ?_
        refine e_bnd ?_
        refine e_eq (f_M_ends.eq_1 _ _) ?_
        refine e_f (by decide) ?_
        refine e_cE (t_M_found hW6 ((rgl (3) 3 3 rfl).sub rfl)) (fun u10 T10 p10 => ?_)
        obtain ⟨hW10, hT10, hr10⟩ := p10
        have hF10 := hF6.tr hT10 rfl
        refine e_eq (f_M_ends_j10.eq_1 _ _) ?_
        refine e_f (by decide) ?_
        refine e_some ?_
        refine e_f (by decide) ?_
        exact e_some ⟨hW10, hF10, ((rgl (-2) (-2) (-2) rfl).sub rfl)⟩
      · have f12 := nlt_l (rgt _) (rgl 0 0 0 rfl) q8
        refine e_i (fun q13 => ?_) (fun q13 => ?_)
        · have f14 := lt_l 23 f12 (rgl (24) 24 24 rfl) q13 rfl
          refine e_i (fun q15 => ?_) (fun q15 => ?_)
          · refine e_some ?_
            refine e_bnd ?_
            refine e_eq (f_M_ends.eq_1 _ _) ?_
            refine e_t (by decide) ?_
            refine e_eq (f_M_ends_j10.eq_1 _ _) ?_
            refine e_t (by decide) ?_
            refine e_some ?_
            refine e_t (by decide) ?_
            refine e_grd (inb_g (rg_add 0 46 (rg_mul 0 46 (rgl (2) 2 2 rfl) f14 rfl) f2 rfl) rfl) ?_
            refine e_i (fun q17 => ?_) (fun q17 => ?_)
            · refine e_grd (inb_g (rg_add 0 46 (rg_mul 0 46 (rgl (2) 2 2 rfl) f14 rfl) f2 rfl) rfl) ?_
              refine e_wrA (fun T19 eT19 hT19 v19 => ?_)
              have hW19 := wo_5 hW6 (rg.toN (f7.sub rfl)) eT19
              have hF19 := hF6.tr hT19 rfl
              have f20 := rg_tr f7 (hT19.1 0 _ rfl)
              refine e_grd (inb_g f20 rfl) ?_
              refine e_wrA (fun T23 eT23 hT23 v23 => ?_)
              have hW23 := wo_9 hW19 ((rg_add 0 46 (rg_mul 0 46 (rgl (2) 2 2 rfl) f14 rfl) f2 rfl).sub rfl) eT23
              have hF23 := hF19.tr hT23 rfl
              have f24 := rg_tr f20 (hT23.1 0 _ rfl)
              refine e_grd (inb_g f24 rfl) ?_
              refine e_wrA (fun T28 eT28 hT28 v28 => ?_)
              have hW28 := wo_10 hW23 ((rgl (0) 0 0 rfl).sub rfl) eT28
              have hF28 := hF23.tr hT28 rfl
              have f29 := rg_tr f24 (hT28.1 0 _ rfl)
              refine e_grd (inb_g f29 rfl) ?_
              refine e_wrA (fun T33 eT33 hT33 v33 => ?_)
              have hW33 := WR.st (k := 11) hW28 trivial rfl eT33
              have hF33 := hF28.tr hT33 rfl
              have f34 := rg_tr f29 (hT33.1 0 _ rfl)
              refine e_wrO (fun T38 eT38 hT38 v38 => ?_)
              have hW38 := wo_0_15 hW33 ((rg_add 1 40 f34 (rgl (1) 1 1 rfl) rfl).sub rfl) eT38
              have hF38 := hF33.tr hT38 rfl
              have f41 := rg_tr (rg_add 1 40 f34 (rgl (1) 1 1 rfl) rfl) v38
              refine e_cV (t_M_forget hW38) (fun T42 p42 => ?_)
              obtain ⟨hW42, hT42⟩ := p42
              have hF42 := hF38.tr hT42 rfl
              have f45 := rg_tr f41 (hT42.1 0 _ rfl)
              exact e_some ⟨hW42, hF42, ((rg_sb 0 39 f45 (rgl (1) 1 1 rfl) rfl).sub rfl)⟩
            · refine e_cE (t_M_found hW6 ((rgl (9) 9 9 rfl).sub rfl)) (fun u47 T47 p47 => ?_)
              obtain ⟨hW47, hT47, hr47⟩ := p47
              have hF47 := hF6.tr hT47 rfl
              exact e_some ⟨hW47, hF47, (hr47.sub rfl)⟩
          · refine e_some ?_
            refine e_bnd ?_
            refine e_eq (f_M_ends.eq_1 _ _) ?_
            refine e_f (by decide) ?_
            refine e_cE (t_M_found hW6 ((rgl (1) 1 1 rfl).sub rfl)) (fun u52 T52 p52 => ?_)
            obtain ⟨hW52, hT52, hr52⟩ := p52
            have hF52 := hF6.tr hT52 rfl
            refine e_eq (f_M_ends_j10.eq_1 _ _) ?_
            refine e_f (by decide) ?_
            refine e_some ?_
            refine e_f (by decide) ?_
            exact e_some ⟨hW52, hF52, ((rgl (-2) (-2) (-2) rfl).sub rfl)⟩
        · refine e_some ?_
          refine e_bnd ?_
          refine e_eq (f_M_ends.eq_1 _ _) ?_
          refine e_f (by decide) ?_
          refine e_cE (t_M_found hW6 ((rgl (3) 3 3 rfl).sub rfl)) (fun u56 T56 p56 => ?_)
          obtain ⟨hW56, hT56, hr56⟩ := p56
          have hF56 := hF6.tr hT56 rfl
          refine e_eq (f_M_ends_j10.eq_1 _ _) ?_
          refine e_f (by decide) ?_
          refine e_some ?_
          refine e_f (by decide) ?_
          exact e_some ⟨hW56, hF56, ((rgl (-2) (-2) (-2) rfl).sub rfl)⟩
  · refine e_i (fun q58 => ?_) (fun q58 => ?_)
    · have f59 := rg_tr (rgl (1) 1 1 rfl) q58
      refine e_some ?_
      refine e_f (by decide) ?_
      refine e_i (fun q60 => ?_) (fun q60 => ?_)
      · exact e_some ⟨hW, hF, ((rgl (-3) (-3) (-3) rfl).sub rfl)⟩
      · have f62 := ne_h 39 (ro_0_15 hW) (rgl (40) 40 40 rfl) q60 rfl
        refine e_cV (t_M_begin hW) (fun T63 p63 => ?_)
        obtain ⟨hW63, hT63⟩ := p63
        have hF63 := hF.tr hT63 rfl
        have f64 := rg_tr f62 (hT63.1 0 _ rfl)
        refine e_bnd ?_
        refine e_eq (f_M_missTrack.eq_1 _ _) ?_
        refine e_i (fun q65 => ?_) (fun q65 => ?_)
        · refine e_some ?_
          refine e_bnd ?_
          refine e_eq (f_M_ends.eq_1 _ _) ?_
          refine e_f (by decide) ?_
          refine e_cE (t_M_found hW63 ((rgl (3) 3 3 rfl).sub rfl)) (fun u67 T67 p67 => ?_)
          obtain ⟨hW67, hT67, hr67⟩ := p67
          have hF67 := hF63.tr hT67 rfl
          refine e_eq (f_M_ends_j10.eq_1 _ _) ?_
          refine e_f (by decide) ?_
          refine e_some ?_
          refine e_f (by decide) ?_
          exact e_some ⟨hW67, hF67, ((rgl (-2) (-2) (-2) rfl).sub rfl)⟩
        · have f69 := nlt_l (rgt _) (rgl 0 0 0 rfl) q65
          refine e_i (fun q70 => ?_) (fun q70 => ?_)
          · have f71 := lt_l 23 f69 (rgl (24) 24 24 rfl) q70 rfl
            refine e_i (fun q72 => ?_) (fun q72 => ?_)
            · refine e_some ?_
              refine e_bnd ?_
              refine e_eq (f_M_ends.eq_1 _ _) ?_
              refine e_t (by decide) ?_
              refine e_eq (f_M_ends_j10.eq_1 _ _) ?_
              refine e_t (by decide) ?_
              refine e_some ?_
              refine e_t (by decide) ?_
              refine e_grd (inb_g (rg_add 1 47 (rg_mul 0 46 (rgl (2) 2 2 rfl) f71 rfl) f59 rfl) rfl) ?_
              refine e_i (fun q74 => ?_) (fun q74 => ?_)
              · refine e_grd (inb_g (rg_add 1 47 (rg_mul 0 46 (rgl (2) 2 2 rfl) f71 rfl) f59 rfl) rfl) ?_
                refine e_wrA (fun T76 eT76 hT76 v76 => ?_)
                have hW76 := wo_5 hW63 (rg.toN (f64.sub rfl)) eT76
                have hF76 := hF63.tr hT76 rfl
                have f77 := rg_tr f64 (hT76.1 0 _ rfl)
                refine e_grd (inb_g f77 rfl) ?_
                refine e_wrA (fun T80 eT80 hT80 v80 => ?_)
                have hW80 := wo_9 hW76 ((rg_add 1 47 (rg_mul 0 46 (rgl (2) 2 2 rfl) f71 rfl) f59 rfl).sub rfl) eT80
                have hF80 := hF76.tr hT80 rfl
                have f81 := rg_tr f77 (hT80.1 0 _ rfl)
                refine e_grd (inb_g f81 rfl) ?_
                refine e_wrA (fun T85 eT85 hT85 v85 => ?_)
                have hW85 := wo_10 hW80 ((rgl (0) 0 0 rfl).sub rfl) eT85
                have hF85 := hF80.tr hT85 rfl
                have f86 := rg_tr f81 (hT85.1 0 _ rfl)
                refine e_grd (inb_g f86 rfl) ?_
                refine e_wrA (fun T90 eT90 hT90 v90 => ?_)
                have hW90 := WR.st (k := 11) hW85 trivial rfl eT90
                have hF90 := hF85.tr hT90 rfl
                have f91 := rg_tr f86 (hT90.1 0 _ rfl)
                refine e_wrO (fun T95 eT95 hT95 v95 => ?_)
                have hW95 := wo_0_15 hW90 ((rg_add 1 40 f91 (rgl (1) 1 1 rfl) rfl).sub rfl) eT95
                have hF95 := hF90.tr hT95 rfl
                have f98 := rg_tr (rg_add 1 40 f91 (rgl (1) 1 1 rfl) rfl) v95
                refine e_cV (t_M_forget hW95) (fun T99 p99 => ?_)
                obtain ⟨hW99, hT99⟩ := p99
                have hF99 := hF95.tr hT99 rfl
                have f102 := rg_tr f98 (hT99.1 0 _ rfl)
                exact e_some ⟨hW99, hF99, ((rg_sb 0 39 f102 (rgl (1) 1 1 rfl) rfl).sub rfl)⟩
              · refine e_cE (t_M_found hW63 ((rgl (9) 9 9 rfl).sub rfl)) (fun u104 T104 p104 => ?_)
                obtain ⟨hW104, hT104, hr104⟩ := p104
                have hF104 := hF63.tr hT104 rfl
                exact e_some ⟨hW104, hF104, (hr104.sub rfl)⟩
            · refine e_some ?_
              refine e_bnd ?_
              refine e_eq (f_M_ends.eq_1 _ _) ?_
              refine e_f (by decide) ?_
              refine e_cE (t_M_found hW63 ((rgl (1) 1 1 rfl).sub rfl)) (fun u109 T109 p109 => ?_)
              obtain ⟨hW109, hT109, hr109⟩ := p109
              have hF109 := hF63.tr hT109 rfl
              refine e_eq (f_M_ends_j10.eq_1 _ _) ?_
              refine e_f (by decide) ?_
              refine e_some ?_
              refine e_f (by decide) ?_
              exact e_some ⟨hW109, hF109, ((rgl (-2) (-2) (-2) rfl).sub rfl)⟩
          · refine e_some ?_
            refine e_bnd ?_
            refine e_eq (f_M_ends.eq_1 _ _) ?_
            refine e_f (by decide) ?_
            refine e_cE (t_M_found hW63 ((rgl (3) 3 3 rfl).sub rfl)) (fun u113 T113 p113 => ?_)
            obtain ⟨hW113, hT113, hr113⟩ := p113
            have hF113 := hF63.tr hT113 rfl
            refine e_eq (f_M_ends_j10.eq_1 _ _) ?_
            refine e_f (by decide) ?_
            refine e_some ?_
            refine e_f (by decide) ?_
            exact e_some ⟨hW113, hF113, ((rgl (-2) (-2) (-2) rfl).sub rfl)⟩
    · refine e_some ?_
      refine e_t (by decide) ?_
      exact e_some ⟨hW, hF, ((rgl (-1) (-1) (-1) rfl).sub rfl)⟩
set_option maxRecDepth 20000 in
set_option maxHeartbeats 4000000 in
theorem t_M_link_L80 {S0 : SS} : ∀ (n : Nat) (x5 : Int32) (x6 : Int32) (x7 : Int32) (x8 : Int32) (S : SS), WR S → Fr [1, 6, 7, 8] [(0, 0), (0, 1), (0, 2), (0, 3), (0, 5), (0, 14), (0, 60), (0, 61)] S0 S → rg x5 0 47 → rg x6 0 47 → rg x7 0 1 → rg x8 0 3 → (x7 = 0 → ¬ x5 = x6) → 3 - x8.toInt < (n : Int) → Ex2 (f_M_link_L80 n x5 x6 x7 x8 S) (fun r U => WR U ∧ Fr [1, 6, 7, 8] [(0, 0), (0, 1), (0, 2), (0, 3), (0, 5), (0, 14), (0, 60), (0, 61)] S0 U ∧ rg r (-2) 1) := by
  intro n
  induction n with
  | zero =>
    intro x5 x6 x7 x8 S hW hF h0 h1 h2 h3 hne hm
    exact up_0 h3 hm rfl
  | succ n ih =>
    intro x5 x6 x7 x8 S hW hF h0 h1 h2 h3 hne hm
    refine e_eq (f_M_link_L80.eq_2 _ _ _ _ _ _) ?_
    refine e_grd (inb_g h0 rfl) ?_
    refine e_i (fun q1 => ?_) (fun q1 => ?_)
    · refine e_i (fun q2 => ?_) (fun q2 => ?_)
      · refine e_grd (inb_g h0 rfl) ?_
        refine e_bnd ?_
        refine e_eq (f_M_mostLinks.eq_1 _ _) ?_
        refine e_grd (inb_g h0 rfl) ?_
        refine e_i (fun q4 => ?_) (fun q4 => ?_)
        · refine e_some ?_
          refine e_i (fun q6 => ?_) (fun q6 => ?_)
          · refine e_eq (f_M_link_j164.eq_1 _) ?_
            refine e_cE (t_M_found hW ((rgl (9) 9 9 rfl).sub rfl)) (fun u8 T8 p8 => ?_)
            obtain ⟨hW8, hT8, hr8⟩ := p8
            have hF8 := hF.tr hT8 rfl
            exact e_some ⟨hW8, hF8, (hr8.sub rfl)⟩
          · have f11 := nle_r 0 (rgl (1) 1 1 rfl) (ro_6 hW _) q6 rfl
            refine e_grd (inb_g h1 rfl) ?_
            refine e_bnd ?_
            refine e_eq (f_M_mostLinks.eq_1 _ _) ?_
            refine e_grd (inb_g h1 rfl) ?_
            refine e_i (fun q12 => ?_) (fun q12 => ?_)
            · refine e_some ?_
              refine e_i (fun q14 => ?_) (fun q14 => ?_)
              · have f15 := lt_l 0 (ro_6 hW _) (rgl (1) 1 1 rfl) q14 rfl
                refine e_grd (inb_g h0 rfl) ?_
                refine e_grd (inb_g (rg_add 0 141 (rg_mul 0 141 (rgl (3) 3 3 rfl) h0 rfl) f11 rfl) rfl) ?_
                refine e_wrA (fun T16 eT16 hT16 v16 => ?_)
                have hW16 := wo_7 hW h1 eT16
                have hF16 := hF.tr hT16 rfl
                have f18 := rg_tr f11 (hT16.1 6 _ rfl)
                have f20 := rg_tr f15 (hT16.1 6 _ rfl)
                refine e_grd (inb_g h0 rfl) ?_
                refine e_grd (inb_g (rg_add 0 141 (rg_mul 0 141 (rgl (3) 3 3 rfl) h0 rfl) f18 rfl) rfl) ?_
                refine e_wrA (fun T22 eT22 hT22 v22 => ?_)
                have hW22 := WR.st (k := 8) hW16 trivial rfl eT22
                have hF22 := hF16.tr hT22 rfl
                have f24 := rg_tr f18 (hT22.1 6 _ rfl)
                have f26 := rg_tr f20 (hT22.1 6 _ rfl)
                refine e_grd (inb_g h0 rfl) ?_
                refine e_grd (inb_g h0 rfl) ?_
                refine e_wrA (fun T27 eT27 hT27 v27 => ?_)
                have hW27 := wo_6 hW22 ((rg_add 1 1 f24 (rgl (1) 1 1 rfl) rfl).sub rfl) eT27
                have hF27 := hF22.tr hT27 rfl
                have f30 := rg_tr f26 (st_ix eT27 (hne q2) h0 h1 rfl)
                refine e_grd (inb_g h1 rfl) ?_
                refine e_grd (inb_g (rg_add 0 141 (rg_mul 0 141 (rgl (3) 3 3 rfl) h1 rfl) f30 rfl) rfl) ?_
                refine e_wrA (fun T32 eT32 hT32 v32 => ?_)
                have hW32 := wo_7 hW27 h0 eT32
                have hF32 := hF27.tr hT32 rfl
                have f35 := rg_tr f30 (hT32.1 6 _ rfl)
                refine e_grd (inb_g h1 rfl) ?_
                refine e_grd (inb_g (rg_add 0 141 (rg_mul 0 141 (rgl (3) 3 3 rfl) h1 rfl) f35 rfl) rfl) ?_
                refine e_wrA (fun T38 eT38 hT38 v38 => ?_)
                have hW38 := WR.st (k := 8) hW32 trivial rfl eT38
                have hF38 := hF32.tr hT38 rfl
                have f41 := rg_tr f35 (hT38.1 6 _ rfl)
                refine e_grd (inb_g h1 rfl) ?_
                refine e_grd (inb_g h1 rfl) ?_
                refine e_wrA (fun T43 eT43 hT43 v43 => ?_)
                have hW43 := wo_6 hW38 ((rg_add 1 1 f41 (rgl (1) 1 1 rfl) rfl).sub rfl) eT43
                have hF43 := hF38.tr hT43 rfl
                refine e_wrO (fun T48 eT48 hT48 v48 => ?_)
                have hW48 := WR.st (k := 0) (i := 14) hW43 trivial rfl eT48
                have hF48 := hF43.tr hT48 rfl
                refine e_cV (t_M_forget hW48) (fun T53 p53 => ?_)
                obtain ⟨hW53, hT53⟩ := p53
                have hF53 := hF48.tr hT53 rfl
                exact e_some ⟨hW53, hF53, ((rgl (1) 1 1 rfl).sub rfl)⟩
              · refine e_eq (f_M_link_j164.eq_1 _) ?_
                refine e_cE (t_M_found hW ((rgl (9) 9 9 rfl).sub rfl)) (fun u59 T59 p59 => ?_)
                obtain ⟨hW59, hT59, hr59⟩ := p59
                have hF59 := hF.tr hT59 rfl
                exact e_some ⟨hW59, hF59, (hr59.sub rfl)⟩
            · refine e_some ?_
              refine e_i (fun q65 => ?_) (fun q65 => ?_)
              · have f66 := lt_l 2 (ro_6 hW _) (rgl (3) 3 3 rfl) q65 rfl
                refine e_grd (inb_g h0 rfl) ?_
                refine e_grd (inb_g (rg_add 0 141 (rg_mul 0 141 (rgl (3) 3 3 rfl) h0 rfl) f11 rfl) rfl) ?_
                refine e_wrA (fun T67 eT67 hT67 v67 => ?_)
                have hW67 := wo_7 hW h1 eT67
                have hF67 := hF.tr hT67 rfl
                have f69 := rg_tr f11 (hT67.1 6 _ rfl)
                have f71 := rg_tr f66 (hT67.1 6 _ rfl)
                refine e_grd (inb_g h0 rfl) ?_
                refine e_grd (inb_g (rg_add 0 141 (rg_mul 0 141 (rgl (3) 3 3 rfl) h0 rfl) f69 rfl) rfl) ?_
                refine e_wrA (fun T73 eT73 hT73 v73 => ?_)
                have hW73 := WR.st (k := 8) hW67 trivial rfl eT73
                have hF73 := hF67.tr hT73 rfl
                have f75 := rg_tr f69 (hT73.1 6 _ rfl)
                have f77 := rg_tr f71 (hT73.1 6 _ rfl)
                refine e_grd (inb_g h0 rfl) ?_
                refine e_grd (inb_g h0 rfl) ?_
                refine e_wrA (fun T78 eT78 hT78 v78 => ?_)
                have hW78 := wo_6 hW73 ((rg_add 1 1 f75 (rgl (1) 1 1 rfl) rfl).sub rfl) eT78
                have hF78 := hF73.tr hT78 rfl
                have f81 := rg_tr f77 (st_ix eT78 (hne q2) h0 h1 rfl)
                refine e_grd (inb_g h1 rfl) ?_
                refine e_grd (inb_g (rg_add 0 143 (rg_mul 0 141 (rgl (3) 3 3 rfl) h1 rfl) f81 rfl) rfl) ?_
                refine e_wrA (fun T83 eT83 hT83 v83 => ?_)
                have hW83 := wo_7 hW78 h0 eT83
                have hF83 := hF78.tr hT83 rfl
                have f86 := rg_tr f81 (hT83.1 6 _ rfl)
                refine e_grd (inb_g h1 rfl) ?_
                refine e_grd (inb_g (rg_add 0 143 (rg_mul 0 141 (rgl (3) 3 3 rfl) h1 rfl) f86 rfl) rfl) ?_
                refine e_wrA (fun T89 eT89 hT89 v89 => ?_)
                have hW89 := WR.st (k := 8) hW83 trivial rfl eT89
                have hF89 := hF83.tr hT89 rfl
                have f92 := rg_tr f86 (hT89.1 6 _ rfl)
                refine e_grd (inb_g h1 rfl) ?_
                refine e_grd (inb_g h1 rfl) ?_
                refine e_wrA (fun T94 eT94 hT94 v94 => ?_)
                have hW94 := wo_6 hW89 ((rg_add 1 3 f92 (rgl (1) 1 1 rfl) rfl).sub rfl) eT94
                have hF94 := hF89.tr hT94 rfl
                refine e_wrO (fun T99 eT99 hT99 v99 => ?_)
                have hW99 := WR.st (k := 0) (i := 14) hW94 trivial rfl eT99
                have hF99 := hF94.tr hT99 rfl
                refine e_cV (t_M_forget hW99) (fun T104 p104 => ?_)
                obtain ⟨hW104, hT104⟩ := p104
                have hF104 := hF99.tr hT104 rfl
                exact e_some ⟨hW104, hF104, ((rgl (1) 1 1 rfl).sub rfl)⟩
              · refine e_eq (f_M_link_j164.eq_1 _) ?_
                refine e_cE (t_M_found hW ((rgl (9) 9 9 rfl).sub rfl)) (fun u110 T110 p110 => ?_)
                obtain ⟨hW110, hT110, hr110⟩ := p110
                have hF110 := hF.tr hT110 rfl
                exact e_some ⟨hW110, hF110, (hr110.sub rfl)⟩
        · refine e_some ?_
          refine e_i (fun q116 => ?_) (fun q116 => ?_)
          · refine e_eq (f_M_link_j164.eq_1 _) ?_
            refine e_cE (t_M_found hW ((rgl (9) 9 9 rfl).sub rfl)) (fun u118 T118 p118 => ?_)
            obtain ⟨hW118, hT118, hr118⟩ := p118
            have hF118 := hF.tr hT118 rfl
            exact e_some ⟨hW118, hF118, (hr118.sub rfl)⟩
          · have f121 := nle_r 2 (rgl (3) 3 3 rfl) (ro_6 hW _) q116 rfl
            refine e_grd (inb_g h1 rfl) ?_
            refine e_bnd ?_
            refine e_eq (f_M_mostLinks.eq_1 _ _) ?_
            refine e_grd (inb_g h1 rfl) ?_
            refine e_i (fun q122 => ?_) (fun q122 => ?_)
            · refine e_some ?_
              refine e_i (fun q124 => ?_) (fun q124 => ?_)
              · have f125 := lt_l 0 (ro_6 hW _) (rgl (1) 1 1 rfl) q124 rfl
                refine e_grd (inb_g h0 rfl) ?_
                refine e_grd (inb_g (rg_add 0 143 (rg_mul 0 141 (rgl (3) 3 3 rfl) h0 rfl) f121 rfl) rfl) ?_
                refine e_wrA (fun T126 eT126 hT126 v126 => ?_)
                have hW126 := wo_7 hW h1 eT126
                have hF126 := hF.tr hT126 rfl
                have f128 := rg_tr f121 (hT126.1 6 _ rfl)
                have f130 := rg_tr f125 (hT126.1 6 _ rfl)
                refine e_grd (inb_g h0 rfl) ?_
                refine e_grd (inb_g (rg_add 0 143 (rg_mul 0 141 (rgl (3) 3 3 rfl) h0 rfl) f128 rfl) rfl) ?_
                refine e_wrA (fun T132 eT132 hT132 v132 => ?_)
                have hW132 := WR.st (k := 8) hW126 trivial rfl eT132
                have hF132 := hF126.tr hT132 rfl
                have f134 := rg_tr f128 (hT132.1 6 _ rfl)
                have f136 := rg_tr f130 (hT132.1 6 _ rfl)
                refine e_grd (inb_g h0 rfl) ?_
                refine e_grd (inb_g h0 rfl) ?_
                refine e_wrA (fun T137 eT137 hT137 v137 => ?_)
                have hW137 := wo_6 hW132 ((rg_add 1 3 f134 (rgl (1) 1 1 rfl) rfl).sub rfl) eT137
                have hF137 := hF132.tr hT137 rfl
                have f140 := rg_tr f136 (st_ix eT137 (hne q2) h0 h1 rfl)
                refine e_grd (inb_g h1 rfl) ?_
                refine e_grd (inb_g (rg_add 0 141 (rg_mul 0 141 (rgl (3) 3 3 rfl) h1 rfl) f140 rfl) rfl) ?_
                refine e_wrA (fun T142 eT142 hT142 v142 => ?_)
                have hW142 := wo_7 hW137 h0 eT142
                have hF142 := hF137.tr hT142 rfl
                have f145 := rg_tr f140 (hT142.1 6 _ rfl)
                refine e_grd (inb_g h1 rfl) ?_
                refine e_grd (inb_g (rg_add 0 141 (rg_mul 0 141 (rgl (3) 3 3 rfl) h1 rfl) f145 rfl) rfl) ?_
                refine e_wrA (fun T148 eT148 hT148 v148 => ?_)
                have hW148 := WR.st (k := 8) hW142 trivial rfl eT148
                have hF148 := hF142.tr hT148 rfl
                have f151 := rg_tr f145 (hT148.1 6 _ rfl)
                refine e_grd (inb_g h1 rfl) ?_
                refine e_grd (inb_g h1 rfl) ?_
                refine e_wrA (fun T153 eT153 hT153 v153 => ?_)
                have hW153 := wo_6 hW148 ((rg_add 1 1 f151 (rgl (1) 1 1 rfl) rfl).sub rfl) eT153
                have hF153 := hF148.tr hT153 rfl
                refine e_wrO (fun T158 eT158 hT158 v158 => ?_)
                have hW158 := WR.st (k := 0) (i := 14) hW153 trivial rfl eT158
                have hF158 := hF153.tr hT158 rfl
                refine e_cV (t_M_forget hW158) (fun T163 p163 => ?_)
                obtain ⟨hW163, hT163⟩ := p163
                have hF163 := hF158.tr hT163 rfl
                exact e_some ⟨hW163, hF163, ((rgl (1) 1 1 rfl).sub rfl)⟩
              · refine e_eq (f_M_link_j164.eq_1 _) ?_
                refine e_cE (t_M_found hW ((rgl (9) 9 9 rfl).sub rfl)) (fun u169 T169 p169 => ?_)
                obtain ⟨hW169, hT169, hr169⟩ := p169
                have hF169 := hF.tr hT169 rfl
                exact e_some ⟨hW169, hF169, (hr169.sub rfl)⟩
            · refine e_some ?_
              refine e_i (fun q175 => ?_) (fun q175 => ?_)
              · have f176 := lt_l 2 (ro_6 hW _) (rgl (3) 3 3 rfl) q175 rfl
                refine e_grd (inb_g h0 rfl) ?_
                refine e_grd (inb_g (rg_add 0 143 (rg_mul 0 141 (rgl (3) 3 3 rfl) h0 rfl) f121 rfl) rfl) ?_
                refine e_wrA (fun T177 eT177 hT177 v177 => ?_)
                have hW177 := wo_7 hW h1 eT177
                have hF177 := hF.tr hT177 rfl
                have f179 := rg_tr f121 (hT177.1 6 _ rfl)
                have f181 := rg_tr f176 (hT177.1 6 _ rfl)
                refine e_grd (inb_g h0 rfl) ?_
                refine e_grd (inb_g (rg_add 0 143 (rg_mul 0 141 (rgl (3) 3 3 rfl) h0 rfl) f179 rfl) rfl) ?_
                refine e_wrA (fun T183 eT183 hT183 v183 => ?_)
                have hW183 := WR.st (k := 8) hW177 trivial rfl eT183
                have hF183 := hF177.tr hT183 rfl
                have f185 := rg_tr f179 (hT183.1 6 _ rfl)
                have f187 := rg_tr f181 (hT183.1 6 _ rfl)
                refine e_grd (inb_g h0 rfl) ?_
                refine e_grd (inb_g h0 rfl) ?_
                refine e_wrA (fun T188 eT188 hT188 v188 => ?_)
                have hW188 := wo_6 hW183 ((rg_add 1 3 f185 (rgl (1) 1 1 rfl) rfl).sub rfl) eT188
                have hF188 := hF183.tr hT188 rfl
                have f191 := rg_tr f187 (st_ix eT188 (hne q2) h0 h1 rfl)
                refine e_grd (inb_g h1 rfl) ?_
                refine e_grd (inb_g (rg_add 0 143 (rg_mul 0 141 (rgl (3) 3 3 rfl) h1 rfl) f191 rfl) rfl) ?_
                refine e_wrA (fun T193 eT193 hT193 v193 => ?_)
                have hW193 := wo_7 hW188 h0 eT193
                have hF193 := hF188.tr hT193 rfl
                have f196 := rg_tr f191 (hT193.1 6 _ rfl)
                refine e_grd (inb_g h1 rfl) ?_
                refine e_grd (inb_g (rg_add 0 143 (rg_mul 0 141 (rgl (3) 3 3 rfl) h1 rfl) f196 rfl) rfl) ?_
                refine e_wrA (fun T199 eT199 hT199 v199 => ?_)
                have hW199 := WR.st (k := 8) hW193 trivial rfl eT199
                have hF199 := hF193.tr hT199 rfl
                have f202 := rg_tr f196 (hT199.1 6 _ rfl)
                refine e_grd (inb_g h1 rfl) ?_
                refine e_grd (inb_g h1 rfl) ?_
                refine e_wrA (fun T204 eT204 hT204 v204 => ?_)
                have hW204 := wo_6 hW199 ((rg_add 1 3 f202 (rgl (1) 1 1 rfl) rfl).sub rfl) eT204
                have hF204 := hF199.tr hT204 rfl
                refine e_wrO (fun T209 eT209 hT209 v209 => ?_)
                have hW209 := WR.st (k := 0) (i := 14) hW204 trivial rfl eT209
                have hF209 := hF204.tr hT209 rfl
                refine e_cV (t_M_forget hW209) (fun T214 p214 => ?_)
                obtain ⟨hW214, hT214⟩ := p214
                have hF214 := hF209.tr hT214 rfl
                exact e_some ⟨hW214, hF214, ((rgl (1) 1 1 rfl).sub rfl)⟩
              · refine e_eq (f_M_link_j164.eq_1 _) ?_
                refine e_cE (t_M_found hW ((rgl (9) 9 9 rfl).sub rfl)) (fun u220 T220 p220 => ?_)
                obtain ⟨hW220, hT220, hr220⟩ := p220
                have hF220 := hF.tr hT220 rfl
                exact e_some ⟨hW220, hF220, (hr220.sub rfl)⟩
      · refine e_eq (f_M_link_j164.eq_1 _) ?_
        refine e_cE (t_M_found hW ((rgl (9) 9 9 rfl).sub rfl)) (fun u226 T226 p226 => ?_)
        obtain ⟨hW226, hT226, hr226⟩ := p226
        have hF226 := hF.tr hT226 rfl
        exact e_some ⟨hW226, hF226, (hr226.sub rfl)⟩
    · have f228 := nle_r 2 (ro_6 hW _) h3 q1 rfl
      refine e_i (fun q229 => ?_) (fun q229 => ?_)
      · refine e_grd (inb_g (rg_add 0 143 (rg_mul 0 141 (rgl (3) 3 3 rfl) h0 rfl) f228 rfl) rfl) ?_
        refine e_i (fun q231 => ?_) (fun q231 => ?_)
        · refine e_eq (f_M_link_j114.eq_1 _ _ _ _ _) ?_
          refine e_eq (f_M_link_j119.eq_1 _ _ _ _ _ _) ?_
          refine e_nmG (fun w232 hw232 => ?_)
          have f233 := rg_tr (rg_add 1 3 f228 (rgl (1) 1 1 rfl) rfl) hw232
          exact ih _ _ _ _ _ hW hF h0 h1 ((rgl (1) 1 1 rfl).sub rfl) (f233.sub rfl) (fun e => absurd e (by decide)) (up_s f228 hw232 hm rfl)
        · refine e_eq (f_M_link_j119.eq_1 _ _ _ _ _ _) ?_
          refine e_nmG (fun w234 hw234 => ?_)
          have f235 := rg_tr (rg_add 1 3 f228 (rgl (1) 1 1 rfl) rfl) hw234
          exact ih _ _ _ _ _ hW hF h0 h1 ((rgl (0) 0 0 rfl).sub rfl) (f235.sub rfl) (fun _ => hne q229) (up_s f228 hw234 hm rfl)
      · refine e_eq (f_M_link_j114.eq_1 _ _ _ _ _) ?_
        refine e_eq (f_M_link_j119.eq_1 _ _ _ _ _ _) ?_
        refine e_nmG (fun w237 hw237 => ?_)
        have f238 := rg_tr (rg_add 1 3 f228 (rgl (1) 1 1 rfl) rfl) hw237
        exact ih _ _ _ _ _ hW hF h0 h1 ((rgl (1) 1 1 rfl).sub rfl) (f238.sub rfl) (fun e => absurd e (by decide)) (up_s f228 hw237 hm rfl)
set_option maxRecDepth 20000 in
set_option maxHeartbeats 4000000 in
theorem t_M_link {a1 : Int32} {a2 : Int32} {a3 : Int32} {a4 : Int32} {S : SS} (hW : WR S) : Ex2 (f_M_link a1 a2 a3 a4 S) (fun r U => WR U ∧ Fr [1, 6, 7, 8] [(0, 0), (0, 1), (0, 2), (0, 3), (0, 5), (0, 14), (0, 60), (0, 61)] S U ∧ rg r (-2) 1) := by
  have hF : Fr [1, 6, 7, 8] [(0, 0), (0, 1), (0, 2), (0, 3), (0, 5), (0, 14), (0, 60), (0, 61)] S S := Fr.rf
  refine e_eq (f_M_link.eq_1 _ _ _ _ _) ?_
  refine e_bnd ?_
  refine e_eq (f_M_isSide.eq_1 _ _) ?_
  refine e_i (fun q1 => ?_) (fun q1 => ?_)
  · have f2 := rg_tr (rgl 0 0 0 rfl) q1
    refine e_some ?_
    refine e_f (by decide) ?_
    refine e_bnd ?_
    refine e_eq (f_M_isSide.eq_1 _ _) ?_
    refine e_i (fun q3 => ?_) (fun q3 => ?_)
    · have f4 := rg_tr (rgl 0 0 0 rfl) q3
      refine e_some ?_
      refine e_f (by decide) ?_
      refine e_cV (t_M_begin hW) (fun T5 p5 => ?_)
      obtain ⟨hW5, hT5⟩ := p5
      have hF5 := hF.tr hT5 rfl
      refine e_bnd ?_
      refine e_eq (f_M_missTrack.eq_1 _ _) ?_
      refine e_i (fun q6 => ?_) (fun q6 => ?_)
      · refine e_some ?_
        refine e_bnd ?_
        refine e_eq (f_M_ends.eq_1 _ _) ?_
        refine e_f (by decide) ?_
        refine e_cE (t_M_found hW5 ((rgl (3) 3 3 rfl).sub rfl)) (fun u8 T8 p8 => ?_)
        obtain ⟨hW8, hT8, hr8⟩ := p8
        have hF8 := hF5.tr hT8 rfl
        refine e_eq (f_M_ends_j10.eq_1 _ _) ?_
        refine e_f (by decide) ?_
        refine e_some ?_
        refine e_f (by decide) ?_
        exact e_some ⟨hW8, hF8, ((rgl (-2) (-2) (-2) rfl).sub rfl)⟩
      · have f9 := nlt_l (rgt _) (rgl 0 0 0 rfl) q6
        refine e_i (fun q10 => ?_) (fun q10 => ?_)
        · have f11 := lt_l 23 f9 (rgl (24) 24 24 rfl) q10 rfl
          refine e_i (fun q12 => ?_) (fun q12 => ?_)
          · refine e_some ?_
            refine e_bnd ?_
            refine e_eq (f_M_ends.eq_1 _ _) ?_
            refine e_t (by decide) ?_
            refine e_eq (f_M_ends_j10.eq_1 _ _) ?_
            refine e_t (by decide) ?_
            refine e_some ?_
            refine e_t (by decide) ?_
            refine e_bnd ?_
            refine e_eq (f_M_missTrack.eq_1 _ _) ?_
            refine e_i (fun q14 => ?_) (fun q14 => ?_)
            · refine e_some ?_
              refine e_bnd ?_
              refine e_eq (f_M_ends.eq_1 _ _) ?_
              refine e_f (by decide) ?_
              refine e_cE (t_M_found hW5 ((rgl (3) 3 3 rfl).sub rfl)) (fun u16 T16 p16 => ?_)
              obtain ⟨hW16, hT16, hr16⟩ := p16
              have hF16 := hF5.tr hT16 rfl
              refine e_eq (f_M_ends_j10.eq_1 _ _) ?_
              refine e_f (by decide) ?_
              refine e_some ?_
              refine e_f (by decide) ?_
              exact e_some ⟨hW16, hF16, ((rgl (-2) (-2) (-2) rfl).sub rfl)⟩
            · have f18 := nlt_l (rgt _) (rgl 0 0 0 rfl) q14
              refine e_i (fun q19 => ?_) (fun q19 => ?_)
              · have f20 := lt_l 23 f18 (rgl (24) 24 24 rfl) q19 rfl
                refine e_i (fun q21 => ?_) (fun q21 => ?_)
                · refine e_some ?_
                  refine e_bnd ?_
                  refine e_eq (f_M_ends.eq_1 _ _) ?_
                  refine e_t (by decide) ?_
                  refine e_eq (f_M_ends_j10.eq_1 _ _) ?_
                  refine e_t (by decide) ?_
                  refine e_some ?_
                  refine e_t (by decide) ?_
                  refine e_nmG (fun w22 hw22 => ?_)
                  have f23 := rg_tr (rg_add 0 46 (rg_mul 0 46 (rgl (2) 2 2 rfl) f11 rfl) f2 rfl) hw22
                  refine e_nmG (fun w24 hw24 => ?_)
                  have f25 := rg_tr (rg_add 0 46 (rg_mul 0 46 (rgl (2) 2 2 rfl) f20 rfl) f4 rfl) hw24
                  refine e_i (fun q26 => ?_) (fun q26 => ?_)
                  · refine e_eq (f_M_link_j75.eq_1 _ _ _ _) ?_
                    exact t_M_link_L80  NF _ _ _ _ _ hW5 hF5 (f23.sub rfl) (f25.sub rfl) ((rgl (1) 1 1 rfl).sub rfl) ((rgl (0) 0 0 rfl).sub rfl) (fun e => absurd e (by decide)) (up_n (rgl (0) 0 0 rfl) rfl)
                  · refine e_eq (f_M_link_j75.eq_1 _ _ _ _) ?_
                    exact t_M_link_L80  NF _ _ _ _ _ hW5 hF5 (f23.sub rfl) (f25.sub rfl) ((rgl (0) 0 0 rfl).sub rfl) ((rgl (0) 0 0 rfl).sub rfl) (fun _ => q26) (up_n (rgl (0) 0 0 rfl) rfl)
                · refine e_some ?_
                  refine e_bnd ?_
                  refine e_eq (f_M_ends.eq_1 _ _) ?_
                  refine e_f (by decide) ?_
                  refine e_cE (t_M_found hW5 ((rgl (1) 1 1 rfl).sub rfl)) (fun u29 T29 p29 => ?_)
                  obtain ⟨hW29, hT29, hr29⟩ := p29
                  have hF29 := hF5.tr hT29 rfl
                  refine e_eq (f_M_ends_j10.eq_1 _ _) ?_
                  refine e_f (by decide) ?_
                  refine e_some ?_
                  refine e_f (by decide) ?_
                  exact e_some ⟨hW29, hF29, ((rgl (-2) (-2) (-2) rfl).sub rfl)⟩
              · refine e_some ?_
                refine e_bnd ?_
                refine e_eq (f_M_ends.eq_1 _ _) ?_
                refine e_f (by decide) ?_
                refine e_cE (t_M_found hW5 ((rgl (3) 3 3 rfl).sub rfl)) (fun u32 T32 p32 => ?_)
                obtain ⟨hW32, hT32, hr32⟩ := p32
                have hF32 := hF5.tr hT32 rfl
                refine e_eq (f_M_ends_j10.eq_1 _ _) ?_
                refine e_f (by decide) ?_
                refine e_some ?_
                refine e_f (by decide) ?_
                exact e_some ⟨hW32, hF32, ((rgl (-2) (-2) (-2) rfl).sub rfl)⟩
          · refine e_some ?_
            refine e_bnd ?_
            refine e_eq (f_M_ends.eq_1 _ _) ?_
            refine e_f (by decide) ?_
            refine e_cE (t_M_found hW5 ((rgl (1) 1 1 rfl).sub rfl)) (fun u35 T35 p35 => ?_)
            obtain ⟨hW35, hT35, hr35⟩ := p35
            have hF35 := hF5.tr hT35 rfl
            refine e_eq (f_M_ends_j10.eq_1 _ _) ?_
            refine e_f (by decide) ?_
            refine e_some ?_
            refine e_f (by decide) ?_
            exact e_some ⟨hW35, hF35, ((rgl (-2) (-2) (-2) rfl).sub rfl)⟩
        · refine e_some ?_
          refine e_bnd ?_
          refine e_eq (f_M_ends.eq_1 _ _) ?_
          refine e_f (by decide) ?_
          refine e_cE (t_M_found hW5 ((rgl (3) 3 3 rfl).sub rfl)) (fun u38 T38 p38 => ?_)
          obtain ⟨hW38, hT38, hr38⟩ := p38
          have hF38 := hF5.tr hT38 rfl
          refine e_eq (f_M_ends_j10.eq_1 _ _) ?_
          refine e_f (by decide) ?_
          refine e_some ?_
          refine e_f (by decide) ?_
          exact e_some ⟨hW38, hF38, ((rgl (-2) (-2) (-2) rfl).sub rfl)⟩
    · refine e_i (fun q39 => ?_) (fun q39 => ?_)
      · have f40 := rg_tr (rgl (1) 1 1 rfl) q39
        refine e_some ?_
        refine e_f (by decide) ?_
        refine e_cV (t_M_begin hW) (fun T41 p41 => ?_)
        obtain ⟨hW41, hT41⟩ := p41
        have hF41 := hF.tr hT41 rfl
        refine e_bnd ?_
        refine e_eq (f_M_missTrack.eq_1 _ _) ?_
        refine e_i (fun q42 => ?_) (fun q42 => ?_)
        · refine e_some ?_
          refine e_bnd ?_
          refine e_eq (f_M_ends.eq_1 _ _) ?_
          refine e_f (by decide) ?_
          refine e_cE (t_M_found hW41 ((rgl (3) 3 3 rfl).sub rfl)) (fun u44 T44 p44 => ?_)
          obtain ⟨hW44, hT44, hr44⟩ := p44
          have hF44 := hF41.tr hT44 rfl
          refine e_eq (f_M_ends_j10.eq_1 _ _) ?_
          refine e_f (by decide) ?_
          refine e_some ?_
          refine e_f (by decide) ?_
          exact e_some ⟨hW44, hF44, ((rgl (-2) (-2) (-2) rfl).sub rfl)⟩
        · have f45 := nlt_l (rgt _) (rgl 0 0 0 rfl) q42
          refine e_i (fun q46 => ?_) (fun q46 => ?_)
          · have f47 := lt_l 23 f45 (rgl (24) 24 24 rfl) q46 rfl
            refine e_i (fun q48 => ?_) (fun q48 => ?_)
            · refine e_some ?_
              refine e_bnd ?_
              refine e_eq (f_M_ends.eq_1 _ _) ?_
              refine e_t (by decide) ?_
              refine e_eq (f_M_ends_j10.eq_1 _ _) ?_
              refine e_t (by decide) ?_
              refine e_some ?_
              refine e_t (by decide) ?_
              refine e_bnd ?_
              refine e_eq (f_M_missTrack.eq_1 _ _) ?_
              refine e_i (fun q50 => ?_) (fun q50 => ?_)
              · refine e_some ?_
                refine e_bnd ?_
                refine e_eq (f_M_ends.eq_1 _ _) ?_
                refine e_f (by decide) ?_
                refine e_cE (t_M_found hW41 ((rgl (3) 3 3 rfl).sub rfl)) (fun u52 T52 p52 => ?_)
                obtain ⟨hW52, hT52, hr52⟩ := p52
                have hF52 := hF41.tr hT52 rfl
                refine e_eq (f_M_ends_j10.eq_1 _ _) ?_
                refine e_f (by decide) ?_
                refine e_some ?_
                refine e_f (by decide) ?_
                exact e_some ⟨hW52, hF52, ((rgl (-2) (-2) (-2) rfl).sub rfl)⟩
              · have f54 := nlt_l (rgt _) (rgl 0 0 0 rfl) q50
                refine e_i (fun q55 => ?_) (fun q55 => ?_)
                · have f56 := lt_l 23 f54 (rgl (24) 24 24 rfl) q55 rfl
                  refine e_i (fun q57 => ?_) (fun q57 => ?_)
                  · refine e_some ?_
                    refine e_bnd ?_
                    refine e_eq (f_M_ends.eq_1 _ _) ?_
                    refine e_t (by decide) ?_
                    refine e_eq (f_M_ends_j10.eq_1 _ _) ?_
                    refine e_t (by decide) ?_
                    refine e_some ?_
                    refine e_t (by decide) ?_
                    refine e_nmG (fun w58 hw58 => ?_)
                    have f59 := rg_tr (rg_add 0 46 (rg_mul 0 46 (rgl (2) 2 2 rfl) f47 rfl) f2 rfl) hw58
                    refine e_nmG (fun w60 hw60 => ?_)
                    have f61 := rg_tr (rg_add 1 47 (rg_mul 0 46 (rgl (2) 2 2 rfl) f56 rfl) f40 rfl) hw60
                    refine e_i (fun q62 => ?_) (fun q62 => ?_)
                    · refine e_eq (f_M_link_j75.eq_1 _ _ _ _) ?_
                      exact t_M_link_L80  NF _ _ _ _ _ hW41 hF41 (f59.sub rfl) (f61.sub rfl) ((rgl (1) 1 1 rfl).sub rfl) ((rgl (0) 0 0 rfl).sub rfl) (fun e => absurd e (by decide)) (up_n (rgl (0) 0 0 rfl) rfl)
                    · refine e_eq (f_M_link_j75.eq_1 _ _ _ _) ?_
                      exact t_M_link_L80  NF _ _ _ _ _ hW41 hF41 (f59.sub rfl) (f61.sub rfl) ((rgl (0) 0 0 rfl).sub rfl) ((rgl (0) 0 0 rfl).sub rfl) (fun _ => q62) (up_n (rgl (0) 0 0 rfl) rfl)
                  · refine e_some ?_
                    refine e_bnd ?_
                    refine e_eq (f_M_ends.eq_1 _ _) ?_
                    refine e_f (by decide) ?_
                    refine e_cE (t_M_found hW41 ((rgl (1) 1 1 rfl).sub rfl)) (fun u65 T65 p65 => ?_)
                    obtain ⟨hW65, hT65, hr65⟩ := p65
                    have hF65 := hF41.tr hT65 rfl
                    refine e_eq (f_M_ends_j10.eq_1 _ _) ?_
                    refine e_f (by decide) ?_
                    refine e_some ?_
                    refine e_f (by decide) ?_
                    exact e_some ⟨hW65, hF65, ((rgl (-2) (-2) (-2) rfl).sub rfl)⟩
                · refine e_some ?_
                  refine e_bnd ?_
                  refine e_eq (f_M_ends.eq_1 _ _) ?_
                  refine e_f (by decide) ?_
                  refine e_cE (t_M_found hW41 ((rgl (3) 3 3 rfl).sub rfl)) (fun u68 T68 p68 => ?_)
                  obtain ⟨hW68, hT68, hr68⟩ := p68
                  have hF68 := hF41.tr hT68 rfl
                  refine e_eq (f_M_ends_j10.eq_1 _ _) ?_
                  refine e_f (by decide) ?_
                  refine e_some ?_
                  refine e_f (by decide) ?_
                  exact e_some ⟨hW68, hF68, ((rgl (-2) (-2) (-2) rfl).sub rfl)⟩
            · refine e_some ?_
              refine e_bnd ?_
              refine e_eq (f_M_ends.eq_1 _ _) ?_
              refine e_f (by decide) ?_
              refine e_cE (t_M_found hW41 ((rgl (1) 1 1 rfl).sub rfl)) (fun u71 T71 p71 => ?_)
              obtain ⟨hW71, hT71, hr71⟩ := p71
              have hF71 := hF41.tr hT71 rfl
              refine e_eq (f_M_ends_j10.eq_1 _ _) ?_
              refine e_f (by decide) ?_
              refine e_some ?_
              refine e_f (by decide) ?_
              exact e_some ⟨hW71, hF71, ((rgl (-2) (-2) (-2) rfl).sub rfl)⟩
          · refine e_some ?_
            refine e_bnd ?_
            refine e_eq (f_M_ends.eq_1 _ _) ?_
            refine e_f (by decide) ?_
            refine e_cE (t_M_found hW41 ((rgl (3) 3 3 rfl).sub rfl)) (fun u74 T74 p74 => ?_)
            obtain ⟨hW74, hT74, hr74⟩ := p74
            have hF74 := hF41.tr hT74 rfl
            refine e_eq (f_M_ends_j10.eq_1 _ _) ?_
            refine e_f (by decide) ?_
            refine e_some ?_
            refine e_f (by decide) ?_
            exact e_some ⟨hW74, hF74, ((rgl (-2) (-2) (-2) rfl).sub rfl)⟩
      · refine e_some ?_
        refine e_t (by decide) ?_
        exact e_some ⟨hW, hF, ((rgl (-1) (-1) (-1) rfl).sub rfl)⟩
  · refine e_i (fun q75 => ?_) (fun q75 => ?_)
    · have f76 := rg_tr (rgl (1) 1 1 rfl) q75
      refine e_some ?_
      refine e_f (by decide) ?_
      refine e_bnd ?_
      refine e_eq (f_M_isSide.eq_1 _ _) ?_
      refine e_i (fun q77 => ?_) (fun q77 => ?_)
      · have f78 := rg_tr (rgl 0 0 0 rfl) q77
        refine e_some ?_
        refine e_f (by decide) ?_
        refine e_cV (t_M_begin hW) (fun T79 p79 => ?_)
        obtain ⟨hW79, hT79⟩ := p79
        have hF79 := hF.tr hT79 rfl
        refine e_bnd ?_
        refine e_eq (f_M_missTrack.eq_1 _ _) ?_
        refine e_i (fun q80 => ?_) (fun q80 => ?_)
        · refine e_some ?_
          refine e_bnd ?_
          refine e_eq (f_M_ends.eq_1 _ _) ?_
          refine e_f (by decide) ?_
          refine e_cE (t_M_found hW79 ((rgl (3) 3 3 rfl).sub rfl)) (fun u82 T82 p82 => ?_)
          obtain ⟨hW82, hT82, hr82⟩ := p82
          have hF82 := hF79.tr hT82 rfl
          refine e_eq (f_M_ends_j10.eq_1 _ _) ?_
          refine e_f (by decide) ?_
          refine e_some ?_
          refine e_f (by decide) ?_
          exact e_some ⟨hW82, hF82, ((rgl (-2) (-2) (-2) rfl).sub rfl)⟩
        · have f83 := nlt_l (rgt _) (rgl 0 0 0 rfl) q80
          refine e_i (fun q84 => ?_) (fun q84 => ?_)
          · have f85 := lt_l 23 f83 (rgl (24) 24 24 rfl) q84 rfl
            refine e_i (fun q86 => ?_) (fun q86 => ?_)
            · refine e_some ?_
              refine e_bnd ?_
              refine e_eq (f_M_ends.eq_1 _ _) ?_
              refine e_t (by decide) ?_
              refine e_eq (f_M_ends_j10.eq_1 _ _) ?_
              refine e_t (by decide) ?_
              refine e_some ?_
              refine e_t (by decide) ?_
              refine e_bnd ?_
              refine e_eq (f_M_missTrack.eq_1 _ _) ?_
              refine e_i (fun q88 => ?_) (fun q88 => ?_)
              · refine e_some ?_
                refine e_bnd ?_
                refine e_eq (f_M_ends.eq_1 _ _) ?_
                refine e_f (by decide) ?_
                refine e_cE (t_M_found hW79 ((rgl (3) 3 3 rfl).sub rfl)) (fun u90 T90 p90 => ?_)
                obtain ⟨hW90, hT90, hr90⟩ := p90
                have hF90 := hF79.tr hT90 rfl
                refine e_eq (f_M_ends_j10.eq_1 _ _) ?_
                refine e_f (by decide) ?_
                refine e_some ?_
                refine e_f (by decide) ?_
                exact e_some ⟨hW90, hF90, ((rgl (-2) (-2) (-2) rfl).sub rfl)⟩
              · have f92 := nlt_l (rgt _) (rgl 0 0 0 rfl) q88
                refine e_i (fun q93 => ?_) (fun q93 => ?_)
                · have f94 := lt_l 23 f92 (rgl (24) 24 24 rfl) q93 rfl
                  refine e_i (fun q95 => ?_) (fun q95 => ?_)
                  · refine e_some ?_
                    refine e_bnd ?_
                    refine e_eq (f_M_ends.eq_1 _ _) ?_
                    refine e_t (by decide) ?_
                    refine e_eq (f_M_ends_j10.eq_1 _ _) ?_
                    refine e_t (by decide) ?_
                    refine e_some ?_
                    refine e_t (by decide) ?_
                    refine e_nmG (fun w96 hw96 => ?_)
                    have f97 := rg_tr (rg_add 1 47 (rg_mul 0 46 (rgl (2) 2 2 rfl) f85 rfl) f76 rfl) hw96
                    refine e_nmG (fun w98 hw98 => ?_)
                    have f99 := rg_tr (rg_add 0 46 (rg_mul 0 46 (rgl (2) 2 2 rfl) f94 rfl) f78 rfl) hw98
                    refine e_i (fun q100 => ?_) (fun q100 => ?_)
                    · refine e_eq (f_M_link_j75.eq_1 _ _ _ _) ?_
                      exact t_M_link_L80  NF _ _ _ _ _ hW79 hF79 (f97.sub rfl) (f99.sub rfl) ((rgl (1) 1 1 rfl).sub rfl) ((rgl (0) 0 0 rfl).sub rfl) (fun e => absurd e (by decide)) (up_n (rgl (0) 0 0 rfl) rfl)
                    · refine e_eq (f_M_link_j75.eq_1 _ _ _ _) ?_
                      exact t_M_link_L80  NF _ _ _ _ _ hW79 hF79 (f97.sub rfl) (f99.sub rfl) ((rgl (0) 0 0 rfl).sub rfl) ((rgl (0) 0 0 rfl).sub rfl) (fun _ => q100) (up_n (rgl (0) 0 0 rfl) rfl)
                  · refine e_some ?_
                    refine e_bnd ?_
                    refine e_eq (f_M_ends.eq_1 _ _) ?_
                    refine e_f (by decide) ?_
                    refine e_cE (t_M_found hW79 ((rgl (1) 1 1 rfl).sub rfl)) (fun u103 T103 p103 => ?_)
                    obtain ⟨hW103, hT103, hr103⟩ := p103
                    have hF103 := hF79.tr hT103 rfl
                    refine e_eq (f_M_ends_j10.eq_1 _ _) ?_
                    refine e_f (by decide) ?_
                    refine e_some ?_
                    refine e_f (by decide) ?_
                    exact e_some ⟨hW103, hF103, ((rgl (-2) (-2) (-2) rfl).sub rfl)⟩
                · refine e_some ?_
                  refine e_bnd ?_
                  refine e_eq (f_M_ends.eq_1 _ _) ?_
                  refine e_f (by decide) ?_
                  refine e_cE (t_M_found hW79 ((rgl (3) 3 3 rfl).sub rfl)) (fun u106 T106 p106 => ?_)
                  obtain ⟨hW106, hT106, hr106⟩ := p106
                  have hF106 := hF79.tr hT106 rfl
                  refine e_eq (f_M_ends_j10.eq_1 _ _) ?_
                  refine e_f (by decide) ?_
                  refine e_some ?_
                  refine e_f (by decide) ?_
                  exact e_some ⟨hW106, hF106, ((rgl (-2) (-2) (-2) rfl).sub rfl)⟩
            · refine e_some ?_
              refine e_bnd ?_
              refine e_eq (f_M_ends.eq_1 _ _) ?_
              refine e_f (by decide) ?_
              refine e_cE (t_M_found hW79 ((rgl (1) 1 1 rfl).sub rfl)) (fun u109 T109 p109 => ?_)
              obtain ⟨hW109, hT109, hr109⟩ := p109
              have hF109 := hF79.tr hT109 rfl
              refine e_eq (f_M_ends_j10.eq_1 _ _) ?_
              refine e_f (by decide) ?_
              refine e_some ?_
              refine e_f (by decide) ?_
              exact e_some ⟨hW109, hF109, ((rgl (-2) (-2) (-2) rfl).sub rfl)⟩
          · refine e_some ?_
            refine e_bnd ?_
            refine e_eq (f_M_ends.eq_1 _ _) ?_
            refine e_f (by decide) ?_
            refine e_cE (t_M_found hW79 ((rgl (3) 3 3 rfl).sub rfl)) (fun u112 T112 p112 => ?_)
            obtain ⟨hW112, hT112, hr112⟩ := p112
            have hF112 := hF79.tr hT112 rfl
            refine e_eq (f_M_ends_j10.eq_1 _ _) ?_
            refine e_f (by decide) ?_
            refine e_some ?_
            refine e_f (by decide) ?_
            exact e_some ⟨hW112, hF112, ((rgl (-2) (-2) (-2) rfl).sub rfl)⟩
      · refine e_i (fun q113 => ?_) (fun q113 => ?_)
        · have f114 := rg_tr (rgl (1) 1 1 rfl) q113
          refine e_some ?_
          refine e_f (by decide) ?_
          refine e_cV (t_M_begin hW) (fun T115 p115 => ?_)
          obtain ⟨hW115, hT115⟩ := p115
          have hF115 := hF.tr hT115 rfl
          refine e_bnd ?_
          refine e_eq (f_M_missTrack.eq_1 _ _) ?_
          refine e_i (fun q116 => ?_) (fun q116 => ?_)
          · refine e_some ?_
            refine e_bnd ?_
            refine e_eq (f_M_ends.eq_1 _ _) ?_
            refine e_f (by decide) ?_
            refine e_cE (t_M_found hW115 ((rgl (3) 3 3 rfl).sub rfl)) (fun u118 T118 p118 => ?_)
            obtain ⟨hW118, hT118, hr118⟩ := p118
            have hF118 := hF115.tr hT118 rfl
            refine e_eq (f_M_ends_j10.eq_1 _ _) ?_
            refine e_f (by decide) ?_
            refine e_some ?_
            refine e_f (by decide) ?_
            exact e_some ⟨hW118, hF118, ((rgl (-2) (-2) (-2) rfl).sub rfl)⟩
          · have f119 := nlt_l (rgt _) (rgl 0 0 0 rfl) q116
            refine e_i (fun q120 => ?_) (fun q120 => ?_)
            · have f121 := lt_l 23 f119 (rgl (24) 24 24 rfl) q120 rfl
              refine e_i (fun q122 => ?_) (fun q122 => ?_)
              · refine e_some ?_
                refine e_bnd ?_
                refine e_eq (f_M_ends.eq_1 _ _) ?_
                refine e_t (by decide) ?_
                refine e_eq (f_M_ends_j10.eq_1 _ _) ?_
                refine e_t (by decide) ?_
                refine e_some ?_
                refine e_t (by decide) ?_
                refine e_bnd ?_
                refine e_eq (f_M_missTrack.eq_1 _ _) ?_
                refine e_i (fun q124 => ?_) (fun q124 => ?_)
                · refine e_some ?_
                  refine e_bnd ?_
                  refine e_eq (f_M_ends.eq_1 _ _) ?_
                  refine e_f (by decide) ?_
                  refine e_cE (t_M_found hW115 ((rgl (3) 3 3 rfl).sub rfl)) (fun u126 T126 p126 => ?_)
                  obtain ⟨hW126, hT126, hr126⟩ := p126
                  have hF126 := hF115.tr hT126 rfl
                  refine e_eq (f_M_ends_j10.eq_1 _ _) ?_
                  refine e_f (by decide) ?_
                  refine e_some ?_
                  refine e_f (by decide) ?_
                  exact e_some ⟨hW126, hF126, ((rgl (-2) (-2) (-2) rfl).sub rfl)⟩
                · have f128 := nlt_l (rgt _) (rgl 0 0 0 rfl) q124
                  refine e_i (fun q129 => ?_) (fun q129 => ?_)
                  · have f130 := lt_l 23 f128 (rgl (24) 24 24 rfl) q129 rfl
                    refine e_i (fun q131 => ?_) (fun q131 => ?_)
                    · refine e_some ?_
                      refine e_bnd ?_
                      refine e_eq (f_M_ends.eq_1 _ _) ?_
                      refine e_t (by decide) ?_
                      refine e_eq (f_M_ends_j10.eq_1 _ _) ?_
                      refine e_t (by decide) ?_
                      refine e_some ?_
                      refine e_t (by decide) ?_
                      refine e_nmG (fun w132 hw132 => ?_)
                      have f133 := rg_tr (rg_add 1 47 (rg_mul 0 46 (rgl (2) 2 2 rfl) f121 rfl) f76 rfl) hw132
                      refine e_nmG (fun w134 hw134 => ?_)
                      have f135 := rg_tr (rg_add 1 47 (rg_mul 0 46 (rgl (2) 2 2 rfl) f130 rfl) f114 rfl) hw134
                      refine e_i (fun q136 => ?_) (fun q136 => ?_)
                      · refine e_eq (f_M_link_j75.eq_1 _ _ _ _) ?_
                        exact t_M_link_L80  NF _ _ _ _ _ hW115 hF115 (f133.sub rfl) (f135.sub rfl) ((rgl (1) 1 1 rfl).sub rfl) ((rgl (0) 0 0 rfl).sub rfl) (fun e => absurd e (by decide)) (up_n (rgl (0) 0 0 rfl) rfl)
                      · refine e_eq (f_M_link_j75.eq_1 _ _ _ _) ?_
                        exact t_M_link_L80  NF _ _ _ _ _ hW115 hF115 (f133.sub rfl) (f135.sub rfl) ((rgl (0) 0 0 rfl).sub rfl) ((rgl (0) 0 0 rfl).sub rfl) (fun _ => q136) (up_n (rgl (0) 0 0 rfl) rfl)
                    · refine e_some ?_
                      refine e_bnd ?_
                      refine e_eq (f_M_ends.eq_1 _ _) ?_
                      refine e_f (by decide) ?_
                      refine e_cE (t_M_found hW115 ((rgl (1) 1 1 rfl).sub rfl)) (fun u139 T139 p139 => ?_)
                      obtain ⟨hW139, hT139, hr139⟩ := p139
                      have hF139 := hF115.tr hT139 rfl
                      refine e_eq (f_M_ends_j10.eq_1 _ _) ?_
                      refine e_f (by decide) ?_
                      refine e_some ?_
                      refine e_f (by decide) ?_
                      exact e_some ⟨hW139, hF139, ((rgl (-2) (-2) (-2) rfl).sub rfl)⟩
                  · refine e_some ?_
                    refine e_bnd ?_
                    refine e_eq (f_M_ends.eq_1 _ _) ?_
                    refine e_f (by decide) ?_
                    refine e_cE (t_M_found hW115 ((rgl (3) 3 3 rfl).sub rfl)) (fun u142 T142 p142 => ?_)
                    obtain ⟨hW142, hT142, hr142⟩ := p142
                    have hF142 := hF115.tr hT142 rfl
                    refine e_eq (f_M_ends_j10.eq_1 _ _) ?_
                    refine e_f (by decide) ?_
                    refine e_some ?_
                    refine e_f (by decide) ?_
                    exact e_some ⟨hW142, hF142, ((rgl (-2) (-2) (-2) rfl).sub rfl)⟩
              · refine e_some ?_
                refine e_bnd ?_
                refine e_eq (f_M_ends.eq_1 _ _) ?_
                refine e_f (by decide) ?_
                refine e_cE (t_M_found hW115 ((rgl (1) 1 1 rfl).sub rfl)) (fun u145 T145 p145 => ?_)
                obtain ⟨hW145, hT145, hr145⟩ := p145
                have hF145 := hF115.tr hT145 rfl
                refine e_eq (f_M_ends_j10.eq_1 _ _) ?_
                refine e_f (by decide) ?_
                refine e_some ?_
                refine e_f (by decide) ?_
                exact e_some ⟨hW145, hF145, ((rgl (-2) (-2) (-2) rfl).sub rfl)⟩
            · refine e_some ?_
              refine e_bnd ?_
              refine e_eq (f_M_ends.eq_1 _ _) ?_
              refine e_f (by decide) ?_
              refine e_cE (t_M_found hW115 ((rgl (3) 3 3 rfl).sub rfl)) (fun u148 T148 p148 => ?_)
              obtain ⟨hW148, hT148, hr148⟩ := p148
              have hF148 := hF115.tr hT148 rfl
              refine e_eq (f_M_ends_j10.eq_1 _ _) ?_
              refine e_f (by decide) ?_
              refine e_some ?_
              refine e_f (by decide) ?_
              exact e_some ⟨hW148, hF148, ((rgl (-2) (-2) (-2) rfl).sub rfl)⟩
        · refine e_some ?_
          refine e_t (by decide) ?_
          exact e_some ⟨hW, hF, ((rgl (-1) (-1) (-1) rfl).sub rfl)⟩
    · refine e_some ?_
      refine e_t (by decide) ?_
      exact e_some ⟨hW, hF, ((rgl (-1) (-1) (-1) rfl).sub rfl)⟩
set_option maxRecDepth 20000 in
set_option maxHeartbeats 4000000 in
theorem t_M_exit {a1 : Int32} {a2 : Int32} {a3 : Int32} {S : SS} (hW : WR S) : Ex2 (f_M_exit a1 a2 a3 S) (fun r U => WR U ∧ Fr [1, 4] [(0, 0), (0, 1), (0, 2), (0, 3), (0, 5), (0, 60), (0, 61)] S U ∧ rg r (-2) 1) := by
  have hF : Fr [1, 4] [(0, 0), (0, 1), (0, 2), (0, 3), (0, 5), (0, 60), (0, 61)] S S := Fr.rf
  refine e_eq (f_M_exit.eq_1 _ _ _ _) ?_
  refine e_bnd ?_
  refine e_eq (f_M_isSide.eq_1 _ _) ?_
  refine e_i (fun q1 => ?_) (fun q1 => ?_)
  · have f2 := rg_tr (rgl 0 0 0 rfl) q1
    refine e_some ?_
    refine e_f (by decide) ?_
    refine e_cV (t_M_begin hW) (fun T3 p3 => ?_)
    obtain ⟨hW3, hT3⟩ := p3
    have hF3 := hF.tr hT3 rfl
    refine e_bnd ?_
    refine e_eq (f_M_missTrack.eq_1 _ _) ?_
    refine e_i (fun q4 => ?_) (fun q4 => ?_)
    · refine e_some ?_
      refine e_bnd ?_
      refine e_eq (f_M_ends.eq_1 _ _) ?_
      refine e_f (by decide) ?_
      refine e_cE (t_M_found hW3 ((rgl (3) 3 3 rfl).sub rfl)) (fun u6 T6 p6 => ?_)
      obtain ⟨hW6, hT6, hr6⟩ := p6
      have hF6 := hF3.tr hT6 rfl
      refine e_eq (f_M_ends_j10.eq_1 _ _) ?_
      refine e_f (by decide) ?_
      refine e_some ?_
      refine e_f (by decide) ?_
      exact e_some ⟨hW6, hF6, ((rgl (-2) (-2) (-2) rfl).sub rfl)⟩
    · have f7 := nlt_l (rgt _) (rgl 0 0 0 rfl) q4
      refine e_i (fun q8 => ?_) (fun q8 => ?_)
      · have f9 := lt_l 23 f7 (rgl (24) 24 24 rfl) q8 rfl
        refine e_i (fun q10 => ?_) (fun q10 => ?_)
        · refine e_some ?_
          refine e_bnd ?_
          refine e_eq (f_M_ends.eq_1 _ _) ?_
          refine e_t (by decide) ?_
          refine e_eq (f_M_ends_j10.eq_1 _ _) ?_
          refine e_t (by decide) ?_
          refine e_some ?_
          refine e_t (by decide) ?_
          refine e_grd (inb_g (rg_add 0 46 (rg_mul 0 46 (rgl (2) 2 2 rfl) f9 rfl) f2 rfl) rfl) ?_
          refine e_i (fun q12 => ?_) (fun q12 => ?_)
          · refine e_eq (f_M_exit_j46.eq_1 _ _ _ _ _) ?_
            refine e_grd (inb_g (rg_add 0 46 (rg_mul 0 46 (rgl (2) 2 2 rfl) f9 rfl) f2 rfl) rfl) ?_
            refine e_wrA (fun T14 eT14 hT14 v14 => ?_)
            have hW14 := wo_4 hW3 (and1 _) eT14
            have hF14 := hF3.tr hT14 rfl
            refine e_cV (t_M_forget hW14) (fun T17 p17 => ?_)
            obtain ⟨hW17, hT17⟩ := p17
            have hF17 := hF14.tr hT17 rfl
            exact e_some ⟨hW17, hF17, ((rgl (0) 0 0 rfl).sub rfl)⟩
          · refine e_eq (f_M_exit_j46.eq_1 _ _ _ _ _) ?_
            refine e_grd (inb_g (rg_add 0 46 (rg_mul 0 46 (rgl (2) 2 2 rfl) f9 rfl) f2 rfl) rfl) ?_
            refine e_wrA (fun T21 eT21 hT21 v21 => ?_)
            have hW21 := wo_4 hW3 (and1 _) eT21
            have hF21 := hF3.tr hT21 rfl
            refine e_cV (t_M_forget hW21) (fun T24 p24 => ?_)
            obtain ⟨hW24, hT24⟩ := p24
            have hF24 := hF21.tr hT24 rfl
            exact e_some ⟨hW24, hF24, ((rgl (1) 1 1 rfl).sub rfl)⟩
        · refine e_some ?_
          refine e_bnd ?_
          refine e_eq (f_M_ends.eq_1 _ _) ?_
          refine e_f (by decide) ?_
          refine e_cE (t_M_found hW3 ((rgl (1) 1 1 rfl).sub rfl)) (fun u28 T28 p28 => ?_)
          obtain ⟨hW28, hT28, hr28⟩ := p28
          have hF28 := hF3.tr hT28 rfl
          refine e_eq (f_M_ends_j10.eq_1 _ _) ?_
          refine e_f (by decide) ?_
          refine e_some ?_
          refine e_f (by decide) ?_
          exact e_some ⟨hW28, hF28, ((rgl (-2) (-2) (-2) rfl).sub rfl)⟩
      · refine e_some ?_
        refine e_bnd ?_
        refine e_eq (f_M_ends.eq_1 _ _) ?_
        refine e_f (by decide) ?_
        refine e_cE (t_M_found hW3 ((rgl (3) 3 3 rfl).sub rfl)) (fun u31 T31 p31 => ?_)
        obtain ⟨hW31, hT31, hr31⟩ := p31
        have hF31 := hF3.tr hT31 rfl
        refine e_eq (f_M_ends_j10.eq_1 _ _) ?_
        refine e_f (by decide) ?_
        refine e_some ?_
        refine e_f (by decide) ?_
        exact e_some ⟨hW31, hF31, ((rgl (-2) (-2) (-2) rfl).sub rfl)⟩
  · refine e_i (fun q32 => ?_) (fun q32 => ?_)
    · have f33 := rg_tr (rgl (1) 1 1 rfl) q32
      refine e_some ?_
      refine e_f (by decide) ?_
      refine e_cV (t_M_begin hW) (fun T34 p34 => ?_)
      obtain ⟨hW34, hT34⟩ := p34
      have hF34 := hF.tr hT34 rfl
      refine e_bnd ?_
      refine e_eq (f_M_missTrack.eq_1 _ _) ?_
      refine e_i (fun q35 => ?_) (fun q35 => ?_)
      · refine e_some ?_
        refine e_bnd ?_
        refine e_eq (f_M_ends.eq_1 _ _) ?_
        refine e_f (by decide) ?_
        refine e_cE (t_M_found hW34 ((rgl (3) 3 3 rfl).sub rfl)) (fun u37 T37 p37 => ?_)
        obtain ⟨hW37, hT37, hr37⟩ := p37
        have hF37 := hF34.tr hT37 rfl
        refine e_eq (f_M_ends_j10.eq_1 _ _) ?_
        refine e_f (by decide) ?_
        refine e_some ?_
        refine e_f (by decide) ?_
        exact e_some ⟨hW37, hF37, ((rgl (-2) (-2) (-2) rfl).sub rfl)⟩
      · have f38 := nlt_l (rgt _) (rgl 0 0 0 rfl) q35
        refine e_i (fun q39 => ?_) (fun q39 => ?_)
        · have f40 := lt_l 23 f38 (rgl (24) 24 24 rfl) q39 rfl
          refine e_i (fun q41 => ?_) (fun q41 => ?_)
          · refine e_some ?_
            refine e_bnd ?_
            refine e_eq (f_M_ends.eq_1 _ _) ?_
            refine e_t (by decide) ?_
            refine e_eq (f_M_ends_j10.eq_1 _ _) ?_
            refine e_t (by decide) ?_
            refine e_some ?_
            refine e_t (by decide) ?_
            refine e_grd (inb_g (rg_add 1 47 (rg_mul 0 46 (rgl (2) 2 2 rfl) f40 rfl) f33 rfl) rfl) ?_
            refine e_i (fun q43 => ?_) (fun q43 => ?_)
            · refine e_eq (f_M_exit_j46.eq_1 _ _ _ _ _) ?_
              refine e_grd (inb_g (rg_add 1 47 (rg_mul 0 46 (rgl (2) 2 2 rfl) f40 rfl) f33 rfl) rfl) ?_
              refine e_wrA (fun T45 eT45 hT45 v45 => ?_)
              have hW45 := wo_4 hW34 (and1 _) eT45
              have hF45 := hF34.tr hT45 rfl
              refine e_cV (t_M_forget hW45) (fun T48 p48 => ?_)
              obtain ⟨hW48, hT48⟩ := p48
              have hF48 := hF45.tr hT48 rfl
              exact e_some ⟨hW48, hF48, ((rgl (0) 0 0 rfl).sub rfl)⟩
            · refine e_eq (f_M_exit_j46.eq_1 _ _ _ _ _) ?_
              refine e_grd (inb_g (rg_add 1 47 (rg_mul 0 46 (rgl (2) 2 2 rfl) f40 rfl) f33 rfl) rfl) ?_
              refine e_wrA (fun T52 eT52 hT52 v52 => ?_)
              have hW52 := wo_4 hW34 (and1 _) eT52
              have hF52 := hF34.tr hT52 rfl
              refine e_cV (t_M_forget hW52) (fun T55 p55 => ?_)
              obtain ⟨hW55, hT55⟩ := p55
              have hF55 := hF52.tr hT55 rfl
              exact e_some ⟨hW55, hF55, ((rgl (1) 1 1 rfl).sub rfl)⟩
          · refine e_some ?_
            refine e_bnd ?_
            refine e_eq (f_M_ends.eq_1 _ _) ?_
            refine e_f (by decide) ?_
            refine e_cE (t_M_found hW34 ((rgl (1) 1 1 rfl).sub rfl)) (fun u59 T59 p59 => ?_)
            obtain ⟨hW59, hT59, hr59⟩ := p59
            have hF59 := hF34.tr hT59 rfl
            refine e_eq (f_M_ends_j10.eq_1 _ _) ?_
            refine e_f (by decide) ?_
            refine e_some ?_
            refine e_f (by decide) ?_
            exact e_some ⟨hW59, hF59, ((rgl (-2) (-2) (-2) rfl).sub rfl)⟩
        · refine e_some ?_
          refine e_bnd ?_
          refine e_eq (f_M_ends.eq_1 _ _) ?_
          refine e_f (by decide) ?_
          refine e_cE (t_M_found hW34 ((rgl (3) 3 3 rfl).sub rfl)) (fun u62 T62 p62 => ?_)
          obtain ⟨hW62, hT62, hr62⟩ := p62
          have hF62 := hF34.tr hT62 rfl
          refine e_eq (f_M_ends_j10.eq_1 _ _) ?_
          refine e_f (by decide) ?_
          refine e_some ?_
          refine e_f (by decide) ?_
          exact e_some ⟨hW62, hF62, ((rgl (-2) (-2) (-2) rfl).sub rfl)⟩
    · refine e_some ?_
      refine e_t (by decide) ?_
      exact e_some ⟨hW, hF, ((rgl (-1) (-1) (-1) rfl).sub rfl)⟩
set_option maxRecDepth 20000 in
set_option maxHeartbeats 4000000 in
theorem t_M_standing_L2 {S0 : SS} : ∀ (n : Nat) (x1 : Int32) (x2 : Int32) (x3 : Int32) (S : SS), WR S → Fr [] [] S0 S → rg x3 0 72 → 72 - x3.toInt < (n : Int) → Ex2 (f_M_standing_L2 n x1 x2 x3 S) (fun r U => WR U ∧ Fr [] [] S0 U ∧ rn r 0 71) := by
  intro n
  induction n with
  | zero =>
    intro x1 x2 x3 S hW hF h2 hm
    exact up_0 h2 hm rfl
  | succ n ih =>
    intro x1 x2 x3 S hW hF h2 hm
    refine e_eq (f_M_standing_L2.eq_2 _ _ _ _ _) ?_
    refine e_i (fun q1 => ?_) (fun q1 => ?_)
    · exact e_some ⟨hW, hF, (rn4 (d_eq (rgl (-4) (-4) (-4) rfl) (rgl (-4) (-4) (-4) rfl) rfl))⟩
    · have f3 := nle_r 71 (ro_0_29 hW) h2 q1 rfl
      refine e_grd (inb_g f3 rfl) ?_
      refine e_i (fun q4 => ?_) (fun q4 => ?_)
      · refine e_eq (f_M_standing_j41.eq_1 _ _ _ _ _) ?_
        refine e_nmG (fun w6 hw6 => ?_)
        have f7 := rg_tr (rg_add 1 72 f3 (rgl (1) 1 1 rfl) rfl) hw6
        exact ih _ _ _ _ hW hF (f7.sub rfl) (up_s f3 hw6 hm rfl)
      · refine e_grd (inb_g f3 rfl) ?_
        refine e_i (fun q9 => ?_) (fun q9 => ?_)
        · refine e_grd (inb_g f3 rfl) ?_
          refine e_i (fun q11 => ?_) (fun q11 => ?_)
          · exact e_some ⟨hW, hF, (rg.toN (f3.sub rfl))⟩
          · refine e_eq (f_M_standing_j41.eq_1 _ _ _ _ _) ?_
            refine e_nmG (fun w12 hw12 => ?_)
            have f13 := rg_tr (rg_add 1 72 f3 (rgl (1) 1 1 rfl) rfl) hw12
            exact ih _ _ _ _ hW hF (f13.sub rfl) (up_s f3 hw12 hm rfl)
        · refine e_eq (f_M_standing_j41.eq_1 _ _ _ _ _) ?_
          refine e_nmG (fun w14 hw14 => ?_)
          have f15 := rg_tr (rg_add 1 72 f3 (rgl (1) 1 1 rfl) rfl) hw14
          exact ih _ _ _ _ hW hF (f15.sub rfl) (up_s f3 hw14 hm rfl)
set_option maxRecDepth 20000 in
set_option maxHeartbeats 4000000 in
theorem t_M_standing {a1 : Int32} {a2 : Int32} {S : SS} (hW : WR S) : Ex2 (f_M_standing a1 a2 S) (fun r U => WR U ∧ Fr [] [] S U ∧ rn r 0 71) := by
  have hF : Fr [] [] S S := Fr.rf
  refine e_eq (f_M_standing.eq_1 _ _ _) ?_
  exact t_M_standing_L2  NF _ _ _ _ hW hF ((rgl (0) 0 0 rfl).sub rfl) (up_n (rgl (0) 0 0 rfl) rfl)
set_option maxRecDepth 20000 in
set_option maxHeartbeats 4000000 in
theorem t_M_wagon {a1 : Int32} {a2 : Int32} {a3 : Int32} {a4 : Int32} {a5 : Int32} {S : SS} (hW : WR S) : Ex2 (f_M_wagon a1 a2 a3 a4 a5 S) (fun r U => WR U ∧ Fr [1, 18, 19, 20, 21, 22, 23, 24, 25, 28, 29, 35] [(0, 0), (0, 1), (0, 2), (0, 3), (0, 5), (0, 29), (0, 49), (0, 60), (0, 61)] S U ∧ True) := by
  have hF : Fr [1, 18, 19, 20, 21, 22, 23, 24, 25, 28, 29, 35] [(0, 0), (0, 1), (0, 2), (0, 3), (0, 5), (0, 29), (0, 49), (0, 60), (0, 61)] S S := Fr.rf
  refine e_eq (f_M_wagon.eq_1 _ _ _ _ _ _) ?_
  refine e_i (fun q1 => ?_) (fun q1 => ?_)
  · exact e_some ⟨hW, hF, trivial⟩
  · refine e_i (fun q4 => ?_) (fun q4 => ?_)
    · exact e_some ⟨hW, hF, trivial⟩
    · refine e_i (fun q7 => ?_) (fun q7 => ?_)
      · exact e_some ⟨hW, hF, trivial⟩
      · have f9 := nlt_l (rgt _) (rgl 0 0 0 rfl) q7
        refine e_i (fun q10 => ?_) (fun q10 => ?_)
        · exact e_some ⟨hW, hF, trivial⟩
        · have f12 := nlt_r (rgl (8) 8 8 rfl) f9 q10
          refine e_i (fun q13 => ?_) (fun q13 => ?_)
          · exact e_some ⟨hW, hF, trivial⟩
          · have f15 := nlt_l (rgt _) (rgl (1) 1 1 rfl) q13
            refine e_i (fun q16 => ?_) (fun q16 => ?_)
            · have f17 := le_l f15 (rgl (100) 100 100 rfl) q16
              refine e_i (fun q18 => ?_) (fun q18 => ?_)
              · exact e_some ⟨hW, hF, trivial⟩
              · have f20 := ne_h 71 (ro_0_29 hW) (rgl (72) 72 72 rfl) q18 rfl
                refine e_cV (t_M_begin hW) (fun T21 p21 => ?_)
                obtain ⟨hW21, hT21⟩ := p21
                have hF21 := hF.tr hT21 rfl
                have f22 := rg_tr f20 (hT21.1 0 _ rfl)
                refine e_bnd ?_
                refine e_eq (f_M_missFree.eq_1 _ _ _) ?_
                refine e_bnd ?_
                refine e_eq (f_M_missPlace.eq_1 _ _ _) ?_
                refine e_bnd ?_
                refine e_eq (f_M_missTrack.eq_1 _ _) ?_
                refine e_i (fun q23 => ?_) (fun q23 => ?_)
                · refine e_some ?_
                  refine e_f (by decide) ?_
                  refine e_some ?_
                  refine e_f (by decide) ?_
                  refine e_some ?_
                  refine e_bnd ?_
                  refine e_eq (f_M_ends.eq_1 _ _) ?_
                  refine e_f (by decide) ?_
                  refine e_cE (t_M_found hW21 ((rgl (3) 3 3 rfl).sub rfl)) (fun u25 T25 p25 => ?_)
                  obtain ⟨hW25, hT25, hr25⟩ := p25
                  have hF25 := hF21.tr hT25 rfl
                  refine e_eq (f_M_ends_j10.eq_1 _ _) ?_
                  refine e_f (by decide) ?_
                  refine e_some ?_
                  refine e_f (by decide) ?_
                  exact e_some ⟨hW25, hF25, trivial⟩
                · have f27 := nlt_l (rgt _) (rgl 0 0 0 rfl) q23
                  refine e_i (fun q28 => ?_) (fun q28 => ?_)
                  · have f29 := lt_l 23 f27 (rgl (24) 24 24 rfl) q28 rfl
                    refine e_i (fun q30 => ?_) (fun q30 => ?_)
                    · refine e_some ?_
                      refine e_t (by decide) ?_
                      refine e_i (fun q32 => ?_) (fun q32 => ?_)
                      · refine e_some ?_
                        refine e_f (by decide) ?_
                        refine e_some ?_
                        refine e_bnd ?_
                        refine e_eq (f_M_ends.eq_1 _ _) ?_
                        refine e_f (by decide) ?_
                        refine e_cE (t_M_found hW21 ((rgl (3) 3 3 rfl).sub rfl)) (fun u34 T34 p34 => ?_)
                        obtain ⟨hW34, hT34, hr34⟩ := p34
                        have hF34 := hF21.tr hT34 rfl
                        refine e_eq (f_M_ends_j10.eq_1 _ _) ?_
                        refine e_f (by decide) ?_
                        refine e_some ?_
                        refine e_f (by decide) ?_
                        exact e_some ⟨hW34, hF34, trivial⟩
                      · refine e_grd (inb_g f29 rfl) ?_
                        refine e_i (fun q38 => ?_) (fun q38 => ?_)
                        · refine e_some ?_
                          refine e_t (by decide) ?_
                          refine e_cE (t_M_standing hW21) (fun u41 T41 p41 => ?_)
                          obtain ⟨-, hT41, hr41⟩ := p41
                          have eT41 := (fr_nil hT41).symm
                          subst eT41
                          refine e_i (fun q42 => ?_) (fun q42 => ?_)
                          · refine e_some ?_
                            refine e_bnd ?_
                            refine e_eq (f_M_ends.eq_1 _ _) ?_
                            refine e_t (by decide) ?_
                            refine e_eq (f_M_ends_j10.eq_1 _ _) ?_
                            refine e_t (by decide) ?_
                            refine e_some ?_
                            refine e_t (by decide) ?_
                            refine e_cE (t_M_put hW21 f29 f12 (f17.sub rfl) f22) (fun u44 T44 p44 => ?_)
                            obtain ⟨hW44, hT44, hr44⟩ := p44
                            have hF44 := hF21.tr hT44 rfl
                            exact e_some ⟨hW44, hF44, trivial⟩
                          · refine e_some ?_
                            refine e_bnd ?_
                            refine e_eq (f_M_ends.eq_1 _ _) ?_
                            refine e_f (by decide) ?_
                            refine e_cE (t_M_found hW21 ((rgl (9) 9 9 rfl).sub rfl)) (fun u48 T48 p48 => ?_)
                            obtain ⟨hW48, hT48, hr48⟩ := p48
                            have hF48 := hF21.tr hT48 rfl
                            refine e_eq (f_M_ends_j10.eq_1 _ _) ?_
                            refine e_f (by decide) ?_
                            refine e_some ?_
                            refine e_f (by decide) ?_
                            exact e_some ⟨hW48, hF48, trivial⟩
                        · refine e_some ?_
                          refine e_f (by decide) ?_
                          refine e_some ?_
                          refine e_bnd ?_
                          refine e_eq (f_M_ends.eq_1 _ _) ?_
                          refine e_f (by decide) ?_
                          refine e_cE (t_M_found hW21 ((rgl (3) 3 3 rfl).sub rfl)) (fun u52 T52 p52 => ?_)
                          obtain ⟨hW52, hT52, hr52⟩ := p52
                          have hF52 := hF21.tr hT52 rfl
                          refine e_eq (f_M_ends_j10.eq_1 _ _) ?_
                          refine e_f (by decide) ?_
                          refine e_some ?_
                          refine e_f (by decide) ?_
                          exact e_some ⟨hW52, hF52, trivial⟩
                    · refine e_some ?_
                      refine e_f (by decide) ?_
                      refine e_some ?_
                      refine e_f (by decide) ?_
                      refine e_some ?_
                      refine e_bnd ?_
                      refine e_eq (f_M_ends.eq_1 _ _) ?_
                      refine e_f (by decide) ?_
                      refine e_cE (t_M_found hW21 ((rgl (1) 1 1 rfl).sub rfl)) (fun u56 T56 p56 => ?_)
                      obtain ⟨hW56, hT56, hr56⟩ := p56
                      have hF56 := hF21.tr hT56 rfl
                      refine e_eq (f_M_ends_j10.eq_1 _ _) ?_
                      refine e_f (by decide) ?_
                      refine e_some ?_
                      refine e_f (by decide) ?_
                      exact e_some ⟨hW56, hF56, trivial⟩
                  · refine e_some ?_
                    refine e_f (by decide) ?_
                    refine e_some ?_
                    refine e_f (by decide) ?_
                    refine e_some ?_
                    refine e_bnd ?_
                    refine e_eq (f_M_ends.eq_1 _ _) ?_
                    refine e_f (by decide) ?_
                    refine e_cE (t_M_found hW21 ((rgl (3) 3 3 rfl).sub rfl)) (fun u60 T60 p60 => ?_)
                    obtain ⟨hW60, hT60, hr60⟩ := p60
                    have hF60 := hF21.tr hT60 rfl
                    refine e_eq (f_M_ends_j10.eq_1 _ _) ?_
                    refine e_f (by decide) ?_
                    refine e_some ?_
                    refine e_f (by decide) ?_
                    exact e_some ⟨hW60, hF60, trivial⟩
            · exact e_some ⟨hW, hF, trivial⟩
set_option maxRecDepth 20000 in
set_option maxHeartbeats 4000000 in
theorem t_M_engine {a1 : Int32} {a2 : Int32} {a3 : Int32} {a4 : Int32} {S : SS} (hW : WR S) : Ex2 (f_M_engine a1 a2 a3 a4 S) (fun r U => WR U ∧ Fr [1, 18, 19, 20, 21, 22, 23, 24, 25, 28, 29, 35] [(0, 0), (0, 1), (0, 2), (0, 3), (0, 5), (0, 29), (0, 49), (0, 60), (0, 61)] S U ∧ True) := by
  have hF : Fr [1, 18, 19, 20, 21, 22, 23, 24, 25, 28, 29, 35] [(0, 0), (0, 1), (0, 2), (0, 3), (0, 5), (0, 29), (0, 49), (0, 60), (0, 61)] S S := Fr.rf
  refine e_eq (f_M_engine.eq_1 _ _ _ _ _) ?_
  refine e_i (fun q1 => ?_) (fun q1 => ?_)
  · exact e_some ⟨hW, hF, trivial⟩
  · have f3 := nlt_l (rgt _) (rgl 0 0 0 rfl) q1
    refine e_i (fun q4 => ?_) (fun q4 => ?_)
    · have f5 := le_l f3 (rgl (100) 100 100 rfl) q4
      refine e_i (fun q6 => ?_) (fun q6 => ?_)
      · exact e_some ⟨hW, hF, trivial⟩
      · have f8 := ne_h 71 (ro_0_29 hW) (rgl (72) 72 72 rfl) q6 rfl
        refine e_cV (t_M_begin hW) (fun T9 p9 => ?_)
        obtain ⟨hW9, hT9⟩ := p9
        have hF9 := hF.tr hT9 rfl
        have f10 := rg_tr f8 (hT9.1 0 _ rfl)
        refine e_bnd ?_
        refine e_eq (f_M_missFree.eq_1 _ _ _) ?_
        refine e_bnd ?_
        refine e_eq (f_M_missPlace.eq_1 _ _ _) ?_
        refine e_bnd ?_
        refine e_eq (f_M_missTrack.eq_1 _ _) ?_
        refine e_i (fun q11 => ?_) (fun q11 => ?_)
        · refine e_some ?_
          refine e_f (by decide) ?_
          refine e_some ?_
          refine e_f (by decide) ?_
          refine e_some ?_
          refine e_bnd ?_
          refine e_eq (f_M_ends.eq_1 _ _) ?_
          refine e_f (by decide) ?_
          refine e_cE (t_M_found hW9 ((rgl (3) 3 3 rfl).sub rfl)) (fun u13 T13 p13 => ?_)
          obtain ⟨hW13, hT13, hr13⟩ := p13
          have hF13 := hF9.tr hT13 rfl
          refine e_eq (f_M_ends_j10.eq_1 _ _) ?_
          refine e_f (by decide) ?_
          refine e_some ?_
          refine e_f (by decide) ?_
          exact e_some ⟨hW13, hF13, trivial⟩
        · have f15 := nlt_l (rgt _) (rgl 0 0 0 rfl) q11
          refine e_i (fun q16 => ?_) (fun q16 => ?_)
          · have f17 := lt_l 23 f15 (rgl (24) 24 24 rfl) q16 rfl
            refine e_i (fun q18 => ?_) (fun q18 => ?_)
            · refine e_some ?_
              refine e_t (by decide) ?_
              refine e_i (fun q20 => ?_) (fun q20 => ?_)
              · refine e_some ?_
                refine e_f (by decide) ?_
                refine e_some ?_
                refine e_bnd ?_
                refine e_eq (f_M_ends.eq_1 _ _) ?_
                refine e_f (by decide) ?_
                refine e_cE (t_M_found hW9 ((rgl (3) 3 3 rfl).sub rfl)) (fun u22 T22 p22 => ?_)
                obtain ⟨hW22, hT22, hr22⟩ := p22
                have hF22 := hF9.tr hT22 rfl
                refine e_eq (f_M_ends_j10.eq_1 _ _) ?_
                refine e_f (by decide) ?_
                refine e_some ?_
                refine e_f (by decide) ?_
                exact e_some ⟨hW22, hF22, trivial⟩
              · refine e_grd (inb_g f17 rfl) ?_
                refine e_i (fun q26 => ?_) (fun q26 => ?_)
                · refine e_some ?_
                  refine e_t (by decide) ?_
                  refine e_cE (t_M_standing hW9) (fun u29 T29 p29 => ?_)
                  obtain ⟨-, hT29, hr29⟩ := p29
                  have eT29 := (fr_nil hT29).symm
                  subst eT29
                  refine e_i (fun q30 => ?_) (fun q30 => ?_)
                  · refine e_some ?_
                    refine e_bnd ?_
                    refine e_eq (f_M_ends.eq_1 _ _) ?_
                    refine e_t (by decide) ?_
                    refine e_eq (f_M_ends_j10.eq_1 _ _) ?_
                    refine e_t (by decide) ?_
                    refine e_some ?_
                    refine e_t (by decide) ?_
                    refine e_i (fun q32 => ?_) (fun q32 => ?_)
                    · refine e_eq (f_M_engine_j59.eq_1 _ _ _ _ _ _) ?_
                      refine e_t q32 ?_
                      refine e_cE (t_M_put hW9 f17 ((rgl (6) 6 6 rfl).sub rfl) f5 f10) (fun u34 T34 p34 => ?_)
                      obtain ⟨hW34, hT34, hr34⟩ := p34
                      have hF34 := hF9.tr hT34 rfl
                      exact e_some ⟨hW34, hF34, trivial⟩
                    · refine e_eq (f_M_engine_j59.eq_1 _ _ _ _ _ _) ?_
                      refine e_f q32 ?_
                      refine e_cE (t_M_put hW9 f17 ((rgl (4) 4 4 rfl).sub rfl) f5 f10) (fun u37 T37 p37 => ?_)
                      obtain ⟨hW37, hT37, hr37⟩ := p37
                      have hF37 := hF9.tr hT37 rfl
                      exact e_some ⟨hW37, hF37, trivial⟩
                  · refine e_some ?_
                    refine e_bnd ?_
                    refine e_eq (f_M_ends.eq_1 _ _) ?_
                    refine e_f (by decide) ?_
                    refine e_cE (t_M_found hW9 ((rgl (9) 9 9 rfl).sub rfl)) (fun u41 T41 p41 => ?_)
                    obtain ⟨hW41, hT41, hr41⟩ := p41
                    have hF41 := hF9.tr hT41 rfl
                    refine e_eq (f_M_ends_j10.eq_1 _ _) ?_
                    refine e_f (by decide) ?_
                    refine e_some ?_
                    refine e_f (by decide) ?_
                    exact e_some ⟨hW41, hF41, trivial⟩
                · refine e_some ?_
                  refine e_f (by decide) ?_
                  refine e_some ?_
                  refine e_bnd ?_
                  refine e_eq (f_M_ends.eq_1 _ _) ?_
                  refine e_f (by decide) ?_
                  refine e_cE (t_M_found hW9 ((rgl (3) 3 3 rfl).sub rfl)) (fun u45 T45 p45 => ?_)
                  obtain ⟨hW45, hT45, hr45⟩ := p45
                  have hF45 := hF9.tr hT45 rfl
                  refine e_eq (f_M_ends_j10.eq_1 _ _) ?_
                  refine e_f (by decide) ?_
                  refine e_some ?_
                  refine e_f (by decide) ?_
                  exact e_some ⟨hW45, hF45, trivial⟩
            · refine e_some ?_
              refine e_f (by decide) ?_
              refine e_some ?_
              refine e_f (by decide) ?_
              refine e_some ?_
              refine e_bnd ?_
              refine e_eq (f_M_ends.eq_1 _ _) ?_
              refine e_f (by decide) ?_
              refine e_cE (t_M_found hW9 ((rgl (1) 1 1 rfl).sub rfl)) (fun u49 T49 p49 => ?_)
              obtain ⟨hW49, hT49, hr49⟩ := p49
              have hF49 := hF9.tr hT49 rfl
              refine e_eq (f_M_ends_j10.eq_1 _ _) ?_
              refine e_f (by decide) ?_
              refine e_some ?_
              refine e_f (by decide) ?_
              exact e_some ⟨hW49, hF49, trivial⟩
          · refine e_some ?_
            refine e_f (by decide) ?_
            refine e_some ?_
            refine e_f (by decide) ?_
            refine e_some ?_
            refine e_bnd ?_
            refine e_eq (f_M_ends.eq_1 _ _) ?_
            refine e_f (by decide) ?_
            refine e_cE (t_M_found hW9 ((rgl (3) 3 3 rfl).sub rfl)) (fun u53 T53 p53 => ?_)
            obtain ⟨hW53, hT53, hr53⟩ := p53
            have hF53 := hF9.tr hT53 rfl
            refine e_eq (f_M_ends_j10.eq_1 _ _) ?_
            refine e_f (by decide) ?_
            refine e_some ?_
            refine e_f (by decide) ?_
            exact e_some ⟨hW53, hF53, trivial⟩
    · exact e_some ⟨hW, hF, trivial⟩
set_option maxRecDepth 20000 in
set_option maxHeartbeats 4000000 in
theorem t_M_bar {a1 : Int32} {a2 : Int32} {a3 : Int32} {S : SS} (hW : WR S) : Ex2 (f_M_bar a1 a2 a3 S) (fun r U => WR U ∧ Fr [16] [(0, 60), (0, 61)] S U ∧ rg r (-1) 1) := by
  have hF : Fr [16] [(0, 60), (0, 61)] S S := Fr.rf
  refine e_eq (f_M_bar.eq_1 _ _ _ _) ?_
  refine e_i (fun q1 => ?_) (fun q1 => ?_)
  · exact e_some ⟨hW, hF, ((rgl (-1) (-1) (-1) rfl).sub rfl)⟩
  · have f3 := nlt_l (rgt _) (rgl 0 0 0 rfl) q1
    refine e_i (fun q4 => ?_) (fun q4 => ?_)
    · exact e_some ⟨hW, hF, ((rgl (-1) (-1) (-1) rfl).sub rfl)⟩
    · have f6 := nlt_r (rgl (9) 9 9 rfl) f3 q4
      refine e_i (fun q7 => ?_) (fun q7 => ?_)
      · exact e_some ⟨hW, hF, ((rgl (-1) (-1) (-1) rfl).sub rfl)⟩
      · have f9 := nlt_l (rgt _) (rgl 0 0 0 rfl) q7
        refine e_i (fun q10 => ?_) (fun q10 => ?_)
        · have f11 := le_l f9 (rgl (9) 9 9 rfl) q10
          refine e_grd (inb_g (rg_add 0 99 (rg_mul 0 90 (rgl (10) 10 10 rfl) f6 rfl) f11 rfl) rfl) ?_
          refine e_i (fun q12 => ?_) (fun q12 => ?_)
          · refine e_eq (f_M_bar_j41.eq_1 _ _ _ _ _) ?_
            refine e_grd (inb_g (rg_add 0 99 (rg_mul 0 90 (rgl (10) 10 10 rfl) f6 rfl) f11 rfl) rfl) ?_
            refine e_wrA (fun T14 eT14 hT14 v14 => ?_)
            have hW14 := wo_16 hW (and1 _) eT14
            have hF14 := hF.tr hT14 rfl
            refine e_grd (inb_g (rg_add 0 99 (rg_mul 0 90 (rgl (10) 10 10 rfl) f11 rfl) f6 rfl) rfl) ?_
            refine e_wrA (fun T16 eT16 hT16 v16 => ?_)
            have hW16 := wo_16 hW14 (and1 _) eT16
            have hF16 := hF14.tr hT16 rfl
            refine e_cV (t_M_forget hW16) (fun T18 p18 => ?_)
            obtain ⟨hW18, hT18⟩ := p18
            have hF18 := hF16.tr hT18 rfl
            exact e_some ⟨hW18, hF18, ((rgl (0) 0 0 rfl).sub rfl)⟩
          · refine e_eq (f_M_bar_j41.eq_1 _ _ _ _ _) ?_
            refine e_grd (inb_g (rg_add 0 99 (rg_mul 0 90 (rgl (10) 10 10 rfl) f6 rfl) f11 rfl) rfl) ?_
            refine e_wrA (fun T21 eT21 hT21 v21 => ?_)
            have hW21 := wo_16 hW (and1 _) eT21
            have hF21 := hF.tr hT21 rfl
            refine e_grd (inb_g (rg_add 0 99 (rg_mul 0 90 (rgl (10) 10 10 rfl) f11 rfl) f6 rfl) rfl) ?_
            refine e_wrA (fun T23 eT23 hT23 v23 => ?_)
            have hW23 := wo_16 hW21 (and1 _) eT23
            have hF23 := hF21.tr hT23 rfl
            refine e_cV (t_M_forget hW23) (fun T25 p25 => ?_)
            obtain ⟨hW25, hT25⟩ := p25
            have hF25 := hF23.tr hT25 rfl
            exact e_some ⟨hW25, hF25, ((rgl (1) 1 1 rfl).sub rfl)⟩
        · exact e_some ⟨hW, hF, ((rgl (-1) (-1) (-1) rfl).sub rfl)⟩
set_option maxRecDepth 20000 in
set_option maxHeartbeats 4000000 in
theorem t_M_table {a1 : Int32} {a2 : Int32} {S : SS} (hW : WR S) : Ex2 (f_M_table a1 a2 S) (fun r U => WR U ∧ Fr [17] [(0, 60), (0, 61)] S U ∧ True) := by
  have hF : Fr [17] [(0, 60), (0, 61)] S S := Fr.rf
  refine e_eq (f_M_table.eq_1 _ _ _) ?_
  refine e_i (fun q1 => ?_) (fun q1 => ?_)
  · exact e_some ⟨hW, hF, trivial⟩
  · have f3 := nlt_l (rgt _) (rgl 0 0 0 rfl) q1
    refine e_i (fun q4 => ?_) (fun q4 => ?_)
    · exact e_some ⟨hW, hF, trivial⟩
    · have f6 := nlt_r (rgl (7) 7 7 rfl) f3 q4
      refine e_i (fun q7 => ?_) (fun q7 => ?_)
      · exact e_some ⟨hW, hF, trivial⟩
      · refine e_i (fun q10 => ?_) (fun q10 => ?_)
        · refine e_grd (inb_g f6 rfl) ?_
          refine e_nmG (fun w12 hw12 => ?_)
          refine e_grd (inb_g f6 rfl) ?_
          refine e_wrA (fun T13 eT13 hT13 v13 => ?_)
          have hW13 := WR.st (k := 17) hW trivial rfl eT13
          have hF13 := hF.tr hT13 rfl
          refine e_cV (t_M_forget hW13) (fun T15 p15 => ?_)
          obtain ⟨hW15, hT15⟩ := p15
          have hF15 := hF13.tr hT15 rfl
          exact e_some ⟨hW15, hF15, trivial⟩
        · exact e_some ⟨hW, hF, trivial⟩
set_option maxRecDepth 20000 in
set_option maxHeartbeats 4000000 in
theorem t_M_route {S : SS} (hW : WR S) : Ex2 (f_M_route  S) (fun r U => WR U ∧ Fr [12] [(0, 19), (0, 60), (0, 61)] S U ∧ rg r (-3) 11) := by
  have hF : Fr [12] [(0, 19), (0, 60), (0, 61)] S S := Fr.rf
  refine e_eq (f_M_route.eq_1 _) ?_
  refine e_i (fun q1 => ?_) (fun q1 => ?_)
  · exact e_some ⟨hW, hF, ((rgl (-3) (-3) (-3) rfl).sub rfl)⟩
  · have f3 := ne_h 11 (ro_0_19 hW) (rgl (12) 12 12 rfl) q1 rfl
    refine e_grd (inb_g f3 rfl) ?_
    refine e_wrA (fun T4 eT4 hT4 v4 => ?_)
    have hW4 := wo_12 hW ((rgl (0) 0 0 rfl).sub rfl) eT4
    have hF4 := hF.tr hT4 rfl
    have f5 := rg_tr f3 (hT4.1 0 _ rfl)
    refine e_wrO (fun T7 eT7 hT7 v7 => ?_)
    have hW7 := wo_0_19 hW4 ((rg_add 1 12 f5 (rgl (1) 1 1 rfl) rfl).sub rfl) eT7
    have hF7 := hF4.tr hT7 rfl
    have f8 := rg_tr (rg_add 1 12 f5 (rgl (1) 1 1 rfl) rfl) v7
    refine e_cV (t_M_forget hW7) (fun T9 p9 => ?_)
    obtain ⟨hW9, hT9⟩ := p9
    have hF9 := hF7.tr hT9 rfl
    have f10 := rg_tr f8 (hT9.1 0 _ rfl)
    exact e_some ⟨hW9, hF9, ((rg_sb 0 11 f10 (rgl (1) 1 1 rfl) rfl).sub rfl)⟩
