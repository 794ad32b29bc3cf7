set_option maxRecDepth 20000 in
set_option maxHeartbeats 4000000 in
theorem t_M_isLocking_L4 {S0 : SS} : ∀ (n : Nat) (x1 : Int32) (x2 : Int32) (x3 : Int32) (S : SS), WR S → Fr [] [] S0 S → rg x2 0 1 → rg x3 0 40 → 40 - x3.toInt < (n : Int) → Ex2 (f_M_isLocking_L4 n x1 x2 x3 S) (fun r U => WR U ∧ Fr [] [] S0 U ∧ rg r 0 1) := by
  intro n
  induction n with
  | zero =>
    intro x1 x2 x3 S hW hF h1 h2 hm
    exact up_0 h2 hm rfl
  | succ n ih =>
    intro x1 x2 x3 S hW hF h1 h2 hm
    refine e_eq (f_M_isLocking_L4.eq_2 _ _ _ _ _) ?_
    refine e_i (fun q1 => ?_) (fun q1 => ?_)
    · refine e_grd (isB_g h1 rfl) ?_
      exact e_some ⟨hW, hF, h1⟩
    · have f3 := nle_r 39 (ro_0_15 hW) h2 q1 rfl
      refine e_i (fun q4 => ?_) (fun q4 => ?_)
      · refine e_grd (inb_g f3 rfl) ?_
        refine e_i (fun q6 => ?_) (fun q6 => ?_)
        · refine e_eq (f_M_isLocking_j26.eq_1 _ _ _ _) ?_
          refine e_eq (f_M_isLocking_j31.eq_1 _ _ _ _ _) ?_
          refine e_nmG (fun w7 hw7 => ?_)
          have f8 := rg_tr (rg_add 1 40 f3 (rgl (1) 1 1 rfl) rfl) hw7
          exact ih _ _ _ _ hW hF ((rgl (1) 1 1 rfl).sub rfl) (f8.sub rfl) (up_s f3 hw7 hm rfl)
        · refine e_eq (f_M_isLocking_j31.eq_1 _ _ _ _ _) ?_
          refine e_nmG (fun w9 hw9 => ?_)
          have f10 := rg_tr (rg_add 1 40 f3 (rgl (1) 1 1 rfl) rfl) hw9
          exact ih _ _ _ _ hW hF ((rgl (0) 0 0 rfl).sub rfl) (f10.sub rfl) (up_s f3 hw9 hm rfl)
      · refine e_eq (f_M_isLocking_j26.eq_1 _ _ _ _) ?_
        refine e_eq (f_M_isLocking_j31.eq_1 _ _ _ _ _) ?_
        refine e_nmG (fun w12 hw12 => ?_)
        have f13 := rg_tr (rg_add 1 40 f3 (rgl (1) 1 1 rfl) rfl) hw12
        exact ih _ _ _ _ hW hF ((rgl (1) 1 1 rfl).sub rfl) (f13.sub rfl) (up_s f3 hw12 hm rfl)
set_option maxRecDepth 20000 in
set_option maxHeartbeats 4000000 in
theorem t_M_isLocking {a1 : Int32} {S : SS} (hW : WR S) : Ex2 (f_M_isLocking a1 S) (fun r U => WR U ∧ Fr [] [] S U ∧ rg r 0 1) := by
  have hF : Fr [] [] S S := Fr.rf
  refine e_eq (f_M_isLocking.eq_1 _ _) ?_
  exact t_M_isLocking_L4  NF _ _ _ _ hW hF ((rgl (0) 0 0 rfl).sub rfl) ((rgl (0) 0 0 rfl).sub rfl) (up_n (rgl (0) 0 0 rfl) rfl)
set_option maxRecDepth 20000 in
set_option maxHeartbeats 4000000 in
theorem t_M_via_L174 {S0 : SS} : ∀ (n : Nat) (x1 : Int32) (x2 : Int32) (x3 : Int32) (x4 : Int32) (x7 : Int32) (S : SS), WR S → Fr [1, 12, 13, 14, 15] [(0, 0), (0, 1), (0, 2), (0, 3), (0, 5), (0, 60), (0, 61)] S0 S → rg x1 0 11 → rg x2 0 39 → rg x3 0 2 → rg x7 0 95 → rg (S.1 12 x1.toNatClampNeg) 0 7 → x7.toInt - 0 < (n : Int) → Ex2 (f_M_via_L174 n x1 x2 x3 x4 x7 S) (fun r U => WR U ∧ Fr [1, 12, 13, 14, 15] [(0, 0), (0, 1), (0, 2), (0, 3), (0, 5), (0, 60), (0, 61)] S0 U ∧ rg r (-2) 8) := by
  intro n
  induction n with
  | zero =>
    intro x1 x2 x3 x4 x7 S hW hF h0 h1 h2 h4 hx0 hm
    exact dn_0 h4 hm rfl
  | succ n ih =>
    intro x1 x2 x3 x4 x7 S hW hF h0 h1 h2 h4 hx0 hm
    refine e_eq (f_M_via_L174.eq_2 _ _ _ _ _ _ _) ?_
    refine e_i (fun q1 => ?_) (fun q1 => ?_)
    · have f2 := le_l h4 (rg_mul 0 88 (rgl (8) 8 8 rfl) h0 rfl) q1
      refine e_eq (f_M_via_j278.eq_1 _ _ _ _ _ _) ?_
      refine e_grd (inb_g f2 rfl) ?_
      refine e_wrA (fun T3 eT3 hT3 v3 => ?_)
      have hW3 := wo_13 hW h1 eT3
      have hF3 := hF.tr hT3 rfl
      have f4 := rg_tr hx0 (hT3.1 12 _ rfl)
      refine e_grd (inb_g f2 rfl) ?_
      refine e_wrA (fun T6 eT6 hT6 v6 => ?_)
      have hW6 := wo_14 hW3 h2 eT6
      have hF6 := hF3.tr hT6 rfl
      have f7 := rg_tr f4 (hT6.1 12 _ rfl)
      refine e_grd (inb_g f2 rfl) ?_
      refine e_wrA (fun T10 eT10 hT10 v10 => ?_)
      have hW10 := WR.st (k := 15) hW6 trivial rfl eT10
      have hF10 := hF6.tr hT10 rfl
      have f11 := rg_tr f7 (hT10.1 12 _ rfl)
      refine e_grd (inb_g h0 rfl) ?_
      refine e_grd (inb_g h0 rfl) ?_
      refine e_wrA (fun T14 eT14 hT14 v14 => ?_)
      have hW14 := wo_12 hW10 ((rg_add 1 8 f11 (rgl (1) 1 1 rfl) rfl).sub rfl) eT14
      have hF14 := hF10.tr hT14 rfl
      have f17 := rg_tr (rg_add 1 8 f11 (rgl (1) 1 1 rfl) rfl) v14
      refine e_cV (t_M_forget hW14) (fun T18 p18 => ?_)
      obtain ⟨hW18, hT18⟩ := p18
      have hF18 := hF14.tr hT18 rfl
      have f21 := rg_tr f17 (hT18.1 12 _ rfl)
      refine e_grd (inb_g h0 rfl) ?_
      exact e_some ⟨hW18, hF18, (f21.sub rfl)⟩
    · have f22 := nle_l 1 h4 (rg_mul 0 88 (rgl (8) 8 8 rfl) h0 rfl) q1 rfl
      refine e_grd (inb_g (rg_sb 0 94 f22 (rgl (1) 1 1 rfl) rfl) rfl) ?_
      refine e_i (fun q23 => ?_) (fun q23 => ?_)
      · refine e_eq (f_M_via_j224.eq_1 _ _ _ _ _ _ _) ?_
        refine e_grd (inb_g (rg_sb 0 94 f22 (rgl (1) 1 1 rfl) rfl) rfl) ?_
        refine e_grd (inb_g f22 rfl) ?_
        refine e_wrA (fun T26 eT26 hT26 v26 => ?_)
        have hW26 := wo_13 hW (ro_13 hW _) eT26
        have hF26 := hF.tr hT26 rfl
        have f27 := rg_tr hx0 (hT26.1 12 _ rfl)
        refine e_grd (inb_g (rg_sb 0 94 f22 (rgl (1) 1 1 rfl) rfl) rfl) ?_
        refine e_grd (inb_g f22 rfl) ?_
        refine e_wrA (fun T30 eT30 hT30 v30 => ?_)
        have hW30 := wo_14 hW26 (ro_14 hW26 _) eT30
        have hF30 := hF26.tr hT30 rfl
        have f31 := rg_tr f27 (hT30.1 12 _ rfl)
        refine e_grd (inb_g (rg_sb 0 94 f22 (rgl (1) 1 1 rfl) rfl) rfl) ?_
        refine e_grd (inb_g f22 rfl) ?_
        refine e_wrA (fun T35 eT35 hT35 v35 => ?_)
        have hW35 := WR.st (k := 15) hW30 trivial rfl eT35
        have hF35 := hF30.tr hT35 rfl
        have f36 := rg_tr f31 (hT35.1 12 _ rfl)
        refine e_nmG (fun w40 hw40 => ?_)
        have f41 := rg_tr (rg_add 0 94 f22 (rgl (-1) (-1) (-1) rfl) rfl) hw40
        exact ih _ _ _ _ _ _ hW35 hF35 h0 h1 h2 (f41.sub rfl) f36 (dn_sp f22 hw40 hm rfl)
      · refine e_grd (inb_g (rg_sb 0 94 f22 (rgl (1) 1 1 rfl) rfl) rfl) ?_
        refine e_i (fun q42 => ?_) (fun q42 => ?_)
        · refine e_grd (inb_g (rg_sb 0 94 f22 (rgl (1) 1 1 rfl) rfl) rfl) ?_
          refine e_i (fun q43 => ?_) (fun q43 => ?_)
          · refine e_eq (f_M_via_j278.eq_1 _ _ _ _ _ _) ?_
            refine e_grd (inb_g f22 rfl) ?_
            refine e_wrA (fun T44 eT44 hT44 v44 => ?_)
            have hW44 := wo_13 hW h1 eT44
            have hF44 := hF.tr hT44 rfl
            have f45 := rg_tr hx0 (hT44.1 12 _ rfl)
            refine e_grd (inb_g f22 rfl) ?_
            refine e_wrA (fun T47 eT47 hT47 v47 => ?_)
            have hW47 := wo_14 hW44 h2 eT47
            have hF47 := hF44.tr hT47 rfl
            have f48 := rg_tr f45 (hT47.1 12 _ rfl)
            refine e_grd (inb_g f22 rfl) ?_
            refine e_wrA (fun T51 eT51 hT51 v51 => ?_)
            have hW51 := WR.st (k := 15) hW47 trivial rfl eT51
            have hF51 := hF47.tr hT51 rfl
            have f52 := rg_tr f48 (hT51.1 12 _ rfl)
            refine e_grd (inb_g h0 rfl) ?_
            refine e_grd (inb_g h0 rfl) ?_
            refine e_wrA (fun T55 eT55 hT55 v55 => ?_)
            have hW55 := wo_12 hW51 ((rg_add 1 8 f52 (rgl (1) 1 1 rfl) rfl).sub rfl) eT55
            have hF55 := hF51.tr hT55 rfl
            have f58 := rg_tr (rg_add 1 8 f52 (rgl (1) 1 1 rfl) rfl) v55
            refine e_cV (t_M_forget hW55) (fun T59 p59 => ?_)
            obtain ⟨hW59, hT59⟩ := p59
            have hF59 := hF55.tr hT59 rfl
            have f62 := rg_tr f58 (hT59.1 12 _ rfl)
            refine e_grd (inb_g h0 rfl) ?_
            exact e_some ⟨hW59, hF59, (f62.sub rfl)⟩
          · have f63 := nle_l 1 (ro_13 hW _) h1 q43 rfl
            have f64 := nle_r 38 (ro_13 hW _) h1 q43 rfl
            refine e_eq (f_M_via_j224.eq_1 _ _ _ _ _ _ _) ?_
            refine e_grd (inb_g (rg_sb 0 94 f22 (rgl (1) 1 1 rfl) rfl) rfl) ?_
            refine e_grd (inb_g f22 rfl) ?_
            refine e_wrA (fun T65 eT65 hT65 v65 => ?_)
            have hW65 := wo_13 hW (f63.sub rfl) eT65
            have hF65 := hF.tr hT65 rfl
            have f66 := rg_tr hx0 (hT65.1 12 _ rfl)
            refine e_grd (inb_g (rg_sb 0 94 f22 (rgl (1) 1 1 rfl) rfl) rfl) ?_
            refine e_grd (inb_g f22 rfl) ?_
            refine e_wrA (fun T68 eT68 hT68 v68 => ?_)
            have hW68 := wo_14 hW65 (ro_14 hW65 _) eT68
            have hF68 := hF65.tr hT68 rfl
            have f69 := rg_tr f66 (hT68.1 12 _ rfl)
            refine e_grd (inb_g (rg_sb 0 94 f22 (rgl (1) 1 1 rfl) rfl) rfl) ?_
            refine e_grd (inb_g f22 rfl) ?_
            refine e_wrA (fun T72 eT72 hT72 v72 => ?_)
            have hW72 := WR.st (k := 15) hW68 trivial rfl eT72
            have hF72 := hF68.tr hT72 rfl
            have f73 := rg_tr f69 (hT72.1 12 _ rfl)
            refine e_nmG (fun w76 hw76 => ?_)
            have f77 := rg_tr (rg_add 0 94 f22 (rgl (-1) (-1) (-1) rfl) rfl) hw76
            exact ih _ _ _ _ _ _ hW72 hF72 h0 (f64.sub rfl) h2 (f77.sub rfl) f73 (dn_sp f22 hw76 hm rfl)
        · refine e_eq (f_M_via_j278.eq_1 _ _ _ _ _ _) ?_
          refine e_grd (inb_g f22 rfl) ?_
          refine e_wrA (fun T78 eT78 hT78 v78 => ?_)
          have hW78 := wo_13 hW h1 eT78
          have hF78 := hF.tr hT78 rfl
          have f79 := rg_tr hx0 (hT78.1 12 _ rfl)
          refine e_grd (inb_g f22 rfl) ?_
          refine e_wrA (fun T81 eT81 hT81 v81 => ?_)
          have hW81 := wo_14 hW78 h2 eT81
          have hF81 := hF78.tr hT81 rfl
          have f82 := rg_tr f79 (hT81.1 12 _ rfl)
          refine e_grd (inb_g f22 rfl) ?_
          refine e_wrA (fun T85 eT85 hT85 v85 => ?_)
          have hW85 := WR.st (k := 15) hW81 trivial rfl eT85
          have hF85 := hF81.tr hT85 rfl
          have f86 := rg_tr f82 (hT85.1 12 _ rfl)
          refine e_grd (inb_g h0 rfl) ?_
          refine e_grd (inb_g h0 rfl) ?_
          refine e_wrA (fun T89 eT89 hT89 v89 => ?_)
          have hW89 := wo_12 hW85 ((rg_add 1 8 f86 (rgl (1) 1 1 rfl) rfl).sub rfl) eT89
          have hF89 := hF85.tr hT89 rfl
          have f92 := rg_tr (rg_add 1 8 f86 (rgl (1) 1 1 rfl) rfl) v89
          refine e_cV (t_M_forget hW89) (fun T93 p93 => ?_)
          obtain ⟨hW93, hT93⟩ := p93
          have hF93 := hF89.tr hT93 rfl
          have f96 := rg_tr f92 (hT93.1 12 _ rfl)
          refine e_grd (inb_g h0 rfl) ?_
          exact e_some ⟨hW93, hF93, (f96.sub rfl)⟩
set_option maxRecDepth 20000 in
set_option maxHeartbeats 4000000 in
theorem t_M_via_L52 {S0 : SS} : ∀ (n : Nat) (x1 : Int32) (x2 : Int32) (x3 : Int32) (x4 : Int32) (x5 : Int32) (x6 : Int32) (x7 : Int32) (S : SS), WR S → Fr [1, 12, 13, 14, 15] [(0, 0), (0, 1), (0, 2), (0, 3), (0, 5), (0, 60), (0, 61)] S0 S → rg x1 0 11 → rg x2 0 39 → rg x3 0 2 → rg x5 0 0 → rg x6 0 1 → rg x7 0 8 → 8 - x7.toInt < (n : Int) → Ex2 (f_M_via_L52 n x1 x2 x3 x4 x5 x6 x7 S) (fun r U => WR U ∧ Fr [1, 12, 13, 14, 15] [(0, 0), (0, 1), (0, 2), (0, 3), (0, 5), (0, 60), (0, 61)] S0 U ∧ rg r (-2) 8) := by
  intro n
  induction n with
  | zero =>
    intro x1 x2 x3 x4 x5 x6 x7 S hW hF h0 h1 h2 h4 h5 h6 hm
    exact up_0 h6 hm rfl
  | succ n ih =>
    intro x1 x2 x3 x4 x5 x6 x7 S hW hF h0 h1 h2 h4 h5 h6 hm
    refine e_eq (f_M_via_L52.eq_2 _ _ _ _ _ _ _ _ _) ?_
    refine e_t (d_eq h4 (rgl 0 0 0 rfl) rfl) ?_
    refine e_grd (inb_g h0 rfl) ?_
    refine e_i (fun q1 => ?_) (fun q1 => ?_)
    · refine e_eq (f_M_via_j102.eq_1 _ _ _ _ _ _ _) ?_
      refine e_cV (t_M_begin hW) (fun T2 p2 => ?_)
      obtain ⟨hW2, hT2⟩ := p2
      have hF2 := hF.tr hT2 rfl
      refine e_bnd ?_
      refine e_eq (f_M_ends.eq_1 _ _) ?_
      refine e_t (d_eq h4 (rgl 0 0 0 rfl) rfl) ?_
      refine e_eq (f_M_ends_j10.eq_1 _ _) ?_
      refine e_t (d_eq h4 (rgl 0 0 0 rfl) rfl) ?_
      refine e_some ?_
      refine e_t (by decide) ?_
      refine e_i (fun q3 => ?_) (fun q3 => ?_)
      · refine e_grd (inb_g h0 rfl) ?_
        refine e_i (fun q5 => ?_) (fun q5 => ?_)
        · refine e_eq (f_M_via_j134.eq_1 _) ?_
          refine e_cE (t_M_found hW2 ((rgl (9) 9 9 rfl).sub rfl)) (fun u7 T7 p7 => ?_)
          obtain ⟨hW7, hT7, hr7⟩ := p7
          have hF7 := hF2.tr hT7 rfl
          exact e_some ⟨hW7, hF7, (hr7.sub rfl)⟩
        · have f9 := ne_h 7 (ro_12 hW2 _) (rgl (8) 8 8 rfl) q5 rfl
          refine e_cE (t_M_isLocking hW2) (fun u10 T10 p10 => ?_)
          obtain ⟨-, hT10, hr10⟩ := p10
          have eT10 := (fr_nil hT10).symm
          subst eT10
          refine e_i (fun q11 => ?_) (fun q11 => ?_)
          · refine e_grd (inb_g h0 rfl) ?_
            refine e_nmG (fun w13 hw13 => ?_)
            have f14 := rg_tr (rg_add 0 95 (rg_mul 0 88 (rgl (8) 8 8 rfl) h0 rfl) f9 rfl) hw13
            exact t_M_via_L174  NF _ _ _ _ _ _ hW2 hF2 h0 h1 h2 f14 f9 (dn_n f14 rfl)
          · refine e_wrO (fun T16 eT16 hT16 v16 => ?_)
            have hW16 := WR.st (k := 0) (i := 3) hW2 trivial rfl eT16
            have hF16 := hF2.tr hT16 rfl
            refine e_cE (t_M_found hW16 ((rgl (11) 11 11 rfl).sub rfl)) (fun u19 T19 p19 => ?_)
            obtain ⟨hW19, hT19, hr19⟩ := p19
            have hF19 := hF16.tr hT19 rfl
            exact e_some ⟨hW19, hF19, (hr19.sub rfl)⟩
      · refine e_eq (f_M_via_j134.eq_1 _) ?_
        refine e_cE (t_M_found hW2 ((rgl (9) 9 9 rfl).sub rfl)) (fun u23 T23 p23 => ?_)
        obtain ⟨hW23, hT23, hr23⟩ := p23
        have hF23 := hF2.tr hT23 rfl
        exact e_some ⟨hW23, hF23, (hr23.sub rfl)⟩
    · have f25 := nle_r 7 (ro_12 hW _) h6 q1 rfl
      refine e_i (fun q26 => ?_) (fun q26 => ?_)
      · refine e_grd (inb_g (rg_add 0 95 (rg_mul 0 88 (rgl (8) 8 8 rfl) h0 rfl) f25 rfl) rfl) ?_
        refine e_i (fun q28 => ?_) (fun q28 => ?_)
        · refine e_eq (f_M_via_j89.eq_1 _ _ _ _ _ _ _ _) ?_
          refine e_eq (f_M_via_j94.eq_1 _ _ _ _ _ _ _ _ _) ?_
          refine e_nmG (fun w29 hw29 => ?_)
          have f30 := rg_tr (rg_add 1 8 f25 (rgl (1) 1 1 rfl) rfl) hw29
          exact ih _ _ _ _ _ _ _ _ hW hF h0 h1 h2 h4 ((rgl (1) 1 1 rfl).sub rfl) (f30.sub rfl) (up_s f25 hw29 hm rfl)
        · refine e_eq (f_M_via_j94.eq_1 _ _ _ _ _ _ _ _ _) ?_
          refine e_nmG (fun w31 hw31 => ?_)
          have f32 := rg_tr (rg_add 1 8 f25 (rgl (1) 1 1 rfl) rfl) hw31
          exact ih _ _ _ _ _ _ _ _ hW hF h0 h1 h2 h4 ((rgl (0) 0 0 rfl).sub rfl) (f32.sub rfl) (up_s f25 hw31 hm rfl)
      · refine e_eq (f_M_via_j89.eq_1 _ _ _ _ _ _ _ _) ?_
        refine e_eq (f_M_via_j94.eq_1 _ _ _ _ _ _ _ _ _) ?_
        refine e_nmG (fun w34 hw34 => ?_)
        have f35 := rg_tr (rg_add 1 8 f25 (rgl (1) 1 1 rfl) rfl) hw34
        exact ih _ _ _ _ _ _ _ _ hW hF h0 h1 h2 h4 ((rgl (1) 1 1 rfl).sub rfl) (f35.sub rfl) (up_s f25 hw34 hm rfl)
set_option maxRecDepth 20000 in
set_option maxHeartbeats 4000000 in
theorem t_M_via {a1 : Int32} {a2 : Int32} {a3 : Int32} {a4 : Int32} {S : SS} (hW : WR S) : Ex2 (f_M_via a1 a2 a3 a4 S) (fun r U => WR U ∧ Fr [1, 12, 13, 14, 15] [(0, 0), (0, 1), (0, 2), (0, 3), (0, 5), (0, 60), (0, 61)] S U ∧ rg r (-2) 8) := by
  have hF : Fr [1, 12, 13, 14, 15] [(0, 0), (0, 1), (0, 2), (0, 3), (0, 5), (0, 60), (0, 61)] S S := Fr.rf
  refine e_eq (f_M_via.eq_1 _ _ _ _ _) ?_
  refine e_i (fun q1 => ?_) (fun q1 => ?_)
  · exact e_some ⟨hW, hF, ((rgl (-1) (-1) (-1) rfl).sub rfl)⟩
  · have f3 := nlt_l (rgt _) (rgl 0 0 0 rfl) q1
    refine e_i (fun q4 => ?_) (fun q4 => ?_)
    · exact e_some ⟨hW, hF, ((rgl (-1) (-1) (-1) rfl).sub rfl)⟩
    · have f6 := nlt_r (rgl (2) 2 2 rfl) f3 q4
      refine e_i (fun q7 => ?_) (fun q7 => ?_)
      · exact e_some ⟨hW, hF, ((rgl (-1) (-1) (-1) rfl).sub rfl)⟩
      · refine e_i (fun q10 => ?_) (fun q10 => ?_)
        · refine e_bnd ?_
          refine e_eq (f_M_missRoute.eq_1 _ _) ?_
          refine e_i (fun q12 => ?_) (fun q12 => ?_)
          · refine e_some ?_
            refine e_f (by decide) ?_
            refine e_bnd ?_
            refine e_eq (f_M_missRoute.eq_1 _ _) ?_
            refine e_t q12 ?_
            refine e_some ?_
            refine e_eq (f_M_via_j44.eq_1 _ _ _ _ _ _) ?_
            refine e_eq (f_M_via_L52.eq_2 _ _ _ _ _ _ _ _ 99999) ?_
            refine e_f (by decide) ?_
            refine e_eq (f_M_via_j102.eq_1 _ _ _ _ _ _ _) ?_
            refine e_cV (t_M_begin hW) (fun T14 p14 => ?_)
            obtain ⟨hW14, hT14⟩ := p14
            have hF14 := hF.tr hT14 rfl
            refine e_bnd ?_
            refine e_eq (f_M_ends.eq_1 _ _) ?_
            refine e_f (by decide) ?_
            refine e_cE (t_M_found hW14 ((rgl (3) 3 3 rfl).sub rfl)) (fun u15 T15 p15 => ?_)
            obtain ⟨hW15, hT15, hr15⟩ := p15
            have hF15 := hF14.tr hT15 rfl
            refine e_eq (f_M_ends_j10.eq_1 _ _) ?_
            refine e_f (by decide) ?_
            refine e_some ?_
            refine e_f (by decide) ?_
            exact e_some ⟨hW15, hF15, ((rgl (-2) (-2) (-2) rfl).sub rfl)⟩
          · have f16 := nlt_l (rgt _) (rgl 0 0 0 rfl) q12
            refine e_i (fun q17 => ?_) (fun q17 => ?_)
            · have f18 := lt_l 11 f16 (rgl (12) 12 12 rfl) q17 rfl
              refine e_i (fun q19 => ?_) (fun q19 => ?_)
              · refine e_some ?_
                refine e_t (by decide) ?_
                refine e_bnd ?_
                refine e_eq (f_M_missPoint.eq_1 _ _) ?_
                refine e_i (fun q21 => ?_) (fun q21 => ?_)
                · refine e_some ?_
                  refine e_eq (f_M_via_j44.eq_1 _ _ _ _ _ _) ?_
                  refine e_eq (f_M_via_L52.eq_2 _ _ _ _ _ _ _ _ 99999) ?_
                  refine e_f (by decide) ?_
                  refine e_eq (f_M_via_j102.eq_1 _ _ _ _ _ _ _) ?_
                  refine e_cV (t_M_begin hW) (fun T23 p23 => ?_)
                  obtain ⟨hW23, hT23⟩ := p23
                  have hF23 := hF.tr hT23 rfl
                  refine e_bnd ?_
                  refine e_eq (f_M_ends.eq_1 _ _) ?_
                  refine e_f (by decide) ?_
                  refine e_cE (t_M_found hW23 ((rgl (3) 3 3 rfl).sub rfl)) (fun u25 T25 p25 => ?_)
                  obtain ⟨hW25, hT25, hr25⟩ := p25
                  have hF25 := hF23.tr hT25 rfl
                  refine e_eq (f_M_ends_j10.eq_1 _ _) ?_
                  refine e_f (by decide) ?_
                  refine e_some ?_
                  refine e_f (by decide) ?_
                  exact e_some ⟨hW25, hF25, ((rgl (-2) (-2) (-2) rfl).sub rfl)⟩
                · have f27 := nlt_l (rgt _) (rgl 0 0 0 rfl) q21
                  refine e_i (fun q28 => ?_) (fun q28 => ?_)
                  · have f29 := lt_l 39 f27 (rgl (40) 40 40 rfl) q28 rfl
                    refine e_i (fun q30 => ?_) (fun q30 => ?_)
                    · refine e_some ?_
                      refine e_eq (f_M_via_j44.eq_1 _ _ _ _ _ _) ?_
                      exact t_M_via_L52  NF _ _ _ _ _ _ _ _ hW hF f18 f29 f6 (rgl (0) 0 0 rfl) ((rgl (0) 0 0 rfl).sub rfl) ((rgl (0) 0 0 rfl).sub rfl) (up_n (rgl (0) 0 0 rfl) rfl)
                    · refine e_some ?_
                      refine e_eq (f_M_via_j44.eq_1 _ _ _ _ _ _) ?_
                      refine e_eq (f_M_via_L52.eq_2 _ _ _ _ _ _ _ _ 99999) ?_
                      refine e_f (by decide) ?_
                      refine e_eq (f_M_via_j102.eq_1 _ _ _ _ _ _ _) ?_
                      refine e_cV (t_M_begin hW) (fun T33 p33 => ?_)
                      obtain ⟨hW33, hT33⟩ := p33
                      have hF33 := hF.tr hT33 rfl
                      refine e_bnd ?_
                      refine e_eq (f_M_ends.eq_1 _ _) ?_
                      refine e_f (by decide) ?_
                      refine e_cE (t_M_found hW33 ((rgl (1) 1 1 rfl).sub rfl)) (fun u36 T36 p36 => ?_)
                      obtain ⟨hW36, hT36, hr36⟩ := p36
                      have hF36 := hF33.tr hT36 rfl
                      refine e_eq (f_M_ends_j10.eq_1 _ _) ?_
                      refine e_f (by decide) ?_
                      refine e_some ?_
                      refine e_f (by decide) ?_
                      exact e_some ⟨hW36, hF36, ((rgl (-2) (-2) (-2) rfl).sub rfl)⟩
                  · refine e_some ?_
                    refine e_eq (f_M_via_j44.eq_1 _ _ _ _ _ _) ?_
                    refine e_eq (f_M_via_L52.eq_2 _ _ _ _ _ _ _ _ 99999) ?_
                    refine e_f (by decide) ?_
                    refine e_eq (f_M_via_j102.eq_1 _ _ _ _ _ _ _) ?_
                    refine e_cV (t_M_begin hW) (fun T40 p40 => ?_)
                    obtain ⟨hW40, hT40⟩ := p40
                    have hF40 := hF.tr hT40 rfl
                    refine e_bnd ?_
                    refine e_eq (f_M_ends.eq_1 _ _) ?_
                    refine e_f (by decide) ?_
                    refine e_cE (t_M_found hW40 ((rgl (3) 3 3 rfl).sub rfl)) (fun u42 T42 p42 => ?_)
                    obtain ⟨hW42, hT42, hr42⟩ := p42
                    have hF42 := hF40.tr hT42 rfl
                    refine e_eq (f_M_ends_j10.eq_1 _ _) ?_
                    refine e_f (by decide) ?_
                    refine e_some ?_
                    refine e_f (by decide) ?_
                    exact e_some ⟨hW42, hF42, ((rgl (-2) (-2) (-2) rfl).sub rfl)⟩
              · refine e_some ?_
                refine e_f (by decide) ?_
                refine e_bnd ?_
                refine e_eq (f_M_missRoute.eq_1 _ _) ?_
                refine e_f q12 ?_
                refine e_t q17 ?_
                refine e_f q19 ?_
                refine e_some ?_
                refine e_eq (f_M_via_j44.eq_1 _ _ _ _ _ _) ?_
                refine e_eq (f_M_via_L52.eq_2 _ _ _ _ _ _ _ _ 99999) ?_
                refine e_f (by decide) ?_
                refine e_eq (f_M_via_j102.eq_1 _ _ _ _ _ _ _) ?_
                refine e_cV (t_M_begin hW) (fun T45 p45 => ?_)
                obtain ⟨hW45, hT45⟩ := p45
                have hF45 := hF.tr hT45 rfl
                refine e_bnd ?_
                refine e_eq (f_M_ends.eq_1 _ _) ?_
                refine e_f (by decide) ?_
                refine e_cE (t_M_found hW45 ((rgl (1) 1 1 rfl).sub rfl)) (fun u47 T47 p47 => ?_)
                obtain ⟨hW47, hT47, hr47⟩ := p47
                have hF47 := hF45.tr hT47 rfl
                refine e_eq (f_M_ends_j10.eq_1 _ _) ?_
                refine e_f (by decide) ?_
                refine e_some ?_
                refine e_f (by decide) ?_
                exact e_some ⟨hW47, hF47, ((rgl (-2) (-2) (-2) rfl).sub rfl)⟩
            · refine e_some ?_
              refine e_f (by decide) ?_
              refine e_bnd ?_
              refine e_eq (f_M_missRoute.eq_1 _ _) ?_
              refine e_f q12 ?_
              refine e_f q17 ?_
              refine e_some ?_
              refine e_eq (f_M_via_j44.eq_1 _ _ _ _ _ _) ?_
              refine e_eq (f_M_via_L52.eq_2 _ _ _ _ _ _ _ _ 99999) ?_
              refine e_f (by decide) ?_
              refine e_eq (f_M_via_j102.eq_1 _ _ _ _ _ _ _) ?_
              refine e_cV (t_M_begin hW) (fun T50 p50 => ?_)
              obtain ⟨hW50, hT50⟩ := p50
              have hF50 := hF.tr hT50 rfl
              refine e_bnd ?_
              refine e_eq (f_M_ends.eq_1 _ _) ?_
              refine e_f (by decide) ?_
              refine e_cE (t_M_found hW50 ((rgl (3) 3 3 rfl).sub rfl)) (fun u51 T51 p51 => ?_)
              obtain ⟨hW51, hT51, hr51⟩ := p51
              have hF51 := hF50.tr hT51 rfl
              refine e_eq (f_M_ends_j10.eq_1 _ _) ?_
              refine e_f (by decide) ?_
              refine e_some ?_
              refine e_f (by decide) ?_
              exact e_some ⟨hW51, hF51, ((rgl (-2) (-2) (-2) rfl).sub rfl)⟩
        · exact e_some ⟨hW, hF, ((rgl (-1) (-1) (-1) rfl).sub rfl)⟩
set_option maxRecDepth 20000 in
set_option maxHeartbeats 4000000 in
theorem t_M_missThing {a1 : Int32} {a2 : Int32} {S : SS} (hW : WR S) : Ex2 (f_M_missThing a1 a2 S) (fun r U => WR U ∧ Fr [] [] S U ∧ rg r 0 3) := by
  have hF : Fr [] [] S S := Fr.rf
  refine e_eq (f_M_missThing.eq_1 _ _ _) ?_
  refine e_i (fun q1 => ?_) (fun q1 => ?_)
  · exact e_some ⟨hW, hF, ((rgl (3) 3 3 rfl).sub rfl)⟩
  · have f3 := nlt_l (rgt _) (rgl 0 0 0 rfl) q1
    refine e_i (fun q4 => ?_) (fun q4 => ?_)
    · have f5 := lt_l 71 f3 (rgl (72) 72 72 rfl) q4 rfl
      refine e_i (fun q6 => ?_) (fun q6 => ?_)
      · exact e_some ⟨hW, hF, ((rgl (1) 1 1 rfl).sub rfl)⟩
      · refine e_grd (inb_g f5 rfl) ?_
        refine e_i (fun q9 => ?_) (fun q9 => ?_)
        · exact e_some ⟨hW, hF, ((rgl (1) 1 1 rfl).sub rfl)⟩
        · refine e_bnd ?_
          refine e_eq (f_M_isSuch.eq_1 _ _ _) ?_
          refine e_grd (inb_g f5 rfl) ?_
          refine e_nmG (fun w12 hw12 => ?_)
          refine e_i (fun q13 => ?_) (fun q13 => ?_)
          · refine e_i (fun q15 => ?_) (fun q15 => ?_)
            · refine e_some ?_
              refine e_t (by decide) ?_
              exact e_some ⟨hW, hF, ((rgl (2) 2 2 rfl).sub rfl)⟩
            · refine e_some ?_
              refine e_f (by decide) ?_
              exact e_some ⟨hW, hF, ((rgl (0) 0 0 rfl).sub rfl)⟩
          · refine e_i (fun q20 => ?_) (fun q20 => ?_)
            · refine e_i (fun q22 => ?_) (fun q22 => ?_)
              · refine e_some ?_
                refine e_t (by decide) ?_
                exact e_some ⟨hW, hF, ((rgl (2) 2 2 rfl).sub rfl)⟩
              · refine e_some ?_
                refine e_f (by decide) ?_
                exact e_some ⟨hW, hF, ((rgl (0) 0 0 rfl).sub rfl)⟩
            · refine e_i (fun q27 => ?_) (fun q27 => ?_)
              · refine e_i (fun q29 => ?_) (fun q29 => ?_)
                · refine e_some ?_
                  refine e_t (by decide) ?_
                  exact e_some ⟨hW, hF, ((rgl (2) 2 2 rfl).sub rfl)⟩
                · refine e_some ?_
                  refine e_f (by decide) ?_
                  exact e_some ⟨hW, hF, ((rgl (0) 0 0 rfl).sub rfl)⟩
              · refine e_i (fun q34 => ?_) (fun q34 => ?_)
                · refine e_i (fun q36 => ?_) (fun q36 => ?_)
                  · refine e_some ?_
                    refine e_f (by decide) ?_
                    exact e_some ⟨hW, hF, ((rgl (0) 0 0 rfl).sub rfl)⟩
                  · refine e_some ?_
                    refine e_t (by decide) ?_
                    exact e_some ⟨hW, hF, ((rgl (2) 2 2 rfl).sub rfl)⟩
                · refine e_some ?_
                  refine e_f (by decide) ?_
                  exact e_some ⟨hW, hF, ((rgl (0) 0 0 rfl).sub rfl)⟩
    · exact e_some ⟨hW, hF, ((rgl (3) 3 3 rfl).sub rfl)⟩
set_option maxRecDepth 20000 in
set_option maxHeartbeats 4000000 in
theorem t_M_load_L64 {S0 : SS} : ∀ (n : Nat) (x1 : Int32) (x3 : Int32) (x4 : Int32) (S : SS), WR S → Fr [1, 35, 36, 37] [(0, 0), (0, 1), (0, 2), (0, 3), (0, 5)] S0 S → rg x1 0 71 → rg x4 0 20 → 20 - x4.toInt < (n : Int) → Ex2 (f_M_load_L64 n x1 x3 x4 S) (fun r U => WR U ∧ Fr [1, 35, 36, 37] [(0, 0), (0, 1), (0, 2), (0, 3), (0, 5)] S0 U ∧ True) := by
  intro n
  induction n with
  | zero =>
    intro x1 x3 x4 S hW hF h0 h2 hm
    exact up_0 h2 hm rfl
  | succ n ih =>
    intro x1 x3 x4 S hW hF h0 h2 hm
    refine e_eq (f_M_load_L64.eq_2 _ _ _ _ _) ?_
    refine e_i (fun q1 => ?_) (fun q1 => ?_)
    · exact e_some ⟨hW, hF, trivial⟩
    · have f3 := nle_r 19 (rgl (20) 20 20 rfl) h2 q1 rfl
      refine e_grd (inb_g (rg_add 0 1439 (rg_mul 0 1420 (rgl (20) 20 20 rfl) h0 rfl) f3 rfl) rfl) ?_
      refine e_wrA (fun T4 eT4 hT4 v4 => ?_)
      have hW4 := wo_37 hW ((rgl (0) 0 0 rfl).sub rfl) eT4
      have hF4 := hF.tr hT4 rfl
      refine e_nmG (fun w6 hw6 => ?_)
      have f7 := rg_tr (rg_add 1 20 f3 (rgl (1) 1 1 rfl) rfl) hw6
      exact ih _ _ _ _ hW4 hF4 h0 (f7.sub rfl) (up_s f3 hw6 hm rfl)
set_option maxRecDepth 20000 in
set_option maxHeartbeats 4000000 in
theorem t_M_load {a1 : Int32} {a2 : Int32} {a3 : Int32} {S : SS} (hW : WR S) : Ex2 (f_M_load a1 a2 a3 S) (fun r U => WR U ∧ Fr [1, 35, 36, 37] [(0, 0), (0, 1), (0, 2), (0, 3), (0, 5)] S U ∧ True) := by
  have hF : Fr [1, 35, 36, 37] [(0, 0), (0, 1), (0, 2), (0, 3), (0, 5)] S S := Fr.rf
  refine e_eq (f_M_load.eq_1 _ _ _ _) ?_
  refine e_i (fun q1 => ?_) (fun q1 => ?_)
  · exact e_some ⟨hW, hF, trivial⟩
  · refine e_i (fun q4 => ?_) (fun q4 => ?_)
    · exact e_some ⟨hW, hF, trivial⟩
    · refine e_i (fun q7 => ?_) (fun q7 => ?_)
      · have f8 := le_l (rgt _) (rgl (20) 20 20 rfl) q7
        refine e_cV (t_M_begin hW) (fun T9 p9 => ?_)
        obtain ⟨hW9, hT9⟩ := p9
        have hF9 := hF.tr hT9 rfl
        refine e_bnd ?_
        refine e_eq (f_M_missThing.eq_1 _ _ _) ?_
        refine e_i (fun q10 => ?_) (fun q10 => ?_)
        · refine e_some ?_
          refine e_bnd ?_
          refine e_eq (f_M_ends.eq_1 _ _) ?_
          refine e_f (by decide) ?_
          refine e_cE (t_M_found hW9 ((rgl (3) 3 3 rfl).sub rfl)) (fun u12 T12 p12 => ?_)
          obtain ⟨hW12, hT12, hr12⟩ := p12
          have hF12 := hF9.tr hT12 rfl
          refine e_eq (f_M_ends_j10.eq_1 _ _) ?_
          refine e_f (by decide) ?_
          refine e_some ?_
          refine e_f (by decide) ?_
          exact e_some ⟨hW12, hF12, trivial⟩
        · have f13 := nlt_l (rgt _) (rgl 0 0 0 rfl) q10
          refine e_i (fun q14 => ?_) (fun q14 => ?_)
          · have f15 := lt_l 71 f13 (rgl (72) 72 72 rfl) q14 rfl
            refine e_i (fun q16 => ?_) (fun q16 => ?_)
            · refine e_some ?_
              refine e_bnd ?_
              refine e_eq (f_M_ends.eq_1 _ _) ?_
              refine e_f (by decide) ?_
              refine e_cE (t_M_found hW9 ((rgl (1) 1 1 rfl).sub rfl)) (fun u18 T18 p18 => ?_)
              obtain ⟨hW18, hT18, hr18⟩ := p18
              have hF18 := hF9.tr hT18 rfl
              refine e_eq (f_M_ends_j10.eq_1 _ _) ?_
              refine e_f (by decide) ?_
              refine e_some ?_
              refine e_f (by decide) ?_
              exact e_some ⟨hW18, hF18, trivial⟩
            · refine e_grd (inb_g f15 rfl) ?_
              refine e_i (fun q21 => ?_) (fun q21 => ?_)
              · refine e_some ?_
                refine e_bnd ?_
                refine e_eq (f_M_ends.eq_1 _ _) ?_
                refine e_f (by decide) ?_
                refine e_cE (t_M_found hW9 ((rgl (1) 1 1 rfl).sub rfl)) (fun u23 T23 p23 => ?_)
                obtain ⟨hW23, hT23, hr23⟩ := p23
                have hF23 := hF9.tr hT23 rfl
                refine e_eq (f_M_ends_j10.eq_1 _ _) ?_
                refine e_f (by decide) ?_
                refine e_some ?_
                refine e_f (by decide) ?_
                exact e_some ⟨hW23, hF23, trivial⟩
              · refine e_bnd ?_
                refine e_eq (f_M_isSuch.eq_1 _ _ _) ?_
                refine e_grd (inb_g f15 rfl) ?_
                refine e_nmG (fun w28 hw28 => ?_)
                refine e_t rfl ?_
                refine e_i (fun q29 => ?_) (fun q29 => ?_)
                · refine e_some ?_
                  refine e_t (by decide) ?_
                  refine e_some ?_
                  refine e_bnd ?_
                  refine e_eq (f_M_ends.eq_1 _ _) ?_
                  refine e_f (by decide) ?_
                  refine e_cE (t_M_found hW9 ((rgl (2) 2 2 rfl).sub rfl)) (fun u32 T32 p32 => ?_)
                  obtain ⟨hW32, hT32, hr32⟩ := p32
                  have hF32 := hF9.tr hT32 rfl
                  refine e_eq (f_M_ends_j10.eq_1 _ _) ?_
                  refine e_f (by decide) ?_
                  refine e_some ?_
                  refine e_f (by decide) ?_
                  exact e_some ⟨hW32, hF32, trivial⟩
                · refine e_some ?_
                  refine e_f (by decide) ?_
                  refine e_some ?_
                  refine e_bnd ?_
                  refine e_eq (f_M_ends.eq_1 _ _) ?_
                  refine e_t (by decide) ?_
                  refine e_eq (f_M_ends_j10.eq_1 _ _) ?_
                  refine e_t (by decide) ?_
                  refine e_some ?_
                  refine e_t (by decide) ?_
                  refine e_i (fun q39 => ?_) (fun q39 => ?_)
                  · have f40 := le_r (rgl 0 0 0 rfl) f8 q39
                    refine e_grd (inb_g f15 rfl) ?_
                    refine e_wrA (fun T41 eT41 hT41 v41 => ?_)
                    have hW41 := wo_35 hW9 (rg.toN (f40.sub rfl)) eT41
                    have hF41 := hF9.tr hT41 rfl
                    refine e_grd (inb_g f15 rfl) ?_
                    refine e_wrA (fun T47 eT47 hT47 v47 => ?_)
                    have hW47 := WR.st (k := 36) hW41 trivial rfl eT47
                    have hF47 := hF41.tr hT47 rfl
                    exact t_M_load_L64  NF _ _ _ _ hW47 hF47 f15 ((rgl (0) 0 0 rfl).sub rfl) (up_n (rgl (0) 0 0 rfl) rfl)
                  · refine e_cE (t_M_found hW9 ((rgl (5) 5 5 rfl).sub rfl)) (fun u55 T55 p55 => ?_)
                    obtain ⟨hW55, hT55, hr55⟩ := p55
                    have hF55 := hF9.tr hT55 rfl
                    exact e_some ⟨hW55, hF55, trivial⟩
          · refine e_some ?_
            refine e_bnd ?_
            refine e_eq (f_M_ends.eq_1 _ _) ?_
            refine e_f (by decide) ?_
            refine e_cE (t_M_found hW9 ((rgl (3) 3 3 rfl).sub rfl)) (fun u61 T61 p61 => ?_)
            obtain ⟨hW61, hT61, hr61⟩ := p61
            have hF61 := hF9.tr hT61 rfl
            refine e_eq (f_M_ends_j10.eq_1 _ _) ?_
            refine e_f (by decide) ?_
            refine e_some ?_
            refine e_f (by decide) ?_
            exact e_some ⟨hW61, hF61, trivial⟩
      · exact e_some ⟨hW, hF, trivial⟩
set_option maxRecDepth 20000 in
set_option maxHeartbeats 4000000 in
theorem t_M_piece {a1 : Int32} {a2 : Int32} {a3 : Int32} {a4 : Int32} {S : SS} (hW : WR S) : Ex2 (f_M_piece a1 a2 a3 a4 S) (fun r U => WR U ∧ Fr [1, 37] [(0, 0), (0, 1), (0, 2), (0, 3), (0, 5)] S U ∧ rg r (-2) 1) := by
  have hF : Fr [1, 37] [(0, 0), (0, 1), (0, 2), (0, 3), (0, 5)] S S := Fr.rf
  refine e_eq (f_M_piece.eq_1 _ _ _ _ _) ?_
  refine e_i (fun q1 => ?_) (fun q1 => ?_)
  · exact e_some ⟨hW, hF, ((rgl (-1) (-1) (-1) rfl).sub rfl)⟩
  · refine e_i (fun q4 => ?_) (fun q4 => ?_)
    · exact e_some ⟨hW, hF, ((rgl (-1) (-1) (-1) rfl).sub rfl)⟩
    · refine e_i (fun q7 => ?_) (fun q7 => ?_)
      · exact e_some ⟨hW, hF, ((rgl (-1) (-1) (-1) rfl).sub rfl)⟩
      · have f9 := nlt_l (rgt _) (rgl 0 0 0 rfl) q7
        refine e_i (fun q10 => ?_) (fun q10 => ?_)
        · have f11 := le_l f9 (rgl (120) 120 120 rfl) q10
          refine e_cV (t_M_begin hW) (fun T12 p12 => ?_)
          obtain ⟨hW12, hT12⟩ := p12
          have hF12 := hF.tr hT12 rfl
          refine e_bnd ?_
          refine e_eq (f_M_missThing.eq_1 _ _ _) ?_
          refine e_i (fun q13 => ?_) (fun q13 => ?_)
          · refine e_some ?_
            refine e_bnd ?_
            refine e_eq (f_M_ends.eq_1 _ _) ?_
            refine e_f (by decide) ?_
            refine e_cE (t_M_found hW12 ((rgl (3) 3 3 rfl).sub rfl)) (fun u15 T15 p15 => ?_)
            obtain ⟨hW15, hT15, hr15⟩ := p15
            have hF15 := hF12.tr hT15 rfl
            refine e_eq (f_M_ends_j10.eq_1 _ _) ?_
            refine e_f (by decide) ?_
            refine e_some ?_
            refine e_f (by decide) ?_
            exact e_some ⟨hW15, hF15, ((rgl (-2) (-2) (-2) rfl).sub rfl)⟩
          · have f16 := nlt_l (rgt _) (rgl 0 0 0 rfl) q13
            refine e_i (fun q17 => ?_) (fun q17 => ?_)
            · have f18 := lt_l 71 f16 (rgl (72) 72 72 rfl) q17 rfl
              refine e_i (fun q19 => ?_) (fun q19 => ?_)
              · refine e_some ?_
                refine e_bnd ?_
                refine e_eq (f_M_ends.eq_1 _ _) ?_
                refine e_f (by decide) ?_
                refine e_cE (t_M_found hW12 ((rgl (1) 1 1 rfl).sub rfl)) (fun u21 T21 p21 => ?_)
                obtain ⟨hW21, hT21, hr21⟩ := p21
                have hF21 := hF12.tr hT21 rfl
                refine e_eq (f_M_ends_j10.eq_1 _ _) ?_
                refine e_f (by decide) ?_
                refine e_some ?_
                refine e_f (by decide) ?_
                exact e_some ⟨hW21, hF21, ((rgl (-2) (-2) (-2) rfl).sub rfl)⟩
              · refine e_grd (inb_g f18 rfl) ?_
                refine e_i (fun q24 => ?_) (fun q24 => ?_)
                · refine e_some ?_
                  refine e_bnd ?_
                  refine e_eq (f_M_ends.eq_1 _ _) ?_
                  refine e_f (by decide) ?_
                  refine e_cE (t_M_found hW12 ((rgl (1) 1 1 rfl).sub rfl)) (fun u26 T26 p26 => ?_)
                  obtain ⟨hW26, hT26, hr26⟩ := p26
                  have hF26 := hF12.tr hT26 rfl
                  refine e_eq (f_M_ends_j10.eq_1 _ _) ?_
                  refine e_f (by decide) ?_
                  refine e_some ?_
                  refine e_f (by decide) ?_
                  exact e_some ⟨hW26, hF26, ((rgl (-2) (-2) (-2) rfl).sub rfl)⟩
                · refine e_bnd ?_
                  refine e_eq (f_M_isSuch.eq_1 _ _ _) ?_
                  refine e_grd (inb_g f18 rfl) ?_
                  refine e_nmG (fun w31 hw31 => ?_)
                  refine e_t rfl ?_
                  refine e_i (fun q32 => ?_) (fun q32 => ?_)
                  · refine e_some ?_
                    refine e_t (by decide) ?_
                    refine e_some ?_
                    refine e_bnd ?_
                    refine e_eq (f_M_ends.eq_1 _ _) ?_
                    refine e_f (by decide) ?_
                    refine e_cE (t_M_found hW12 ((rgl (2) 2 2 rfl).sub rfl)) (fun u35 T35 p35 => ?_)
                    obtain ⟨hW35, hT35, hr35⟩ := p35
                    have hF35 := hF12.tr hT35 rfl
                    refine e_eq (f_M_ends_j10.eq_1 _ _) ?_
                    refine e_f (by decide) ?_
                    refine e_some ?_
                    refine e_f (by decide) ?_
                    exact e_some ⟨hW35, hF35, ((rgl (-2) (-2) (-2) rfl).sub rfl)⟩
                  · refine e_some ?_
                    refine e_f (by decide) ?_
                    refine e_some ?_
                    refine e_bnd ?_
                    refine e_eq (f_M_ends.eq_1 _ _) ?_
                    refine e_t (by decide) ?_
                    refine e_eq (f_M_ends_j10.eq_1 _ _) ?_
                    refine e_t (by decide) ?_
                    refine e_some ?_
                    refine e_t (by decide) ?_
                    refine e_grd (inb_g f18 rfl) ?_
                    refine e_i (fun q42 => ?_) (fun q42 => ?_)
                    · refine e_eq (f_M_piece_j70.eq_1 _ _ _ _) ?_
                      refine e_grd (inb_g f18 rfl) ?_
                      refine e_t q42 ?_
                      refine e_cE (t_M_found hW12 ((rgl (1) 1 1 rfl).sub rfl)) (fun u44 T44 p44 => ?_)
                      obtain ⟨hW44, hT44, hr44⟩ := p44
                      have hF44 := hF12.tr hT44 rfl
                      exact e_some ⟨hW44, hF44, (hr44.sub rfl)⟩
                    · have f50 := rn.ne (ro_35 hW12 _) q42
                      refine e_grd (inb_g f18 rfl) ?_
                      refine e_i (fun q51 => ?_) (fun q51 => ?_)
                      · refine e_eq (f_M_piece_j70.eq_1 _ _ _ _) ?_
                        refine e_grd (inb_g f18 rfl) ?_
                        refine e_f q42 ?_
                        refine e_i (fun q53 => ?_) (fun q53 => ?_)
                        · refine e_eq (f_M_piece_j101.eq_1 _) ?_
                          refine e_cE (t_M_found hW12 ((rgl (3) 3 3 rfl).sub rfl)) (fun u55 T55 p55 => ?_)
                          obtain ⟨hW55, hT55, hr55⟩ := p55
                          have hF55 := hF12.tr hT55 rfl
                          exact e_some ⟨hW55, hF55, (hr55.sub rfl)⟩
                        · have f62 := nlt_l (rgt _) (rgl 0 0 0 rfl) q53
                          refine e_grd (inb_g f18 rfl) ?_
                          refine e_i (fun q63 => ?_) (fun q63 => ?_)
                          · have f64 := lt_l 19 f62 f50 q63 rfl
                            refine e_grd (inb_g (rg_add 0 1439 (rg_mul 0 1420 (rgl (20) 20 20 rfl) f18 rfl) f64 rfl) rfl) ?_
                            refine e_wrA (fun T66 eT66 hT66 v66 => ?_)
                            have hW66 := wo_37 hW12 f11 eT66
                            have hF66 := hF12.tr hT66 rfl
                            exact e_some ⟨hW66, hF66, ((rgl (1) 1 1 rfl).sub rfl)⟩
                          · refine e_eq (f_M_piece_j101.eq_1 _) ?_
                            refine e_cE (t_M_found hW12 ((rgl (3) 3 3 rfl).sub rfl)) (fun u74 T74 p74 => ?_)
                            obtain ⟨hW74, hT74, hr74⟩ := p74
                            have hF74 := hF12.tr hT74 rfl
                            exact e_some ⟨hW74, hF74, (hr74.sub rfl)⟩
                      · refine e_cE (t_M_found hW12 ((rgl (2) 2 2 rfl).sub rfl)) (fun u81 T81 p81 => ?_)
                        obtain ⟨hW81, hT81, hr81⟩ := p81
                        have hF81 := hF12.tr hT81 rfl
                        exact e_some ⟨hW81, hF81, (hr81.sub rfl)⟩
            · refine e_some ?_
              refine e_bnd ?_
              refine e_eq (f_M_ends.eq_1 _ _) ?_
              refine e_f (by decide) ?_
              refine e_cE (t_M_found hW12 ((rgl (3) 3 3 rfl).sub rfl)) (fun u88 T88 p88 => ?_)
              obtain ⟨hW88, hT88, hr88⟩ := p88
              have hF88 := hF12.tr hT88 rfl
              refine e_eq (f_M_ends_j10.eq_1 _ _) ?_
              refine e_f (by decide) ?_
              refine e_some ?_
              refine e_f (by decide) ?_
              exact e_some ⟨hW88, hF88, ((rgl (-2) (-2) (-2) rfl).sub rfl)⟩
        · exact e_some ⟨hW, hF, ((rgl (-1) (-1) (-1) rfl).sub rfl)⟩
set_option maxRecDepth 20000 in
set_option maxHeartbeats 4000000 in
theorem t_M_entered {a1 : Int32} {a2 : Int32} {S : SS} (hW : WR S) (hx0 : rg (S.1 0 62) 0 599) : Ex2 (f_M_entered a1 a2 S) (fun r U => WR U ∧ Fr [41, 42] [(0, 62)] S U ∧ True) := by
  have hF : Fr [41, 42] [(0, 62)] S S := Fr.rf
  refine e_eq (f_M_entered.eq_1 _ _ _) ?_
  refine e_grd (inb_g (rg_rem 39 40 hx0 (by decide) rfl) rfl) ?_
  refine e_wrA (fun T1 eT1 hT1 v1 => ?_)
  have hW1 := WR.st (k := 41) hW trivial rfl eT1
  have hF1 := hF.tr hT1 rfl
  have f2 := rg_tr hx0 (hT1.1 0 _ rfl)
  refine e_grd (inb_g (rg_rem 39 40 f2 (by decide) rfl) rfl) ?_
  refine e_wrA (fun T3 eT3 hT3 v3 => ?_)
  have hW3 := WR.st (k := 42) hW1 trivial rfl eT3
  have hF3 := hF1.tr hT3 rfl
  have f4 := rg_tr f2 (hT3.1 0 _ rfl)
  refine e_wrO (fun T5 eT5 hT5 v5 => ?_)
  have hW5 := wo_0_62 hW3 ((rg_add 1 600 f4 (rgl (1) 1 1 rfl) rfl).sub rfl) eT5
  have hF5 := hF3.tr hT5 rfl
  exact e_some ⟨hW5, hF5, trivial⟩
set_option maxRecDepth 20000 in
set_option maxHeartbeats 4000000 in
theorem t_M_danger {a1 : Int32} {a2 : Int32} {S : SS} (hW : WR S) (hx0 : rg (S.1 0 62) 0 599) : Ex2 (f_M_danger a1 a2 S) (fun r U => WR U ∧ Fr [1, 27, 40, 41, 42] [(0, 0), (0, 1), (0, 2), (0, 3), (0, 5), (0, 60), (0, 61), (0, 62)] S U ∧ True) := by
  have hF : Fr [1, 27, 40, 41, 42] [(0, 0), (0, 1), (0, 2), (0, 3), (0, 5), (0, 60), (0, 61), (0, 62)] S S := Fr.rf
  refine e_eq (f_M_danger.eq_1 _ _ _) ?_
  refine e_i (fun q1 => ?_) (fun q1 => ?_)
  · exact e_some ⟨hW, hF, trivial⟩
  · have f3 := nlt_l (rgt _) (rgl 0 0 0 rfl) q1
    refine e_i (fun q4 => ?_) (fun q4 => ?_)
    · have f5 := le_l f3 (rgl (9) 9 9 rfl) q4
      refine e_cV (t_M_begin hW) (fun T6 p6 => ?_)
      obtain ⟨hW6, hT6⟩ := p6
      have hF6 := hF.tr hT6 rfl
      have f7 := rg_tr hx0 (hT6.1 0 _ rfl)
      refine e_cV (t_M_keep hW6) (fun T8 p8 => ?_)
      obtain ⟨hW8, hT8⟩ := p8
      have hF8 := hF6.tr hT8 rfl
      have f9 := rg_tr f7 (hT8.1 0 _ rfl)
      refine e_bnd ?_
      refine e_eq (f_M_missThing.eq_1 _ _ _) ?_
      refine e_i (fun q10 => ?_) (fun q10 => ?_)
      · refine e_some ?_
        refine e_bnd ?_
        refine e_eq (f_M_ends.eq_1 _ _) ?_
        refine e_f (by decide) ?_
        refine e_cE (t_M_found hW8 ((rgl (3) 3 3 rfl).sub rfl)) (fun u12 T12 p12 => ?_)
        obtain ⟨hW12, hT12, hr12⟩ := p12
        have hF12 := hF8.tr hT12 rfl
        have f13 := rg_tr f9 (hT12.1 0 _ rfl)
        refine e_eq (f_M_ends_j10.eq_1 _ _) ?_
        refine e_f (by decide) ?_
        refine e_some ?_
        refine e_f (by decide) ?_
        refine e_cE (t_M_entered hW12 f13) (fun u14 T14 p14 => ?_)
        obtain ⟨hW14, hT14, hr14⟩ := p14
        have hF14 := hF12.tr hT14 rfl
        exact e_some ⟨hW14, hF14, trivial⟩
      · have f15 := nlt_l (rgt _) (rgl 0 0 0 rfl) q10
        refine e_i (fun q16 => ?_) (fun q16 => ?_)
        · have f17 := lt_l 71 f15 (rgl (72) 72 72 rfl) q16 rfl
          refine e_i (fun q18 => ?_) (fun q18 => ?_)
          · refine e_some ?_
            refine e_bnd ?_
            refine e_eq (f_M_ends.eq_1 _ _) ?_
            refine e_f (by decide) ?_
            refine e_cE (t_M_found hW8 ((rgl (1) 1 1 rfl).sub rfl)) (fun u20 T20 p20 => ?_)
            obtain ⟨hW20, hT20, hr20⟩ := p20
            have hF20 := hF8.tr hT20 rfl
            have f21 := rg_tr f9 (hT20.1 0 _ rfl)
            refine e_eq (f_M_ends_j10.eq_1 _ _) ?_
            refine e_f (by decide) ?_
            refine e_some ?_
            refine e_f (by decide) ?_
            refine e_cE (t_M_entered hW20 f21) (fun u23 T23 p23 => ?_)
            obtain ⟨hW23, hT23, hr23⟩ := p23
            have hF23 := hF20.tr hT23 rfl
            exact e_some ⟨hW23, hF23, trivial⟩
          · refine e_grd (inb_g f17 rfl) ?_
            refine e_i (fun q26 => ?_) (fun q26 => ?_)
            · refine e_some ?_
              refine e_bnd ?_
              refine e_eq (f_M_ends.eq_1 _ _) ?_
              refine e_f (by decide) ?_
              refine e_cE (t_M_found hW8 ((rgl (1) 1 1 rfl).sub rfl)) (fun u28 T28 p28 => ?_)
              obtain ⟨hW28, hT28, hr28⟩ := p28
              have hF28 := hF8.tr hT28 rfl
              have f29 := rg_tr f9 (hT28.1 0 _ rfl)
              refine e_eq (f_M_ends_j10.eq_1 _ _) ?_
              refine e_f (by decide) ?_
              refine e_some ?_
              refine e_f (by decide) ?_
              refine e_cE (t_M_entered hW28 f29) (fun u33 T33 p33 => ?_)
              obtain ⟨hW33, hT33, hr33⟩ := p33
              have hF33 := hF28.tr hT33 rfl
              exact e_some ⟨hW33, hF33, trivial⟩
            · refine e_bnd ?_
              refine e_eq (f_M_isSuch.eq_1 _ _ _) ?_
              refine e_grd (inb_g f17 rfl) ?_
              refine e_nmG (fun w38 hw38 => ?_)
              refine e_t rfl ?_
              refine e_i (fun q39 => ?_) (fun q39 => ?_)
              · refine e_some ?_
                refine e_t (by decide) ?_
                refine e_some ?_
                refine e_bnd ?_
                refine e_eq (f_M_ends.eq_1 _ _) ?_
                refine e_f (by decide) ?_
                refine e_cE (t_M_found hW8 ((rgl (2) 2 2 rfl).sub rfl)) (fun u42 T42 p42 => ?_)
                obtain ⟨hW42, hT42, hr42⟩ := p42
                have hF42 := hF8.tr hT42 rfl
                have f43 := rg_tr f9 (hT42.1 0 _ rfl)
                refine e_eq (f_M_ends_j10.eq_1 _ _) ?_
                refine e_f (by decide) ?_
                refine e_some ?_
                refine e_f (by decide) ?_
                refine e_cE (t_M_entered hW42 f43) (fun u48 T48 p48 => ?_)
                obtain ⟨hW48, hT48, hr48⟩ := p48
                have hF48 := hF42.tr hT48 rfl
                exact e_some ⟨hW48, hF48, trivial⟩
              · refine e_some ?_
                refine e_f (by decide) ?_
                refine e_some ?_
                refine e_bnd ?_
                refine e_eq (f_M_ends.eq_1 _ _) ?_
                refine e_t (by decide) ?_
                refine e_eq (f_M_ends_j10.eq_1 _ _) ?_
                refine e_t (by decide) ?_
                refine e_some ?_
                refine e_t (by decide) ?_
                refine e_grd (inb_g f17 rfl) ?_
                refine e_nmG (fun w55 hw55 => ?_)
                refine e_grd (inb_g f17 rfl) ?_
                refine e_wrA (fun T57 eT57 hT57 v57 => ?_)
                have hW57 := wo_27 hW8 f5 eT57
                have hF57 := hF8.tr hT57 rfl
                have f58 := rg_tr f9 (hT57.1 0 _ rfl)
                refine e_cE (t_M_entered hW57 f58) (fun u64 T64 p64 => ?_)
                obtain ⟨hW64, hT64, hr64⟩ := p64
                have hF64 := hF57.tr hT64 rfl
                exact e_some ⟨hW64, hF64, trivial⟩
        · refine e_some ?_
          refine e_bnd ?_
          refine e_eq (f_M_ends.eq_1 _ _) ?_
          refine e_f (by decide) ?_
          refine e_cE (t_M_found hW8 ((rgl (3) 3 3 rfl).sub rfl)) (fun u71 T71 p71 => ?_)
          obtain ⟨hW71, hT71, hr71⟩ := p71
          have hF71 := hF8.tr hT71 rfl
          have f72 := rg_tr f9 (hT71.1 0 _ rfl)
          refine e_eq (f_M_ends_j10.eq_1 _ _) ?_
          refine e_f (by decide) ?_
          refine e_some ?_
          refine e_f (by decide) ?_
          refine e_cE (t_M_entered hW71 f72) (fun u73 T73 p73 => ?_)
          obtain ⟨hW73, hT73, hr73⟩ := p73
          have hF73 := hF71.tr hT73 rfl
          exact e_some ⟨hW73, hF73, trivial⟩
    · exact e_some ⟨hW, hF, trivial⟩
set_option maxRecDepth 20000 in
set_option maxHeartbeats 4000000 in
theorem t_M_hold {a1 : Int32} {a2 : Int32} {S : SS} (hW : WR S) (hx0 : rg (S.1 0 62) 0 599) : Ex2 (f_M_hold a1 a2 S) (fun r U => WR U ∧ Fr [1, 25, 40, 41, 42] [(0, 0), (0, 1), (0, 2), (0, 3), (0, 5), (0, 60), (0, 61), (0, 62)] S U ∧ True) := by
  have hF : Fr [1, 25, 40, 41, 42] [(0, 0), (0, 1), (0, 2), (0, 3), (0, 5), (0, 60), (0, 61), (0, 62)] S S := Fr.rf
  refine e_eq (f_M_hold.eq_1 _ _ _) ?_
  refine e_i (fun q1 => ?_) (fun q1 => ?_)
  · refine e_eq (f_M_hold_j19.eq_1 _ _ _) ?_
    refine e_cV (t_M_begin hW) (fun T3 p3 => ?_)
    obtain ⟨hW3, hT3⟩ := p3
    have hF3 := hF.tr hT3 rfl
    have f4 := rg_tr hx0 (hT3.1 0 _ rfl)
    refine e_cV (t_M_keep hW3) (fun T5 p5 => ?_)
    obtain ⟨hW5, hT5⟩ := p5
    have hF5 := hF3.tr hT5 rfl
    have f6 := rg_tr f4 (hT5.1 0 _ rfl)
    refine e_bnd ?_
    refine e_eq (f_M_missThing.eq_1 _ _ _) ?_
    refine e_i (fun q7 => ?_) (fun q7 => ?_)
    · refine e_some ?_
      refine e_bnd ?_
      refine e_eq (f_M_ends.eq_1 _ _) ?_
      refine e_f (by decide) ?_
      refine e_cE (t_M_found hW5 ((rgl (3) 3 3 rfl).sub rfl)) (fun u9 T9 p9 => ?_)
      obtain ⟨hW9, hT9, hr9⟩ := p9
      have hF9 := hF5.tr hT9 rfl
      have f10 := rg_tr f6 (hT9.1 0 _ rfl)
      refine e_eq (f_M_ends_j10.eq_1 _ _) ?_
      refine e_f (by decide) ?_
      refine e_some ?_
      refine e_f (by decide) ?_
      refine e_cE (t_M_entered hW9 f10) (fun u11 T11 p11 => ?_)
      obtain ⟨hW11, hT11, hr11⟩ := p11
      have hF11 := hF9.tr hT11 rfl
      exact e_some ⟨hW11, hF11, trivial⟩
    · have f12 := nlt_l (rgt _) (rgl 0 0 0 rfl) q7
      refine e_i (fun q13 => ?_) (fun q13 => ?_)
      · have f14 := lt_l 71 f12 (rgl (72) 72 72 rfl) q13 rfl
        refine e_i (fun q15 => ?_) (fun q15 => ?_)
        · refine e_some ?_
          refine e_bnd ?_
          refine e_eq (f_M_ends.eq_1 _ _) ?_
          refine e_f (by decide) ?_
          refine e_cE (t_M_found hW5 ((rgl (1) 1 1 rfl).sub rfl)) (fun u17 T17 p17 => ?_)
          obtain ⟨hW17, hT17, hr17⟩ := p17
          have hF17 := hF5.tr hT17 rfl
          have f18 := rg_tr f6 (hT17.1 0 _ rfl)
          refine e_eq (f_M_ends_j10.eq_1 _ _) ?_
          refine e_f (by decide) ?_
          refine e_some ?_
          refine e_f (by decide) ?_
          refine e_cE (t_M_entered hW17 f18) (fun u20 T20 p20 => ?_)
          obtain ⟨hW20, hT20, hr20⟩ := p20
          have hF20 := hF17.tr hT20 rfl
          exact e_some ⟨hW20, hF20, trivial⟩
        · refine e_grd (inb_g f14 rfl) ?_
          refine e_i (fun q23 => ?_) (fun q23 => ?_)
          · refine e_some ?_
            refine e_bnd ?_
            refine e_eq (f_M_ends.eq_1 _ _) ?_
            refine e_f (by decide) ?_
            refine e_cE (t_M_found hW5 ((rgl (1) 1 1 rfl).sub rfl)) (fun u25 T25 p25 => ?_)
            obtain ⟨hW25, hT25, hr25⟩ := p25
            have hF25 := hF5.tr hT25 rfl
            have f26 := rg_tr f6 (hT25.1 0 _ rfl)
            refine e_eq (f_M_ends_j10.eq_1 _ _) ?_
            refine e_f (by decide) ?_
            refine e_some ?_
            refine e_f (by decide) ?_
            refine e_cE (t_M_entered hW25 f26) (fun u30 T30 p30 => ?_)
            obtain ⟨hW30, hT30, hr30⟩ := p30
            have hF30 := hF25.tr hT30 rfl
            exact e_some ⟨hW30, hF30, trivial⟩
          · refine e_bnd ?_
            refine e_eq (f_M_isSuch.eq_1 _ _ _) ?_
            refine e_grd (inb_g f14 rfl) ?_
            refine e_nmG (fun w35 hw35 => ?_)
            refine e_f (by decide) ?_
            refine e_f (by decide) ?_
            refine e_f (by decide) ?_
            refine e_f (by decide) ?_
            refine e_some ?_
            refine e_f (by decide) ?_
            refine e_some ?_
            refine e_bnd ?_
            refine e_eq (f_M_ends.eq_1 _ _) ?_
            refine e_t (by decide) ?_
            refine e_eq (f_M_ends_j10.eq_1 _ _) ?_
            refine e_t (by decide) ?_
            refine e_some ?_
            refine e_t (by decide) ?_
            refine e_grd (inb_g f14 rfl) ?_
            refine e_nmG (fun w36 hw36 => ?_)
            refine e_grd (inb_g f14 rfl) ?_
            refine e_wrA (fun T37 eT37 hT37 v37 => ?_)
            have hW37 := WR.st (k := 25) hW5 trivial rfl eT37
            have hF37 := hF5.tr hT37 rfl
            have f38 := rg_tr f6 (hT37.1 0 _ rfl)
            refine e_cE (t_M_entered hW37 f38) (fun u43 T43 p43 => ?_)
            obtain ⟨hW43, hT43, hr43⟩ := p43
            have hF43 := hF37.tr hT43 rfl
            exact e_some ⟨hW43, hF43, trivial⟩
      · refine e_some ?_
        refine e_bnd ?_
        refine e_eq (f_M_ends.eq_1 _ _) ?_
        refine e_f (by decide) ?_
        refine e_cE (t_M_found hW5 ((rgl (3) 3 3 rfl).sub rfl)) (fun u49 T49 p49 => ?_)
        obtain ⟨hW49, hT49, hr49⟩ := p49
        have hF49 := hF5.tr hT49 rfl
        have f50 := rg_tr f6 (hT49.1 0 _ rfl)
        refine e_eq (f_M_ends_j10.eq_1 _ _) ?_
        refine e_f (by decide) ?_
        refine e_some ?_
        refine e_f (by decide) ?_
        refine e_cE (t_M_entered hW49 f50) (fun u51 T51 p51 => ?_)
        obtain ⟨hW51, hT51, hr51⟩ := p51
        have hF51 := hF49.tr hT51 rfl
        exact e_some ⟨hW51, hF51, trivial⟩
  · refine e_i (fun q52 => ?_) (fun q52 => ?_)
    · exact e_some ⟨hW, hF, trivial⟩
    · refine e_i (fun q55 => ?_) (fun q55 => ?_)
      · refine e_eq (f_M_hold_j19.eq_1 _ _ _) ?_
        refine e_cV (t_M_begin hW) (fun T57 p57 => ?_)
        obtain ⟨hW57, hT57⟩ := p57
        have hF57 := hF.tr hT57 rfl
        have f58 := rg_tr hx0 (hT57.1 0 _ rfl)
        refine e_cV (t_M_keep hW57) (fun T59 p59 => ?_)
        obtain ⟨hW59, hT59⟩ := p59
        have hF59 := hF57.tr hT59 rfl
        have f60 := rg_tr f58 (hT59.1 0 _ rfl)
        refine e_bnd ?_
        refine e_eq (f_M_missThing.eq_1 _ _ _) ?_
        refine e_i (fun q61 => ?_) (fun q61 => ?_)
        · refine e_some ?_
          refine e_bnd ?_
          refine e_eq (f_M_ends.eq_1 _ _) ?_
          refine e_f (by decide) ?_
          refine e_cE (t_M_found hW59 ((rgl (3) 3 3 rfl).sub rfl)) (fun u63 T63 p63 => ?_)
          obtain ⟨hW63, hT63, hr63⟩ := p63
          have hF63 := hF59.tr hT63 rfl
          have f64 := rg_tr f60 (hT63.1 0 _ rfl)
          refine e_eq (f_M_ends_j10.eq_1 _ _) ?_
          refine e_f (by decide) ?_
          refine e_some ?_
          refine e_f (by decide) ?_
          refine e_cE (t_M_entered hW63 f64) (fun u65 T65 p65 => ?_)
          obtain ⟨hW65, hT65, hr65⟩ := p65
          have hF65 := hF63.tr hT65 rfl
          exact e_some ⟨hW65, hF65, trivial⟩
        · have f66 := nlt_l (rgt _) (rgl 0 0 0 rfl) q61
          refine e_i (fun q67 => ?_) (fun q67 => ?_)
          · have f68 := lt_l 71 f66 (rgl (72) 72 72 rfl) q67 rfl
            refine e_i (fun q69 => ?_) (fun q69 => ?_)
            · refine e_some ?_
              refine e_bnd ?_
              refine e_eq (f_M_ends.eq_1 _ _) ?_
              refine e_f (by decide) ?_
              refine e_cE (t_M_found hW59 ((rgl (1) 1 1 rfl).sub rfl)) (fun u71 T71 p71 => ?_)
              obtain ⟨hW71, hT71, hr71⟩ := p71
              have hF71 := hF59.tr hT71 rfl
              have f72 := rg_tr f60 (hT71.1 0 _ rfl)
              refine e_eq (f_M_ends_j10.eq_1 _ _) ?_
              refine e_f (by decide) ?_
              refine e_some ?_
              refine e_f (by decide) ?_
              refine e_cE (t_M_entered hW71 f72) (fun u74 T74 p74 => ?_)
              obtain ⟨hW74, hT74, hr74⟩ := p74
              have hF74 := hF71.tr hT74 rfl
              exact e_some ⟨hW74, hF74, trivial⟩
            · refine e_grd (inb_g f68 rfl) ?_
              refine e_i (fun q77 => ?_) (fun q77 => ?_)
              · refine e_some ?_
                refine e_bnd ?_
                refine e_eq (f_M_ends.eq_1 _ _) ?_
                refine e_f (by decide) ?_
                refine e_cE (t_M_found hW59 ((rgl (1) 1 1 rfl).sub rfl)) (fun u79 T79 p79 => ?_)
                obtain ⟨hW79, hT79, hr79⟩ := p79
                have hF79 := hF59.tr hT79 rfl
                have f80 := rg_tr f60 (hT79.1 0 _ rfl)
                refine e_eq (f_M_ends_j10.eq_1 _ _) ?_
                refine e_f (by decide) ?_
                refine e_some ?_
                refine e_f (by decide) ?_
                refine e_cE (t_M_entered hW79 f80) (fun u84 T84 p84 => ?_)
                obtain ⟨hW84, hT84, hr84⟩ := p84
                have hF84 := hF79.tr hT84 rfl
                exact e_some ⟨hW84, hF84, trivial⟩
              · refine e_bnd ?_
                refine e_eq (f_M_isSuch.eq_1 _ _ _) ?_
                refine e_grd (inb_g f68 rfl) ?_
                refine e_nmG (fun w89 hw89 => ?_)
                refine e_f (by decide) ?_
                refine e_f (by decide) ?_
                refine e_f (by decide) ?_
                refine e_f (by decide) ?_
                refine e_some ?_
                refine e_f (by decide) ?_
                refine e_some ?_
                refine e_bnd ?_
                refine e_eq (f_M_ends.eq_1 _ _) ?_
                refine e_t (by decide) ?_
                refine e_eq (f_M_ends_j10.eq_1 _ _) ?_
                refine e_t (by decide) ?_
                refine e_some ?_
                refine e_t (by decide) ?_
                refine e_grd (inb_g f68 rfl) ?_
                refine e_nmG (fun w90 hw90 => ?_)
                refine e_grd (inb_g f68 rfl) ?_
                refine e_wrA (fun T91 eT91 hT91 v91 => ?_)
                have hW91 := WR.st (k := 25) hW59 trivial rfl eT91
                have hF91 := hF59.tr hT91 rfl
                have f92 := rg_tr f60 (hT91.1 0 _ rfl)
                refine e_cE (t_M_entered hW91 f92) (fun u97 T97 p97 => ?_)
                obtain ⟨hW97, hT97, hr97⟩ := p97
                have hF97 := hF91.tr hT97 rfl
                exact e_some ⟨hW97, hF97, trivial⟩
          · refine e_some ?_
            refine e_bnd ?_
            refine e_eq (f_M_ends.eq_1 _ _) ?_
            refine e_f (by decide) ?_
            refine e_cE (t_M_found hW59 ((rgl (3) 3 3 rfl).sub rfl)) (fun u103 T103 p103 => ?_)
            obtain ⟨hW103, hT103, hr103⟩ := p103
            have hF103 := hF59.tr hT103 rfl
            have f104 := rg_tr f60 (hT103.1 0 _ rfl)
            refine e_eq (f_M_ends_j10.eq_1 _ _) ?_
            refine e_f (by decide) ?_
            refine e_some ?_
            refine e_f (by decide) ?_
            refine e_cE (t_M_entered hW103 f104) (fun u105 T105 p105 => ?_)
            obtain ⟨hW105, hT105, hr105⟩ := p105
            have hF105 := hF103.tr hT105 rfl
            exact e_some ⟨hW105, hF105, trivial⟩
      · exact e_some ⟨hW, hF, trivial⟩
set_option maxRecDepth 20000 in
set_option maxHeartbeats 4000000 in
theorem t_M_jam {a1 : Int32} {a2 : Int32} {S : SS} (hW : WR S) (hx0 : rg (S.1 0 62) 0 599) : Ex2 (f_M_jam a1 a2 S) (fun r U => WR U ∧ Fr [1, 26, 40, 41, 42] [(0, 0), (0, 1), (0, 2), (0, 3), (0, 5), (0, 60), (0, 61), (0, 62)] S U ∧ True) := by
  have hF : Fr [1, 26, 40, 41, 42] [(0, 0), (0, 1), (0, 2), (0, 3), (0, 5), (0, 60), (0, 61), (0, 62)] S S := Fr.rf
  refine e_eq (f_M_jam.eq_1 _ _ _) ?_
  refine e_i (fun q1 => ?_) (fun q1 => ?_)
  · exact e_some ⟨hW, hF, trivial⟩
  · have f3 := nlt_l (rgt _) (rgl 0 0 0 rfl) q1
    refine e_i (fun q4 => ?_) (fun q4 => ?_)
    · have f5 := le_l f3 (rgl (50) 50 50 rfl) q4
      refine e_cV (t_M_begin hW) (fun T6 p6 => ?_)
      obtain ⟨hW6, hT6⟩ := p6
      have hF6 := hF.tr hT6 rfl
      have f7 := rg_tr hx0 (hT6.1 0 _ rfl)
      refine e_cV (t_M_keep hW6) (fun T8 p8 => ?_)
      obtain ⟨hW8, hT8⟩ := p8
      have hF8 := hF6.tr hT8 rfl
      have f9 := rg_tr f7 (hT8.1 0 _ rfl)
      refine e_bnd ?_
      refine e_eq (f_M_missThing.eq_1 _ _ _) ?_
      refine e_i (fun q10 => ?_) (fun q10 => ?_)
      · refine e_some ?_
        refine e_bnd ?_
        refine e_eq (f_M_ends.eq_1 _ _) ?_
        refine e_f (by decide) ?_
        refine e_cE (t_M_found hW8 ((rgl (3) 3 3 rfl).sub rfl)) (fun u12 T12 p12 => ?_)
        obtain ⟨hW12, hT12, hr12⟩ := p12
        have hF12 := hF8.tr hT12 rfl
        have f13 := rg_tr f9 (hT12.1 0 _ rfl)
        refine e_eq (f_M_ends_j10.eq_1 _ _) ?_
        refine e_f (by decide) ?_
        refine e_some ?_
        refine e_f (by decide) ?_
        refine e_cE (t_M_entered hW12 f13) (fun u14 T14 p14 => ?_)
        obtain ⟨hW14, hT14, hr14⟩ := p14
        have hF14 := hF12.tr hT14 rfl
        exact e_some ⟨hW14, hF14, trivial⟩
      · have f15 := nlt_l (rgt _) (rgl 0 0 0 rfl) q10
        refine e_i (fun q16 => ?_) (fun q16 => ?_)
        · have f17 := lt_l 71 f15 (rgl (72) 72 72 rfl) q16 rfl
          refine e_i (fun q18 => ?_) (fun q18 => ?_)
          · refine e_some ?_
            refine e_bnd ?_
            refine e_eq (f_M_ends.eq_1 _ _) ?_
            refine e_f (by decide) ?_
            refine e_cE (t_M_found hW8 ((rgl (1) 1 1 rfl).sub rfl)) (fun u20 T20 p20 => ?_)
            obtain ⟨hW20, hT20, hr20⟩ := p20
            have hF20 := hF8.tr hT20 rfl
            have f21 := rg_tr f9 (hT20.1 0 _ rfl)
            refine e_eq (f_M_ends_j10.eq_1 _ _) ?_
            refine e_f (by decide) ?_
            refine e_some ?_
            refine e_f (by decide) ?_
            refine e_cE (t_M_entered hW20 f21) (fun u23 T23 p23 => ?_)
            obtain ⟨hW23, hT23, hr23⟩ := p23
            have hF23 := hF20.tr hT23 rfl
            exact e_some ⟨hW23, hF23, trivial⟩
          · refine e_grd (inb_g f17 rfl) ?_
            refine e_i (fun q26 => ?_) (fun q26 => ?_)
            · refine e_some ?_
              refine e_bnd ?_
              refine e_eq (f_M_ends.eq_1 _ _) ?_
              refine e_f (by decide) ?_
              refine e_cE (t_M_found hW8 ((rgl (1) 1 1 rfl).sub rfl)) (fun u28 T28 p28 => ?_)
              obtain ⟨hW28, hT28, hr28⟩ := p28
              have hF28 := hF8.tr hT28 rfl
              have f29 := rg_tr f9 (hT28.1 0 _ rfl)
              refine e_eq (f_M_ends_j10.eq_1 _ _) ?_
              refine e_f (by decide) ?_
              refine e_some ?_
              refine e_f (by decide) ?_
              refine e_cE (t_M_entered hW28 f29) (fun u33 T33 p33 => ?_)
              obtain ⟨hW33, hT33, hr33⟩ := p33
              have hF33 := hF28.tr hT33 rfl
              exact e_some ⟨hW33, hF33, trivial⟩
            · refine e_bnd ?_
              refine e_eq (f_M_isSuch.eq_1 _ _ _) ?_
              refine e_grd (inb_g f17 rfl) ?_
              refine e_nmG (fun w38 hw38 => ?_)
              refine e_f (by decide) ?_
              refine e_f (by decide) ?_
              refine e_f (by decide) ?_
              refine e_f (by decide) ?_
              refine e_some ?_
              refine e_f (by decide) ?_
              refine e_some ?_
              refine e_bnd ?_
              refine e_eq (f_M_ends.eq_1 _ _) ?_
              refine e_t (by decide) ?_
              refine e_eq (f_M_ends_j10.eq_1 _ _) ?_
              refine e_t (by decide) ?_
              refine e_some ?_
              refine e_t (by decide) ?_
              refine e_grd (inb_g f17 rfl) ?_
              refine e_nmG (fun w39 hw39 => ?_)
              refine e_grd (inb_g f17 rfl) ?_
              refine e_wrA (fun T41 eT41 hT41 v41 => ?_)
              have hW41 := wo_26 hW8 f5 eT41
              have hF41 := hF8.tr hT41 rfl
              have f42 := rg_tr f9 (hT41.1 0 _ rfl)
              refine e_cE (t_M_entered hW41 f42) (fun u47 T47 p47 => ?_)
              obtain ⟨hW47, hT47, hr47⟩ := p47
              have hF47 := hF41.tr hT47 rfl
              exact e_some ⟨hW47, hF47, trivial⟩
        · refine e_some ?_
          refine e_bnd ?_
          refine e_eq (f_M_ends.eq_1 _ _) ?_
          refine e_f (by decide) ?_
          refine e_cE (t_M_found hW8 ((rgl (3) 3 3 rfl).sub rfl)) (fun u53 T53 p53 => ?_)
          obtain ⟨hW53, hT53, hr53⟩ := p53
          have hF53 := hF8.tr hT53 rfl
          have f54 := rg_tr f9 (hT53.1 0 _ rfl)
          refine e_eq (f_M_ends_j10.eq_1 _ _) ?_
          refine e_f (by decide) ?_
          refine e_some ?_
          refine e_f (by decide) ?_
          refine e_cE (t_M_entered hW53 f54) (fun u55 T55 p55 => ?_)
          obtain ⟨hW55, hT55, hr55⟩ := p55
          have hF55 := hF53.tr hT55 rfl
          exact e_some ⟨hW55, hF55, trivial⟩
    · exact e_some ⟨hW, hF, trivial⟩
set_option maxRecDepth 20000 in
set_option maxHeartbeats 4000000 in
theorem t_M_raise {a1 : Int32} {S : SS} (hW : WR S) : Ex2 (f_M_raise a1 S) (fun r U => WR U ∧ Fr [1] [(0, 0), (0, 1), (0, 2), (0, 3), (0, 5)] S U ∧ rg r (-2) (-2)) := by
  have hF : Fr [1] [(0, 0), (0, 1), (0, 2), (0, 3), (0, 5)] S S := Fr.rf
  refine e_eq (f_M_raise.eq_1 _ _) ?_
  refine e_cV (t_M_begin hW) (fun T1 p1 => ?_)
  obtain ⟨hW1, hT1⟩ := p1
  have hF1 := hF.tr hT1 rfl
  refine e_bnd ?_
  refine e_eq (f_M_missThing.eq_1 _ _ _) ?_
  refine e_i (fun q2 => ?_) (fun q2 => ?_)
  · refine e_some ?_
    refine e_f (by decide) ?_
    refine e_cE (t_M_found hW1 ((rgl (3) 3 3 rfl).sub rfl)) (fun u4 T4 p4 => ?_)
    obtain ⟨hW4, hT4, hr4⟩ := p4
    have hF4 := hF1.tr hT4 rfl
    exact e_some ⟨hW4, hF4, hr4⟩
  · have f5 := nlt_l (rgt _) (rgl 0 0 0 rfl) q2
    refine e_i (fun q6 => ?_) (fun q6 => ?_)
    · have f7 := lt_l 71 f5 (rgl (72) 72 72 rfl) q6 rfl
      refine e_i (fun q8 => ?_) (fun q8 => ?_)
      · refine e_some ?_
        refine e_f (by decide) ?_
        refine e_cE (t_M_found hW1 ((rgl (1) 1 1 rfl).sub rfl)) (fun u10 T10 p10 => ?_)
        obtain ⟨hW10, hT10, hr10⟩ := p10
        have hF10 := hF1.tr hT10 rfl
        exact e_some ⟨hW10, hF10, hr10⟩
      · refine e_grd (inb_g f7 rfl) ?_
        refine e_i (fun q13 => ?_) (fun q13 => ?_)
        · refine e_some ?_
          refine e_f (by decide) ?_
          refine e_cE (t_M_found hW1 ((rgl (1) 1 1 rfl).sub rfl)) (fun u15 T15 p15 => ?_)
          obtain ⟨hW15, hT15, hr15⟩ := p15
          have hF15 := hF1.tr hT15 rfl
          exact e_some ⟨hW15, hF15, hr15⟩
        · refine e_bnd ?_
          refine e_eq (f_M_isSuch.eq_1 _ _ _) ?_
          refine e_grd (inb_g f7 rfl) ?_
          refine e_nmG (fun w20 hw20 => ?_)
          refine e_f (by decide) ?_
          refine e_f (by decide) ?_
          refine e_f (by decide) ?_
          refine e_f (by decide) ?_
          refine e_some ?_
          refine e_f (by decide) ?_
          refine e_some ?_
          refine e_t (by decide) ?_
          refine e_bnd ?_
          refine e_eq (f_M_raised.eq_1 _ _) ?_
          refine e_grd (inb_g f7 rfl) ?_
          refine e_wrO (fun T21 eT21 hT21 v21 => ?_)
          have hW21 := WR.st (k := 0) (i := 1) hW1 trivial rfl eT21
          have hF21 := hF1.tr hT21 rfl
          refine e_grd (inb_g f7 rfl) ?_
          refine e_i (fun q25 => ?_) (fun q25 => ?_)
          · refine e_some ?_
            refine e_cE (t_M_found hW21 ((rgl (7) 7 7 rfl).sub rfl)) (fun u27 T27 p27 => ?_)
            obtain ⟨hW27, hT27, hr27⟩ := p27
            have hF27 := hF21.tr hT27 rfl
            exact e_some ⟨hW27, hF27, hr27⟩
          · refine e_some ?_
            refine e_cE (t_M_found hW21 ((rgl (8) 8 8 rfl).sub rfl)) (fun u32 T32 p32 => ?_)
            obtain ⟨hW32, hT32, hr32⟩ := p32
            have hF32 := hF21.tr hT32 rfl
            exact e_some ⟨hW32, hF32, hr32⟩
    · refine e_some ?_
      refine e_f (by decide) ?_
      refine e_cE (t_M_found hW1 ((rgl (3) 3 3 rfl).sub rfl)) (fun u37 T37 p37 => ?_)
      obtain ⟨hW37, hT37, hr37⟩ := p37
      have hF37 := hF1.tr hT37 rfl
      exact e_some ⟨hW37, hF37, hr37⟩
set_option maxRecDepth 20000 in
set_option maxHeartbeats 4000000 in
theorem t_M_isUnder {a1 : Int32} {S : SS} (hW : WR S) (h0 : rg a1 0 39) : Ex2 (f_M_isUnder a1 S) (fun r U => WR U ∧ Fr [] [] S U ∧ rg r 0 1) := by
  have hF : Fr [] [] S S := Fr.rf
  refine e_eq (f_M_isUnder.eq_1 _ _) ?_
  refine e_grd (inb_g h0 rfl) ?_
  refine e_grd (inb_g h0 rfl) ?_
  refine e_bnd ?_
  refine e_eq (f_M_placeAtEnd.eq_1 _ _) ?_
  refine e_i (fun q1 => ?_) (fun q1 => ?_)
  · refine e_some ?_
    refine e_cE (t_M_standing hW) (fun u3 T3 p3 => ?_)
    obtain ⟨-, hT3, hr3⟩ := p3
    have eT3 := (fr_nil hT3).symm
    subst eT3
    refine e_i (fun q4 => ?_) (fun q4 => ?_)
    · exact e_some ⟨hW, hF, ((rgl (0) 0 0 rfl).sub rfl)⟩
    · exact e_some ⟨hW, hF, ((rgl (1) 1 1 rfl).sub rfl)⟩
  · refine e_grd (inb_g (rg_div 0 23 2 (ro_9 hW _) (by decide) rfl) rfl) ?_
    refine e_someG (fun w8 hw8 => ?_)
    refine e_cE (t_M_standing hW) (fun u9 T9 p9 => ?_)
    obtain ⟨-, hT9, hr9⟩ := p9
    have eT9 := (fr_nil hT9).symm
    subst eT9
    refine e_i (fun q10 => ?_) (fun q10 => ?_)
    · exact e_some ⟨hW, hF, ((rgl (0) 0 0 rfl).sub rfl)⟩
    · exact e_some ⟨hW, hF, ((rgl (1) 1 1 rfl).sub rfl)⟩
set_option maxRecDepth 20000 in
set_option maxHeartbeats 4000000 in
theorem t_M_turn {a1 : Int32} {a2 : Int32} {S : SS} (hW : WR S) (hx0 : rg (S.1 0 62) 0 599) : Ex2 (f_M_turn a1 a2 S) (fun r U => WR U ∧ Fr [1, 10, 40, 41, 42] [(0, 0), (0, 1), (0, 2), (0, 3), (0, 5), (0, 60), (0, 61), (0, 62)] S U ∧ True) := by
  have hF : Fr [1, 10, 40, 41, 42] [(0, 0), (0, 1), (0, 2), (0, 3), (0, 5), (0, 60), (0, 61), (0, 62)] S S := Fr.rf
  refine e_eq (f_M_turn.eq_1 _ _ _) ?_
  refine e_cV (t_M_begin hW) (fun T1 p1 => ?_)
  obtain ⟨hW1, hT1⟩ := p1
  have hF1 := hF.tr hT1 rfl
  have f2 := rg_tr hx0 (hT1.1 0 _ rfl)
  refine e_cV (t_M_keep hW1) (fun T3 p3 => ?_)
  obtain ⟨hW3, hT3⟩ := p3
  have hF3 := hF1.tr hT3 rfl
  have f4 := rg_tr f2 (hT3.1 0 _ rfl)
  refine e_bnd ?_
  refine e_eq (f_M_missTurn.eq_1 _ _ _) ?_
  refine e_bnd ?_
  refine e_eq (f_M_missPoint.eq_1 _ _) ?_
  refine e_i (fun q5 => ?_) (fun q5 => ?_)
  · refine e_some ?_
    refine e_f (by decide) ?_
    refine e_some ?_
    refine e_bnd ?_
    refine e_eq (f_M_ends.eq_1 _ _) ?_
    refine e_f (by decide) ?_
    refine e_cE (t_M_found hW3 ((rgl (3) 3 3 rfl).sub rfl)) (fun u7 T7 p7 => ?_)
    obtain ⟨hW7, hT7, hr7⟩ := p7
    have hF7 := hF3.tr hT7 rfl
    have f8 := rg_tr f4 (hT7.1 0 _ rfl)
    refine e_eq (f_M_ends_j10.eq_1 _ _) ?_
    refine e_f (by decide) ?_
    refine e_some ?_
    refine e_f (by decide) ?_
    refine e_cE (t_M_entered hW7 f8) (fun u9 T9 p9 => ?_)
    obtain ⟨hW9, hT9, hr9⟩ := p9
    have hF9 := hF7.tr hT9 rfl
    exact e_some ⟨hW9, hF9, trivial⟩
  · have f10 := nlt_l (rgt _) (rgl 0 0 0 rfl) q5
    refine e_i (fun q11 => ?_) (fun q11 => ?_)
    · have f12 := lt_l 39 f10 (rgl (40) 40 40 rfl) q11 rfl
      refine e_i (fun q13 => ?_) (fun q13 => ?_)
      · refine e_some ?_
        refine e_t (by decide) ?_
        refine e_i (fun q15 => ?_) (fun q15 => ?_)
        · refine e_some ?_
          refine e_bnd ?_
          refine e_eq (f_M_ends.eq_1 _ _) ?_
          refine e_f (by decide) ?_
          refine e_cE (t_M_found hW3 ((rgl (3) 3 3 rfl).sub rfl)) (fun u17 T17 p17 => ?_)
          obtain ⟨hW17, hT17, hr17⟩ := p17
          have hF17 := hF3.tr hT17 rfl
          have f18 := rg_tr f4 (hT17.1 0 _ rfl)
          refine e_eq (f_M_ends_j10.eq_1 _ _) ?_
          refine e_f (by decide) ?_
          refine e_some ?_
          refine e_f (by decide) ?_
          refine e_cE (t_M_entered hW17 f18) (fun u20 T20 p20 => ?_)
          obtain ⟨hW20, hT20, hr20⟩ := p20
          have hF20 := hF17.tr hT20 rfl
          exact e_some ⟨hW20, hF20, trivial⟩
        · have f22 := nlt_l (rgt _) (rgl 0 0 0 rfl) q15
          refine e_grd (inb_g f12 rfl) ?_
          refine e_grd (inb_g (ro_9 hW3 _) rfl) ?_
          refine e_i (fun q23 => ?_) (fun q23 => ?_)
          · have f24 := lt_l 2 f22 (ro_6 hW3 _) q23 rfl
            refine e_grd (inb_g f12 rfl) ?_
            refine e_i (fun q26 => ?_) (fun q26 => ?_)
            · refine e_some ?_
              refine e_bnd ?_
              refine e_eq (f_M_ends.eq_1 _ _) ?_
              refine e_t (by decide) ?_
              refine e_eq (f_M_ends_j10.eq_1 _ _) ?_
              refine e_t (by decide) ?_
              refine e_some ?_
              refine e_t (by decide) ?_
              refine e_grd (inb_g f12 rfl) ?_
              refine e_nmG (fun w27 hw27 => ?_)
              refine e_grd (inb_g f12 rfl) ?_
              refine e_wrA (fun T29 eT29 hT29 v29 => ?_)
              have hW29 := wo_10 hW3 f24 eT29
              have hF29 := hF3.tr hT29 rfl
              have f30 := rg_tr f4 (hT29.1 0 _ rfl)
              refine e_cE (t_M_entered hW29 f30) (fun u33 T33 p33 => ?_)
              obtain ⟨hW33, hT33, hr33⟩ := p33
              have hF33 := hF29.tr hT33 rfl
              exact e_some ⟨hW33, hF33, trivial⟩
            · refine e_grd (inb_g f12 rfl) ?_
              refine e_wrO (fun T36 eT36 hT36 v36 => ?_)
              have hW36 := WR.st (k := 0) (i := 3) hW3 trivial rfl eT36
              have hF36 := hF3.tr hT36 rfl
              have f37 := rg_tr f4 (hT36.1 0 _ rfl)
              refine e_grd (inb_g f12 rfl) ?_
              refine e_i (fun q39 => ?_) (fun q39 => ?_)
              · refine e_cE (t_M_isUnder hW36 f12) (fun u41 T41 p41 => ?_)
                obtain ⟨-, hT41, hr41⟩ := p41
                have eT41 := (fr_nil hT41).symm
                subst eT41
                refine e_i (fun q42 => ?_) (fun q42 => ?_)
                · refine e_some ?_
                  refine e_bnd ?_
                  refine e_eq (f_M_ends.eq_1 _ _) ?_
                  refine e_t (by decide) ?_
                  refine e_eq (f_M_ends_j10.eq_1 _ _) ?_
                  refine e_t (by decide) ?_
                  refine e_some ?_
                  refine e_t (by decide) ?_
                  refine e_grd (inb_g f12 rfl) ?_
                  refine e_nmG (fun w44 hw44 => ?_)
                  refine e_grd (inb_g f12 rfl) ?_
                  refine e_wrA (fun T46 eT46 hT46 v46 => ?_)
                  have hW46 := wo_10 hW36 f24 eT46
                  have hF46 := hF36.tr hT46 rfl
                  have f47 := rg_tr f37 (hT46.1 0 _ rfl)
                  refine e_cE (t_M_entered hW46 f47) (fun u51 T51 p51 => ?_)
                  obtain ⟨hW51, hT51, hr51⟩ := p51
                  have hF51 := hF46.tr hT51 rfl
                  exact e_some ⟨hW51, hF51, trivial⟩
                · refine e_some ?_
                  refine e_bnd ?_
                  refine e_eq (f_M_ends.eq_1 _ _) ?_
                  refine e_f (by decide) ?_
                  refine e_cE (t_M_found hW36 ((rgl (12) 12 12 rfl).sub rfl)) (fun u56 T56 p56 => ?_)
                  obtain ⟨hW56, hT56, hr56⟩ := p56
                  have hF56 := hF36.tr hT56 rfl
                  have f57 := rg_tr f37 (hT56.1 0 _ rfl)
                  refine e_eq (f_M_ends_j10.eq_1 _ _) ?_
                  refine e_f (by decide) ?_
                  refine e_some ?_
                  refine e_f (by decide) ?_
                  refine e_cE (t_M_entered hW56 f57) (fun u60 T60 p60 => ?_)
                  obtain ⟨hW60, hT60, hr60⟩ := p60
                  have hF60 := hF56.tr hT60 rfl
                  exact e_some ⟨hW60, hF60, trivial⟩
              · refine e_some ?_
                refine e_bnd ?_
                refine e_eq (f_M_ends.eq_1 _ _) ?_
                refine e_f (by decide) ?_
                refine e_cE (t_M_found hW36 ((rgl (11) 11 11 rfl).sub rfl)) (fun u63 T63 p63 => ?_)
                obtain ⟨hW63, hT63, hr63⟩ := p63
                have hF63 := hF36.tr hT63 rfl
                have f64 := rg_tr f37 (hT63.1 0 _ rfl)
                refine e_eq (f_M_ends_j10.eq_1 _ _) ?_
                refine e_f (by decide) ?_
                refine e_some ?_
                refine e_f (by decide) ?_
                refine e_cE (t_M_entered hW63 f64) (fun u66 T66 p66 => ?_)
                obtain ⟨hW66, hT66, hr66⟩ := p66
                have hF66 := hF63.tr hT66 rfl
                exact e_some ⟨hW66, hF66, trivial⟩
          · refine e_some ?_
            refine e_bnd ?_
            refine e_eq (f_M_ends.eq_1 _ _) ?_
            refine e_f (by decide) ?_
            refine e_cE (t_M_found hW3 ((rgl (3) 3 3 rfl).sub rfl)) (fun u68 T68 p68 => ?_)
            obtain ⟨hW68, hT68, hr68⟩ := p68
            have hF68 := hF3.tr hT68 rfl
            have f69 := rg_tr f4 (hT68.1 0 _ rfl)
            refine e_eq (f_M_ends_j10.eq_1 _ _) ?_
            refine e_f (by decide) ?_
            refine e_some ?_
            refine e_f (by decide) ?_
            refine e_cE (t_M_entered hW68 f69) (fun u71 T71 p71 => ?_)
            obtain ⟨hW71, hT71, hr71⟩ := p71
            have hF71 := hF68.tr hT71 rfl
            exact e_some ⟨hW71, hF71, trivial⟩
      · refine e_some ?_
        refine e_f (by decide) ?_
        refine e_some ?_
        refine e_bnd ?_
        refine e_eq (f_M_ends.eq_1 _ _) ?_
        refine e_f (by decide) ?_
        refine e_cE (t_M_found hW3 ((rgl (1) 1 1 rfl).sub rfl)) (fun u74 T74 p74 => ?_)
        obtain ⟨hW74, hT74, hr74⟩ := p74
        have hF74 := hF3.tr hT74 rfl
        have f75 := rg_tr f4 (hT74.1 0 _ rfl)
        refine e_eq (f_M_ends_j10.eq_1 _ _) ?_
        refine e_f (by decide) ?_
        refine e_some ?_
        refine e_f (by decide) ?_
        refine e_cE (t_M_entered hW74 f75) (fun u77 T77 p77 => ?_)
        obtain ⟨hW77, hT77, hr77⟩ := p77
        have hF77 := hF74.tr hT77 rfl
        exact e_some ⟨hW77, hF77, trivial⟩
    · refine e_some ?_
      refine e_f (by decide) ?_
      refine e_some ?_
      refine e_bnd ?_
      refine e_eq (f_M_ends.eq_1 _ _) ?_
      refine e_f (by decide) ?_
      refine e_cE (t_M_found hW3 ((rgl (3) 3 3 rfl).sub rfl)) (fun u80 T80 p80 => ?_)
      obtain ⟨hW80, hT80, hr80⟩ := p80
      have hF80 := hF3.tr hT80 rfl
      have f81 := rg_tr f4 (hT80.1 0 _ rfl)
      refine e_eq (f_M_ends_j10.eq_1 _ _) ?_
      refine e_f (by decide) ?_
      refine e_some ?_
      refine e_f (by decide) ?_
      refine e_cE (t_M_entered hW80 f81) (fun u82 T82 p82 => ?_)
      obtain ⟨hW82, hT82, hr82⟩ := p82
      have hF82 := hF80.tr hT82 rfl
      exact e_some ⟨hW82, hF82, trivial⟩
set_option maxRecDepth 20000 in
set_option maxHeartbeats 4000000 in
theorem t_M_missEntry {a1 : Int32} {S : SS} (hW : WR S) (h0 : rg a1 0 95) : Ex2 (f_M_missEntry a1 S) (fun r U => WR U ∧ Fr [] [(0, 3)] S U ∧ rg r 0 12) := by
  have hF : Fr [] [(0, 3)] S S := Fr.rf
  refine e_eq (f_M_missEntry.eq_1 _ _) ?_
  refine e_grd (inb_g h0 rfl) ?_
  refine e_nmG (fun w1 hw1 => ?_)
  have f2 := rg_tr (ro_13 hW _) hw1
  refine e_grd (inb_g h0 rfl) ?_
  refine e_nmG (fun w3 hw3 => ?_)
  refine e_grd (inb_g f2 rfl) ?_
  refine e_i (fun q5 => ?_) (fun q5 => ?_)
  · refine e_grd (inb_g f2 rfl) ?_
    refine e_grd (inb_g (ro_9 hW _) rfl) ?_
    refine e_i (fun q7 => ?_) (fun q7 => ?_)
    · refine e_grd (inb_g f2 rfl) ?_
      refine e_i (fun q9 => ?_) (fun q9 => ?_)
      · exact e_some ⟨hW, hF, ((rgl (0) 0 0 rfl).sub rfl)⟩
      · refine e_cE (t_M_isUnder hW f2) (fun u10 T10 p10 => ?_)
        obtain ⟨-, hT10, hr10⟩ := p10
        have eT10 := (fr_nil hT10).symm
        subst eT10
        refine e_i (fun q11 => ?_) (fun q11 => ?_)
        · exact e_some ⟨hW, hF, ((rgl (0) 0 0 rfl).sub rfl)⟩
        · exact e_some ⟨hW, hF, ((rgl (12) 12 12 rfl).sub rfl)⟩
    · exact e_some ⟨hW, hF, ((rgl (3) 3 3 rfl).sub rfl)⟩
  · refine e_grd (inb_g f2 rfl) ?_
    refine e_wrO (fun T15 eT15 hT15 v15 => ?_)
    have hW15 := WR.st (k := 0) (i := 3) hW trivial rfl eT15
    have hF15 := hF.tr hT15 rfl
    exact e_some ⟨hW15, hF15, ((rgl (11) 11 11 rfl).sub rfl)⟩
set_option maxRecDepth 20000 in
set_option maxHeartbeats 4000000 in
theorem t_M_lock_L72 {S0 : SS} : ∀ (n : Nat) (x1 : Int32) (x2 : Int32) (x4 : Int32) (x5 : Int32) (S : SS), WR S → Fr [1, 10, 11, 40, 41, 42, 43] [(0, 0), (0, 1), (0, 2), (0, 3), (0, 5), (0, 60), (0, 61), (0, 62)] S0 S → rg x1 0 11 → rg x2 0 8 → rg x4 0 17 → rg x5 0 8 → rg (S.1 0 62) 0 599 → 8 - x5.toInt < (n : Int) → Ex2 (f_M_lock_L72 n x1 x2 x4 x5 S) (fun r U => WR U ∧ Fr [1, 10, 11, 40, 41, 42, 43] [(0, 0), (0, 1), (0, 2), (0, 3), (0, 5), (0, 60), (0, 61), (0, 62)] S0 U ∧ True) := by
  intro n
  induction n with
  | zero =>
    intro x1 x2 x4 x5 S hW hF h0 h1 h2 h3 hx0 hm
    exact up_0 h3 hm rfl
  | succ n ih =>
    intro x1 x2 x4 x5 S hW hF h0 h1 h2 h3 hx0 hm
    refine e_eq (f_M_lock_L72.eq_2 _ _ _ _ _ _) ?_
    refine e_i (fun q1 => ?_) (fun q1 => ?_)
    · refine e_cE (t_M_found hW h2) (fun u2 T2 p2 => ?_)
      obtain ⟨hW2, hT2, hr2⟩ := p2
      have hF2 := hF.tr hT2 rfl
      have f3 := rg_tr hx0 (hT2.1 0 _ rfl)
      refine e_cE (t_M_entered hW2 f3) (fun u4 T4 p4 => ?_)
      obtain ⟨hW4, hT4, hr4⟩ := p4
      have hF4 := hF2.tr hT4 rfl
      exact e_some ⟨hW4, hF4, trivial⟩
    · have f5 := nle_l 1 h1 h3 q1 rfl
      have f6 := nle_r 7 h1 h3 q1 rfl
      refine e_grd (inb_g (rg_add 0 95 (rg_mul 0 88 (rgl (8) 8 8 rfl) h0 rfl) f6 rfl) rfl) ?_
      refine e_grd (inb_g (ro_13 hW _) rfl) ?_
      refine e_wrA (fun T7 eT7 hT7 v7 => ?_)
      have hW7 := WR.st (k := 11) hW trivial rfl eT7
      have hF7 := hF.tr hT7 rfl
      have f8 := rg_tr hx0 (hT7.1 0 _ rfl)
      refine e_grd (inb_g (rg_add 0 95 (rg_mul 0 88 (rgl (8) 8 8 rfl) h0 rfl) f6 rfl) rfl) ?_
      refine e_grd (inb_g f6 rfl) ?_
      refine e_grd (inb_g (ro_13 hW7 _) rfl) ?_
      refine e_wrA (fun T10 eT10 hT10 v10 => ?_)
      have hW10 := wo_10 hW7 (ro_43 hW7 _) eT10
      have hF10 := hF7.tr hT10 rfl
      have f11 := rg_tr f8 (hT10.1 0 _ rfl)
      refine e_nmG (fun w13 hw13 => ?_)
      have f14 := rg_tr (rg_add 1 8 f6 (rgl (1) 1 1 rfl) rfl) hw13
      exact ih _ _ _ _ _ hW10 hF10 h0 (f5.sub rfl) h2 (f14.sub rfl) f11 (up_s f6 hw13 hm rfl)
set_option maxRecDepth 20000 in
set_option maxHeartbeats 4000000 in
theorem t_M_lock_L30 {S0 : SS} : ∀ (n : Nat) (x1 : Int32) (x2 : Int32) (S : SS), WR S → Fr [1, 10, 11, 40, 41, 42, 43] [(0, 0), (0, 1), (0, 2), (0, 3), (0, 5), (0, 60), (0, 61), (0, 62)] S0 S → rg x1 0 11 → rg x2 0 8 → rg (S.1 0 62) 0 599 → 8 - x2.toInt < (n : Int) → Ex2 (f_M_lock_L30 n x1 x2 S) (fun r U => WR U ∧ Fr [1, 10, 11, 40, 41, 42, 43] [(0, 0), (0, 1), (0, 2), (0, 3), (0, 5), (0, 60), (0, 61), (0, 62)] S0 U ∧ True) := by
  intro n
  induction n with
  | zero =>
    intro x1 x2 S hW hF h0 h1 hx0 hm
    exact up_0 h1 hm rfl
  | succ n ih =>
    intro x1 x2 S hW hF h0 h1 hx0 hm
    refine e_eq (f_M_lock_L30.eq_2 _ _ _ _) ?_
    refine e_grd (inb_g h0 rfl) ?_
    refine e_i (fun q1 => ?_) (fun q1 => ?_)
    · refine e_grd (inb_g h0 rfl) ?_
      refine e_cE (t_M_entered hW hx0) (fun u2 T2 p2 => ?_)
      obtain ⟨hW2, hT2, hr2⟩ := p2
      have hF2 := hF.tr hT2 rfl
      exact e_some ⟨hW2, hF2, trivial⟩
    · have f4 := nle_r 7 (ro_12 hW _) h1 q1 rfl
      refine e_grd (inb_g (rg_add 0 95 (rg_mul 0 88 (rgl (8) 8 8 rfl) h0 rfl) f4 rfl) rfl) ?_
      refine e_nmG (fun w5 hw5 => ?_)
      have f6 := rg_tr (ro_13 hW _) hw5
      refine e_cE (t_M_missEntry hW (rg_add 0 95 (rg_mul 0 88 (rgl (8) 8 8 rfl) h0 rfl) f4 rfl)) (fun u7 T7 p7 => ?_)
      obtain ⟨hW7, hT7, hr7⟩ := p7
      have hF7 := hF.tr hT7 rfl
      have f8 := rg_tr hx0 (hT7.1 0 _ rfl)
      refine e_i (fun q10 => ?_) (fun q10 => ?_)
      · refine e_grd (inb_g f6 rfl) ?_
        refine e_grd (inb_g f4 rfl) ?_
        refine e_wrA (fun T12 eT12 hT12 v12 => ?_)
        have hW12 := wo_43 hW7 (ro_10 hW7 _) eT12
        have hF12 := hF7.tr hT12 rfl
        have f13 := rg_tr f8 (hT12.1 0 _ rfl)
        refine e_grd (inb_g (rg_add 0 95 (rg_mul 0 88 (rgl (8) 8 8 rfl) h0 rfl) f4 rfl) rfl) ?_
        refine e_grd (inb_g f6 rfl) ?_
        refine e_wrA (fun T16 eT16 hT16 v16 => ?_)
        have hW16 := wo_10 hW12 (ro_14 hW12 _) eT16
        have hF16 := hF12.tr hT16 rfl
        have f17 := rg_tr f13 (hT16.1 0 _ rfl)
        refine e_grd (inb_g f6 rfl) ?_
        refine e_wrA (fun T21 eT21 hT21 v21 => ?_)
        have hW21 := WR.st (k := 11) hW16 trivial rfl eT21
        have hF21 := hF16.tr hT21 rfl
        have f22 := rg_tr f17 (hT21.1 0 _ rfl)
        refine e_nmG (fun w27 hw27 => ?_)
        have f28 := rg_tr (rg_add 1 8 f4 (rgl (1) 1 1 rfl) rfl) hw27
        exact ih _ _ _ hW21 hF21 h0 (f28.sub rfl) f22 (up_s f4 hw27 hm rfl)
      · have f29 := ne_l 1 hr7 (rgl 0 0 0 rfl) q10 rfl
        exact t_M_lock_L72  NF _ _ _ _ _ hW7 hF7 h0 (f4.sub rfl) (f29.sub rfl) ((rgl (0) 0 0 rfl).sub rfl) f8 (up_n (rgl (0) 0 0 rfl) rfl)
set_option maxRecDepth 20000 in
set_option maxHeartbeats 4000000 in
theorem t_M_lock {a1 : Int32} {S : SS} (hW : WR S) (hx0 : rg (S.1 0 62) 0 599) : Ex2 (f_M_lock a1 S) (fun r U => WR U ∧ Fr [1, 10, 11, 40, 41, 42, 43] [(0, 0), (0, 1), (0, 2), (0, 3), (0, 5), (0, 60), (0, 61), (0, 62)] S U ∧ True) := by
  have hF : Fr [1, 10, 11, 40, 41, 42, 43] [(0, 0), (0, 1), (0, 2), (0, 3), (0, 5), (0, 60), (0, 61), (0, 62)] S S := Fr.rf
  refine e_eq (f_M_lock.eq_1 _ _) ?_
  refine e_cV (t_M_begin hW) (fun T1 p1 => ?_)
  obtain ⟨hW1, hT1⟩ := p1
  have hF1 := hF.tr hT1 rfl
  have f2 := rg_tr hx0 (hT1.1 0 _ rfl)
  refine e_cV (t_M_keep hW1) (fun T3 p3 => ?_)
  obtain ⟨hW3, hT3⟩ := p3
  have hF3 := hF1.tr hT3 rfl
  have f4 := rg_tr f2 (hT3.1 0 _ rfl)
  refine e_bnd ?_
  refine e_eq (f_M_missRoute.eq_1 _ _) ?_
  refine e_i (fun q5 => ?_) (fun q5 => ?_)
  · refine e_some ?_
    refine e_bnd ?_
    refine e_eq (f_M_ends.eq_1 _ _) ?_
    refine e_f (by decide) ?_
    refine e_cE (t_M_found hW3 ((rgl (3) 3 3 rfl).sub rfl)) (fun u7 T7 p7 => ?_)
    obtain ⟨hW7, hT7, hr7⟩ := p7
    have hF7 := hF3.tr hT7 rfl
    have f8 := rg_tr f4 (hT7.1 0 _ rfl)
    refine e_eq (f_M_ends_j10.eq_1 _ _) ?_
    refine e_f (by decide) ?_
    refine e_some ?_
    refine e_f (by decide) ?_
    refine e_cE (t_M_entered hW7 f8) (fun u9 T9 p9 => ?_)
    obtain ⟨hW9, hT9, hr9⟩ := p9
    have hF9 := hF7.tr hT9 rfl
    exact e_some ⟨hW9, hF9, trivial⟩
  · have f10 := nlt_l (rgt _) (rgl 0 0 0 rfl) q5
    refine e_i (fun q11 => ?_) (fun q11 => ?_)
    · have f12 := lt_l 11 f10 (rgl (12) 12 12 rfl) q11 rfl
      refine e_i (fun q13 => ?_) (fun q13 => ?_)
      · refine e_some ?_
        refine e_bnd ?_
        refine e_eq (f_M_ends.eq_1 _ _) ?_
        refine e_t (by decide) ?_
        refine e_eq (f_M_ends_j10.eq_1 _ _) ?_
        refine e_t (by decide) ?_
        refine e_some ?_
        refine e_t (by decide) ?_
        exact t_M_lock_L30  NF _ _ _ hW3 hF3 f12 ((rgl (0) 0 0 rfl).sub rfl) f4 (up_n (rgl (0) 0 0 rfl) rfl)
      · refine e_some ?_
        refine e_bnd ?_
        refine e_eq (f_M_ends.eq_1 _ _) ?_
        refine e_f (by decide) ?_
        refine e_cE (t_M_found hW3 ((rgl (1) 1 1 rfl).sub rfl)) (fun u16 T16 p16 => ?_)
        obtain ⟨hW16, hT16, hr16⟩ := p16
        have hF16 := hF3.tr hT16 rfl
        have f17 := rg_tr f4 (hT16.1 0 _ rfl)
        refine e_eq (f_M_ends_j10.eq_1 _ _) ?_
        refine e_f (by decide) ?_
        refine e_some ?_
        refine e_f (by decide) ?_
        refine e_cE (t_M_entered hW16 f17) (fun u19 T19 p19 => ?_)
        obtain ⟨hW19, hT19, hr19⟩ := p19
        have hF19 := hF16.tr hT19 rfl
        exact e_some ⟨hW19, hF19, trivial⟩
    · refine e_some ?_
      refine e_bnd ?_
      refine e_eq (f_M_ends.eq_1 _ _) ?_
      refine e_f (by decide) ?_
      refine e_cE (t_M_found hW3 ((rgl (3) 3 3 rfl).sub rfl)) (fun u22 T22 p22 => ?_)
      obtain ⟨hW22, hT22, hr22⟩ := p22
      have hF22 := hF3.tr hT22 rfl
      have f23 := rg_tr f4 (hT22.1 0 _ rfl)
      refine e_eq (f_M_ends_j10.eq_1 _ _) ?_
      refine e_f (by decide) ?_
      refine e_some ?_
      refine e_f (by decide) ?_
      refine e_cE (t_M_entered hW22 f23) (fun u24 T24 p24 => ?_)
      obtain ⟨hW24, hT24, hr24⟩ := p24
      have hF24 := hF22.tr hT24 rfl
      exact e_some ⟨hW24, hF24, trivial⟩
