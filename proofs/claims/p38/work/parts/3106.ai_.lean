set_option maxRecDepth 20000 in
set_option maxHeartbeats 4000000 in
theorem t_M_has_M_goalMany_M_goalOn_L14 {S0 : SS} {K : Int32 → Int32 → Int32 → SS → Option (Int32 × SS)} {x4 : Int32} (hK : ∀ (k0 : Int32) (k1 : Int32) (k2 : Int32) (S' : SS), WR S' → Fr [] [] S0 S' → rg k1 0 1 → rg k2 0 4 → k2 = x4 + 1 → Ex2 (K k0 k1 k2 S') (fun r U => WR U ∧ Fr [] [] S0 U ∧ rg r 0 1)) : ∀ (n : Nat) (x2 : Int32) (x3 : Int32) (x5 : Int32) (S : SS), WR S → Fr [] [] S0 S → rg x3 0 1 → rg x4 0 3 → rg x5 0 10 → 10 - x5.toInt < (n : Int) → Ex2 (f_M_has_M_goalMany_M_goalOn_L14 K n x2 x3 x4 x5 S) (fun r U => WR U ∧ Fr [] [] S0 U ∧ rg r 0 1) := by
  intro n
  induction n with
  | zero =>
    intro x2 x3 x5 S hW hF h1 h2 h3 hm
    exact up_0 h3 hm rfl
  | succ n ih =>
    intro x2 x3 x5 S hW hF h1 h2 h3 hm
    refine e_eq (f_M_has_M_goalMany_M_goalOn_L14.eq_2 _ _ _ _ _ _ _) ?_
    refine e_grd (inb_g h2 rfl) ?_
    refine e_i (fun q1 => ?_) (fun q1 => ?_)
    · refine e_nmG (fun w2 hw2 => ?_)
      have f3 := rg_tr (rg_add 1 4 h2 (rgl (1) 1 1 rfl) rfl) hw2
      exact hK _ _ _ _ hW hF h1 (f3.sub rfl) hw2
    · have f5 := nle_r 9 (ro_49 hW _) h3 q1 rfl
      refine e_i (fun q6 => ?_) (fun q6 => ?_)
      · refine e_grd (inb_g (rg_add 0 39 (rg_mul 0 30 (rgl (10) 10 10 rfl) h2 rfl) f5 rfl) rfl) ?_
        refine e_i (fun q8 => ?_) (fun q8 => ?_)
        · refine e_eq (f_M_has_M_goalMany_M_goalOn_j41.eq_1 _ _ _ _ _) ?_
          refine e_eq (f_M_has_M_goalMany_M_goalOn_j46.eq_1 _ _ _ _ _ _) ?_
          refine e_nmG (fun w10 hw10 => ?_)
          have f11 := rg_tr (rg_add 1 10 f5 (rgl (1) 1 1 rfl) rfl) hw10
          exact ih _ _ _ _ hW hF ((rgl (1) 1 1 rfl).sub rfl) h2 (f11.sub rfl) (up_s f5 hw10 hm rfl)
        · refine e_eq (f_M_has_M_goalMany_M_goalOn_j46.eq_1 _ _ _ _ _ _) ?_
          refine e_nmG (fun w12 hw12 => ?_)
          have f13 := rg_tr (rg_add 1 10 f5 (rgl (1) 1 1 rfl) rfl) hw12
          exact ih _ _ _ _ hW hF ((rgl (0) 0 0 rfl).sub rfl) h2 (f13.sub rfl) (up_s f5 hw12 hm rfl)
      · refine e_eq (f_M_has_M_goalMany_M_goalOn_j41.eq_1 _ _ _ _ _) ?_
        refine e_eq (f_M_has_M_goalMany_M_goalOn_j46.eq_1 _ _ _ _ _ _) ?_
        refine e_nmG (fun w15 hw15 => ?_)
        have f16 := rg_tr (rg_add 1 10 f5 (rgl (1) 1 1 rfl) rfl) hw15
        exact ih _ _ _ _ hW hF ((rgl (1) 1 1 rfl).sub rfl) h2 (f16.sub rfl) (up_s f5 hw15 hm rfl)
set_option maxRecDepth 20000 in
set_option maxHeartbeats 4000000 in
theorem t_M_has_M_goalMany_M_goalOn_L5 {S0 : SS} : ∀ (n : Nat) (x2 : Int32) (x3 : Int32) (x4 : Int32) (S : SS), WR S → Fr [] [] S0 S → rg x3 0 1 → rg x4 0 4 → 4 - x4.toInt < (n : Int) → Ex2 (f_M_has_M_goalMany_M_goalOn_L5 n x2 x3 x4 S) (fun r U => WR U ∧ Fr [] [] S0 U ∧ rg r 0 1) := by
  intro n
  induction n with
  | zero =>
    intro x2 x3 x4 S hW hF h1 h2 hm
    exact up_0 h2 hm rfl
  | succ n ih =>
    intro x2 x3 x4 S hW hF h1 h2 hm
    refine e_eq (f_M_has_M_goalMany_M_goalOn_L5.eq_2 _ _ _ _ _) ?_
    refine e_i (fun q1 => ?_) (fun q1 => ?_)
    · refine e_grd (isB_g h1 rfl) ?_
      exact e_some ⟨hW, hF, h1⟩
    · have f3 := nle_r 3 (rgl (4) 4 4 rfl) h2 q1 rfl
      exact t_M_has_M_goalMany_M_goalOn_L14 (fun _ _ _ S' hW' hF' hk1 hk2 ke => ih _ _ _ S' hW' hF' hk1 hk2 (up_s f3 ke hm rfl)) NF _ _ _ _ hW hF h1 f3 ((rgl (0) 0 0 rfl).sub rfl) (up_n (rgl (0) 0 0 rfl) rfl)
set_option maxRecDepth 20000 in
set_option maxHeartbeats 4000000 in
theorem t_M_has_M_goalMany_M_goalOn {a2 : Int32} {S : SS} (hW : WR S) : Ex2 (f_M_has_M_goalMany_M_goalOn a2 S) (fun r U => WR U ∧ Fr [] [] S U ∧ rg r 0 1) := by
  have hF : Fr [] [] S S := Fr.rf
  refine e_eq (f_M_has_M_goalMany_M_goalOn.eq_1 _ _) ?_
  exact t_M_has_M_goalMany_M_goalOn_L5  NF _ _ _ _ hW hF ((rgl (0) 0 0 rfl).sub rfl) ((rgl (0) 0 0 rfl).sub rfl) (up_n (rgl (0) 0 0 rfl) rfl)
set_option maxRecDepth 20000 in
set_option maxHeartbeats 4000000 in
theorem t_M_sumOf_M_startMany {S : SS} (hW : WR S) : Ex2 (f_M_sumOf_M_startMany  S) (fun r U => WR U ∧ Fr [] [] S U ∧ rg r 0 40) := by
  have hF : Fr [] [] S S := Fr.rf
  refine e_eq (f_M_sumOf_M_startMany.eq_1 _) ?_
  refine e_grd (inb_g (rgl (0) 0 0 rfl) rfl) ?_
  refine e_grd (inb_g (rgl (1) 1 1 rfl) rfl) ?_
  refine e_grd (inb_g (rgl (2) 2 2 rfl) rfl) ?_
  refine e_grd (inb_g (rgl (3) 3 3 rfl) rfl) ?_
  exact e_some ⟨hW, hF, (rg_add 0 40 (rg_add 0 30 (rg_add 0 20 (ro_47 hW _) (ro_47 hW _) rfl) (ro_47 hW _) rfl) (ro_47 hW _) rfl)⟩
set_option maxRecDepth 20000 in
set_option maxHeartbeats 4000000 in
theorem t_M_areSame_L4 {S0 : SS} : ∀ (n : Nat) (x1 : Int32) (x2 : Int32) (S : SS), WR S → Fr [] [] S0 S → rg x1 0 1 → rg x2 0 10 → 10 - x2.toInt < (n : Int) → Ex2 (f_M_areSame_L4 n x1 x2 S) (fun r U => WR U ∧ Fr [] [] S0 U ∧ rg r 0 1) := by
  intro n
  induction n with
  | zero =>
    intro x1 x2 S hW hF h0 h1 hm
    exact up_0 h1 hm rfl
  | succ n ih =>
    intro x1 x2 S hW hF h0 h1 hm
    refine e_eq (f_M_areSame_L4.eq_2 _ _ _ _) ?_
    refine e_i (fun q1 => ?_) (fun q1 => ?_)
    · refine e_grd (isB_g h0 rfl) ?_
      exact e_some ⟨hW, hF, h0⟩
    · have f3 := nle_r 9 (rgl (10) 10 10 rfl) h1 q1 rfl
      refine e_i (fun q4 => ?_) (fun q4 => ?_)
      · refine e_eq (f_M_areSame_j45.eq_1 _ _ _) ?_
        refine e_eq (f_M_areSame_j46.eq_1 _ _ _ _) ?_
        refine e_nmG (fun w6 hw6 => ?_)
        have f7 := rg_tr (rg_add 1 10 f3 (rgl (1) 1 1 rfl) rfl) hw6
        exact ih _ _ _ hW hF ((rgl (0) 0 0 rfl).sub rfl) (f7.sub rfl) (up_s f3 hw6 hm rfl)
      · refine e_cE (t_M_has_M_startMany_M_startOn hW) (fun u9 T9 p9 => ?_)
        obtain ⟨-, hT9, hr9⟩ := p9
        have eT9 := (fr_nil hT9).symm
        subst eT9
        refine e_cE (t_M_has_M_goalMany_M_goalOn hW) (fun u10 T10 p10 => ?_)
        obtain ⟨-, hT10, hr10⟩ := p10
        have eT10 := (fr_nil hT10).symm
        subst eT10
        refine e_i (fun q11 => ?_) (fun q11 => ?_)
        · refine e_eq (f_M_areSame_j46.eq_1 _ _ _ _) ?_
          refine e_nmG (fun w12 hw12 => ?_)
          have f13 := rg_tr (rg_add 1 10 f3 (rgl (1) 1 1 rfl) rfl) hw12
          exact ih _ _ _ hW hF ((rgl (1) 1 1 rfl).sub rfl) (f13.sub rfl) (up_s f3 hw12 hm rfl)
        · refine e_eq (f_M_areSame_j45.eq_1 _ _ _) ?_
          refine e_eq (f_M_areSame_j46.eq_1 _ _ _ _) ?_
          refine e_nmG (fun w14 hw14 => ?_)
          have f15 := rg_tr (rg_add 1 10 f3 (rgl (1) 1 1 rfl) rfl) hw14
          exact ih _ _ _ hW hF ((rgl (0) 0 0 rfl).sub rfl) (f15.sub rfl) (up_s f3 hw14 hm rfl)
set_option maxRecDepth 20000 in
set_option maxHeartbeats 4000000 in
theorem t_M_areSame {S : SS} (hW : WR S) : Ex2 (f_M_areSame  S) (fun r U => WR U ∧ Fr [] [] S U ∧ rg r 0 1) := by
  have hF : Fr [] [] S S := Fr.rf
  refine e_eq (f_M_areSame.eq_1 _) ?_
  exact t_M_areSame_L4  NF _ _ _ hW hF ((rgl (1) 1 1 rfl).sub rfl) ((rgl (0) 0 0 rfl).sub rfl) (up_n (rgl (0) 0 0 rfl) rfl)
set_option maxRecDepth 20000 in
set_option maxHeartbeats 4000000 in
theorem t_M_take_L34 {S0 : SS} {K : Int32 → Int32 → SS → Option SS} {x2 : Int32} (hK : ∀ (k0 : Int32) (k1 : Int32) (S' : SS), WR S' → Fr [57, 58] [] S0 S' → rg k1 0 4 → k1 = x2 + 1 → Ew (K k0 k1 S') (fun U => WR U ∧ Fr [57, 58] [] S0 U)) : ∀ (n : Nat) (x1 : Int32) (x3 : Int32) (S : SS), WR S → Fr [57, 58] [] S0 S → rg x2 0 3 → rg x3 0 10 → 10 - x3.toInt < (n : Int) → Ew (f_M_take_L34 K n x1 x2 x3 S) (fun U => WR U ∧ Fr [57, 58] [] S0 U) := by
  intro n
  induction n with
  | zero =>
    intro x1 x3 S hW hF h1 h2 hm
    exact up_0 h2 hm rfl
  | succ n ih =>
    intro x1 x3 S hW hF h1 h2 hm
    refine v_eq (f_M_take_L34.eq_2 _ _ _ _ _ _) ?_
    refine v_grd (inb_g h1 rfl) ?_
    refine v_i (fun q1 => ?_) (fun q1 => ?_)
    · refine v_nmG (fun w2 hw2 => ?_)
      have f3 := rg_tr (rg_add 1 4 h1 (rgl (1) 1 1 rfl) rfl) hw2
      exact hK _ _ _ hW hF (f3.sub rfl) hw2
    · have f5 := nle_r 9 (ro_58 hW _) h2 q1 rfl
      refine v_i (fun q6 => ?_) (fun q6 => ?_)
      · refine v_grd (inb_g (rg_add 0 39 (rg_mul 0 30 (rgl (10) 10 10 rfl) h1 rfl) f5 rfl) rfl) ?_
        refine v_eq (f_M_take_j83.eq_1 _ _ _ _ _ _ _) ?_
        refine v_grd (inb_g (rg_add 0 39 (rg_mul 0 30 (rgl (10) 10 10 rfl) h1 rfl) f5 rfl) rfl) ?_
        refine v_wrA (fun T8 eT8 hT8 v8 => ?_)
        have hW8 := WR.st (k := 57) hW trivial rfl eT8
        have hF8 := hF.tr hT8 rfl
        refine v_nmG (fun w11 hw11 => ?_)
        have f12 := rg_tr (rg_add 1 10 f5 (rgl (1) 1 1 rfl) rfl) hw11
        exact ih _ _ _ hW8 hF8 h1 (f12.sub rfl) (up_s f5 hw11 hm rfl)
      · refine v_grd (inb_g (rg_add 0 39 (rg_mul 0 30 (rgl (10) 10 10 rfl) h1 rfl) f5 rfl) rfl) ?_
        refine v_eq (f_M_take_j83.eq_1 _ _ _ _ _ _ _) ?_
        refine v_grd (inb_g (rg_add 0 39 (rg_mul 0 30 (rgl (10) 10 10 rfl) h1 rfl) f5 rfl) rfl) ?_
        refine v_wrA (fun T13 eT13 hT13 v13 => ?_)
        have hW13 := WR.st (k := 57) hW trivial rfl eT13
        have hF13 := hF.tr hT13 rfl
        refine v_nmG (fun w16 hw16 => ?_)
        have f17 := rg_tr (rg_add 1 10 f5 (rgl (1) 1 1 rfl) rfl) hw16
        exact ih _ _ _ hW13 hF13 h1 (f17.sub rfl) (up_s f5 hw16 hm rfl)
set_option maxRecDepth 20000 in
set_option maxHeartbeats 4000000 in
theorem t_M_take_L2 {S0 : SS} : ∀ (n : Nat) (x1 : Int32) (x2 : Int32) (S : SS), WR S → Fr [57, 58] [] S0 S → rg x2 0 4 → 4 - x2.toInt < (n : Int) → Ew (f_M_take_L2 n x1 x2 S) (fun U => WR U ∧ Fr [57, 58] [] S0 U) := by
  intro n
  induction n with
  | zero =>
    intro x1 x2 S hW hF h1 hm
    exact up_0 h1 hm rfl
  | succ n ih =>
    intro x1 x2 S hW hF h1 hm
    refine v_eq (f_M_take_L2.eq_2 _ _ _ _) ?_
    refine v_i (fun q1 => ?_) (fun q1 => ?_)
    · exact v_some ⟨hW, hF⟩
    · have f3 := nle_r 3 (rgl (4) 4 4 rfl) h1 q1 rfl
      refine v_i (fun q4 => ?_) (fun q4 => ?_)
      · refine v_grd (inb_g f3 rfl) ?_
        refine v_eq (f_M_take_j31.eq_1 _ _ _ _ _ _) ?_
        refine v_grd (inb_g f3 rfl) ?_
        refine v_wrA (fun T6 eT6 hT6 v6 => ?_)
        have hW6 := wo_58 hW (ro_47 hW _) eT6
        have hF6 := hF.tr hT6 rfl
        exact t_M_take_L34 (fun _ _ S' hW' hF' hk1 ke => ih _ _ S' hW' hF' hk1 (up_s f3 ke hm rfl)) NF _ _ _ hW6 hF6 f3 ((rgl (0) 0 0 rfl).sub rfl) (up_n (rgl (0) 0 0 rfl) rfl)
      · refine v_grd (inb_g f3 rfl) ?_
        refine v_eq (f_M_take_j31.eq_1 _ _ _ _ _ _) ?_
        refine v_grd (inb_g f3 rfl) ?_
        refine v_wrA (fun T8 eT8 hT8 v8 => ?_)
        have hW8 := wo_58 hW (ro_49 hW _) eT8
        have hF8 := hF.tr hT8 rfl
        exact t_M_take_L34 (fun _ _ S' hW' hF' hk1 ke => ih _ _ S' hW' hF' hk1 (up_s f3 ke hm rfl)) NF _ _ _ hW8 hF8 f3 ((rgl (0) 0 0 rfl).sub rfl) (up_n (rgl (0) 0 0 rfl) rfl)
set_option maxRecDepth 20000 in
set_option maxHeartbeats 4000000 in
theorem t_M_take {a1 : Int32} {S : SS} (hW : WR S) : Ew (f_M_take a1 S) (fun U => WR U ∧ Fr [57, 58] [] S U) := by
  have hF : Fr [57, 58] [] S S := Fr.rf
  refine v_eq (f_M_take.eq_1 _ _) ?_
  exact t_M_take_L2  NF _ _ _ hW hF ((rgl (0) 0 0 rfl).sub rfl) (up_n (rgl (0) 0 0 rfl) rfl)
set_option maxRecDepth 20000 in
set_option maxHeartbeats 4000000 in
theorem t_M_sumOf_M_many {S : SS} (hW : WR S) : Ex2 (f_M_sumOf_M_many  S) (fun r U => WR U ∧ Fr [] [] S U ∧ rg r 0 40) := by
  have hF : Fr [] [] S S := Fr.rf
  refine e_eq (f_M_sumOf_M_many.eq_1 _) ?_
  refine e_grd (inb_g (rgl (0) 0 0 rfl) rfl) ?_
  refine e_grd (inb_g (rgl (1) 1 1 rfl) rfl) ?_
  refine e_grd (inb_g (rgl (2) 2 2 rfl) rfl) ?_
  refine e_grd (inb_g (rgl (3) 3 3 rfl) rfl) ?_
  exact e_some ⟨hW, hF, (rg_add 0 40 (rg_add 0 30 (rg_add 0 20 (ro_58 hW _) (ro_58 hW _) rfl) (ro_58 hW _) rfl) (ro_58 hW _) rfl)⟩
set_option maxRecDepth 20000 in
set_option maxHeartbeats 4000000 in
theorem t_M_rankOf_L2 {S0 : SS} : ∀ (n : Nat) (x1 : Int32) (x2 : Int32) (S : SS), WR S → Fr [] [] S0 S → rg x2 0 10 → 10 - x2.toInt < (n : Int) → Ex2 (f_M_rankOf_L2 n x1 x2 S) (fun r U => WR U ∧ Fr [] [] S0 U ∧ rn r 0 9) := by
  intro n
  induction n with
  | zero =>
    intro x1 x2 S hW hF h1 hm
    exact up_0 h1 hm rfl
  | succ n ih =>
    intro x1 x2 S hW hF h1 hm
    refine e_eq (f_M_rankOf_L2.eq_2 _ _ _ _) ?_
    refine e_i (fun q1 => ?_) (fun q1 => ?_)
    · refine e_eq (f_M_rankOf_j26.eq_1 _ _) ?_
      refine e_t q1 ?_
      exact e_some ⟨hW, hF, (rn4 (d_eq (rgl (-4) (-4) (-4) rfl) (rgl (-4) (-4) (-4) rfl) rfl))⟩
    · have f3 := nle_r 9 (ro_0_81 hW) h1 q1 rfl
      refine e_grd (inb_g f3 rfl) ?_
      refine e_i (fun q4 => ?_) (fun q4 => ?_)
      · refine e_eq (f_M_rankOf_j26.eq_1 _ _) ?_
        refine e_f q1 ?_
        exact e_some ⟨hW, hF, (rg.toN (f3.sub rfl))⟩
      · refine e_nmG (fun w5 hw5 => ?_)
        have f6 := rg_tr (rg_add 1 10 f3 (rgl (1) 1 1 rfl) rfl) hw5
        exact ih _ _ _ hW hF (f6.sub rfl) (up_s f3 hw5 hm rfl)
set_option maxRecDepth 20000 in
set_option maxHeartbeats 4000000 in
theorem t_M_rankOf {a1 : Int32} {S : SS} (hW : WR S) : Ex2 (f_M_rankOf a1 S) (fun r U => WR U ∧ Fr [] [] S U ∧ rn r 0 9) := by
  have hF : Fr [] [] S S := Fr.rf
  refine e_eq (f_M_rankOf.eq_1 _ _) ?_
  exact t_M_rankOf_L2  NF _ _ _ hW hF ((rgl (0) 0 0 rfl).sub rfl) (up_n (rgl (0) 0 0 rfl) rfl)
/-- a MOVE that may be done -/
def MM (S : SS) (a b n : Int32) : Prop := ¬ a = b ∧ 1 ≤ n.toInt ∧ n.toInt ≤ (S.1 58 a.toNatClampNeg).toInt ∧ (S.1 58 b.toNatClampNeg).toInt + n.toInt ≤ (S.1 46 b.toNatClampNeg).toInt
theorem t_M_mayMove {a1 a2 a3 : Int32} {S : SS} (hW : WR S) (h0 : rg a1 0 3) (h1 : rg a2 0 3) : Ex2 (f_M_mayMove a1 a2 a3 S) (fun r U => WR U ∧ Fr [] [] S U ∧ rg r 0 1 ∧ (¬ r = 0 → MM S a1 a2 a3)) := by
  refine e_eq (f_M_mayMove.eq_1 _ _ _ _) ?_
  refine e_i (fun _ => e_some ⟨hW, Fr.rf, rgl 0 0 1 rfl, fun e => absurd rfl e⟩) (fun q1 => ?_)
  refine e_i (fun _ => e_some ⟨hW, Fr.rf, rgl 0 0 1 rfl, fun e => absurd rfl e⟩) (fun q2 => ?_)
  refine e_grd (inb_g h0 rfl) ?_
  refine e_i (fun _ => e_some ⟨hW, Fr.rf, rgl 0 0 1 rfl, fun e => absurd rfl e⟩) (fun q3 => ?_)
  refine e_grd (inb_g h1 rfl) ?_
  refine e_grd (inb_g h1 rfl) ?_
  refine e_i (fun _ => e_some ⟨hW, Fr.rf, rgl 0 0 1 rfl, fun e => absurd rfl e⟩) (fun q4 => ?_)
  have r1 := ro_58 hW a1.toNatClampNeg
  have r2 := ro_58 hW a2.toNatClampNeg
  have h3 := nlt_l (rgt a3) (rgl 1 1 1 rfl) q2
  have b2 := r1.2; have c1 := r2.1; have c2 := r2.2; have d1 := h3.1
  rw [Int32.lt_iff_toInt_lt] at q3
  rw [Int32.lt_iff_toInt_lt, Int32.toInt_add, bm (by omega) (by omega)] at q4
  exact e_some ⟨hW, Fr.rf, rgl 1 0 1 rfl, fun _ => ⟨q1, d1, by omega, by omega⟩⟩
theorem sh_L3 {S0 : SS} {a1 a2 a3 : Int32} (h0 : rg a1 0 3) (h1 : rg a2 0 3) : ∀ (n i : Nat) (S : SS), WR S → Fr [57, 58] [] S0 S → MM S a1 a2 a3 → (i : Int) ≤ a3.toInt → a3.toInt - i < (n : Int) → Ew (f_M_shift_L3 n a1 a2 a3 (nI i) S) (fun U => WR U ∧ Fr [57, 58] [] S0 U)
  | 0, i, S, hW, hF, hM, hi, hn => by omega
  | n + 1, i, S, hW, hF, hM, hi, hn => by
    have r1 := ro_58 hW a1.toNatClampNeg
    have r2 := ro_58 hW a2.toNatClampNeg
    have r3 := ro_46 hW a2.toNatClampNeg
    obtain ⟨m1, m2, m3, m4⟩ := id hM
    have a1l := h0.1; have a1u := h0.2; have a2l := h1.1; have a2u := h1.2
    have b1 := r1.1; have b2 := r1.2; have c1 := r2.1; have c2 := r2.2; have d2 := r3.2
    have ti : (nI i).toInt = i := nI_toInt (by omega)
    refine v_eq (f_M_shift_L3.eq_2 _ _ _ _ _ _) ?_
    refine v_i (fun q => ?_) (fun q => ?_)
    · refine v_grd (inb_g h0 rfl) ?_
      refine v_grd (inb_g h0 rfl) ?_
      refine v_wrA (fun T e g v => ?_)
      have k1 : rg (S.1 58 a1.toNatClampNeg - a3) 0 10 := by
        unfold rg
        rw [Int32.toInt_sub, bm (by omega) (by omega)]
        omega
      have hW1 := wo_58 hW k1 e
      refine v_grd (inb_g h1 rfl) ?_
      refine v_grd (inb_g h1 rfl) ?_
      refine v_wrA (fun U eU gU vU => ?_)
      have k2 : rg (T.1 58 a2.toNatClampNeg + a3) 0 10 := by
        rw [st_ix e m1 h0 h1 rfl]
        unfold rg
        rw [Int32.toInt_add, bm (by omega) (by omega)]
        omega
      exact v_some ⟨wo_58 hW1 k2 eU, (hF.tr g rfl).tr gU rfl⟩
    · rw [Int32.le_iff_toInt_le, ti] at q
      have t10 : (10 : Int32).toInt = 10 := by decide
      refine v_grd (inb_g h1 rfl) ?_
      refine v_grd (inb_g h0 rfl) ?_
      refine v_grd (inb_i ?_ ?_) ?_
      · rw [Int32.toInt_add, Int32.toInt_sub, Int32.toInt_add, Int32.toInt_mul, t10, ti, bm (z := 10 * a1.toInt) (by omega) (by omega), bm (z := 10 * a1.toInt + (S.1 58 a1.toNatClampNeg).toInt) (by omega) (by omega), bm (z := 10 * a1.toInt + (S.1 58 a1.toNatClampNeg).toInt - a3.toInt) (by omega) (by omega), bm (by omega) (by omega)]
        omega
      · rw [Int32.toInt_add, Int32.toInt_sub, Int32.toInt_add, Int32.toInt_mul, t10, ti, bm (z := 10 * a1.toInt) (by omega) (by omega), bm (z := 10 * a1.toInt + (S.1 58 a1.toNatClampNeg).toInt) (by omega) (by omega), bm (z := 10 * a1.toInt + (S.1 58 a1.toNatClampNeg).toInt - a3.toInt) (by omega) (by omega), bm (by omega) (by omega)]
        omega
      · refine v_grd (inb_i ?_ ?_) ?_
        · rw [Int32.toInt_add, Int32.toInt_add, Int32.toInt_mul, t10, ti, bm (z := 10 * a2.toInt) (by omega) (by omega), bm (z := 10 * a2.toInt + (S.1 58 a2.toNatClampNeg).toInt) (by omega) (by omega), bm (by omega) (by omega)]
          omega
        · rw [Int32.toInt_add, Int32.toInt_add, Int32.toInt_mul, t10, ti, bm (z := 10 * a2.toInt) (by omega) (by omega), bm (z := 10 * a2.toInt + (S.1 58 a2.toNatClampNeg).toInt) (by omega) (by omega), bm (by omega) (by omega)]
          omega
        · refine v_wrA (fun T e g v => ?_)
          have hW1 := WR.st (k := 57) hW trivial rfl e
          refine v_nm ?_
          rw [nI_1]
          refine sh_L3 h0 h1 n (i + 1) T hW1 (hF.tr g rfl) ?_ (by omega) (by omega)
          unfold MM
          rw [g.1 58 _ rfl, g.1 58 _ rfl, g.1 46 _ rfl]
          exact hM
theorem t_M_shift {a1 a2 a3 : Int32} {S : SS} (hW : WR S) (h0 : rg a1 0 3) (h1 : rg a2 0 3) (hM : MM S a1 a2 a3) : Ew (f_M_shift a1 a2 a3 S) (fun U => WR U ∧ Fr [57, 58] [] S U) := by
  refine v_eq (f_M_shift.eq_1 _ _ _ _) ?_
  have := hM.2.2.1
  have := (ro_58 hW a1.toNatClampNeg).2
  have := hM.2.1
  have : (NF : Int) = 100000 := rfl
  exact sh_L3 h0 h1 NF 0 S hW Fr.rf hM (by omega) (by omega)
set_option maxRecDepth 20000 in
set_option maxHeartbeats 4000000 in
theorem t_M_stackOf_L13 {S0 : SS} {K : Int32 → Int32 → Int32 → SS → Option (Int32 × SS)} {x3 : Int32} (hK : ∀ (k0 : Int32) (k1 : Int32) (k2 : Int32) (S' : SS), WR S' → Fr [] [] S0 S' → rn k1 0 3 → rg k2 0 4 → k2 = x3 + 1 → Ex2 (K k0 k1 k2 S') (fun r U => WR U ∧ Fr [] [] S0 U ∧ rn r 0 3)) : ∀ (n : Nat) (x1 : Int32) (x2 : Int32) (x4 : Int32) (S : SS), WR S → Fr [] [] S0 S → rn x2 0 3 → rg x3 0 3 → rg x4 0 10 → 10 - x4.toInt < (n : Int) → Ex2 (f_M_stackOf_L13 K n x1 x2 x3 x4 S) (fun r U => WR U ∧ Fr [] [] S0 U ∧ rn r 0 3) := by
  intro n
  induction n with
  | zero =>
    intro x1 x2 x4 S hW hF h1 h2 h3 hm
    exact up_0 h3 hm rfl
  | succ n ih =>
    intro x1 x2 x4 S hW hF h1 h2 h3 hm
    refine e_eq (f_M_stackOf_L13.eq_2 _ _ _ _ _ _ _) ?_
    refine e_grd (inb_g h2 rfl) ?_
    refine e_i (fun q1 => ?_) (fun q1 => ?_)
    · refine e_nmG (fun w2 hw2 => ?_)
      have f3 := rg_tr (rg_add 1 4 h2 (rgl (1) 1 1 rfl) rfl) hw2
      exact hK _ _ _ _ hW hF h1 (f3.sub rfl) hw2
    · have f5 := nle_r 9 (ro_58 hW _) h3 q1 rfl
      refine e_grd (inb_g (rg_add 0 39 (rg_mul 0 30 (rgl (10) 10 10 rfl) h2 rfl) f5 rfl) rfl) ?_
      refine e_i (fun q6 => ?_) (fun q6 => ?_)
      · refine e_eq (f_M_stackOf_j45.eq_1 _ _ _ _ _ _) ?_
        refine e_nmG (fun w7 hw7 => ?_)
        have f8 := rg_tr (rg_add 1 10 f5 (rgl (1) 1 1 rfl) rfl) hw7
        exact ih _ _ _ _ hW hF (rg.toN (h2.sub rfl)) h2 (f8.sub rfl) (up_s f5 hw7 hm rfl)
      · refine e_eq (f_M_stackOf_j45.eq_1 _ _ _ _ _ _) ?_
        refine e_nmG (fun w9 hw9 => ?_)
        have f10 := rg_tr (rg_add 1 10 f5 (rgl (1) 1 1 rfl) rfl) hw9
        exact ih _ _ _ _ hW hF h1 h2 (f10.sub rfl) (up_s f5 hw9 hm rfl)
set_option maxRecDepth 20000 in
set_option maxHeartbeats 4000000 in
theorem t_M_stackOf_L5 {S0 : SS} : ∀ (n : Nat) (x1 : Int32) (x2 : Int32) (x3 : Int32) (S : SS), WR S → Fr [] [] S0 S → rn x2 0 3 → rg x3 0 4 → 4 - x3.toInt < (n : Int) → Ex2 (f_M_stackOf_L5 n x1 x2 x3 S) (fun r U => WR U ∧ Fr [] [] S0 U ∧ rn r 0 3) := by
  intro n
  induction n with
  | zero =>
    intro x1 x2 x3 S hW hF h1 h2 hm
    exact up_0 h2 hm rfl
  | succ n ih =>
    intro x1 x2 x3 S hW hF h1 h2 hm
    refine e_eq (f_M_stackOf_L5.eq_2 _ _ _ _ _) ?_
    refine e_i (fun q1 => ?_) (fun q1 => ?_)
    · exact e_some ⟨hW, hF, h1⟩
    · have f3 := nle_r 3 (rgl (4) 4 4 rfl) h2 q1 rfl
      exact t_M_stackOf_L13 (fun _ _ _ S' hW' hF' hk1 hk2 ke => ih _ _ _ S' hW' hF' hk1 hk2 (up_s f3 ke hm rfl)) NF _ _ _ _ hW hF h1 f3 ((rgl (0) 0 0 rfl).sub rfl) (up_n (rgl (0) 0 0 rfl) rfl)
set_option maxRecDepth 20000 in
set_option maxHeartbeats 4000000 in
theorem t_M_stackOf {a1 : Int32} {S : SS} (hW : WR S) : Ex2 (f_M_stackOf a1 S) (fun r U => WR U ∧ Fr [] [] S U ∧ rn r 0 3) := by
  have hF : Fr [] [] S S := Fr.rf
  refine e_eq (f_M_stackOf.eq_1 _ _) ?_
  exact t_M_stackOf_L5  NF _ _ _ _ hW hF (rn4 (d_eq (rgl (-4) (-4) (-4) rfl) (rgl (-4) (-4) (-4) rfl) rfl)) ((rgl (0) 0 0 rfl).sub rfl) (up_n (rgl (0) 0 0 rfl) rfl)
set_option maxRecDepth 20000 in
set_option maxHeartbeats 4000000 in
theorem t_M_widest_L6 {S0 : SS} : ∀ (n : Nat) (x1 : Int32) (x2 : Int32) (x3 : Int32) (x4 : Int32) (S : SS), WR S → Fr [] [] S0 S → rn x3 0 3 → rg x4 0 4 → 4 - x4.toInt < (n : Int) → Ex2 (f_M_widest_L6 n x1 x2 x3 x4 S) (fun r U => WR U ∧ Fr [] [] S0 U ∧ rn r 0 3) := by
  intro n
  induction n with
  | zero =>
    intro x1 x2 x3 x4 S hW hF h2 h3 hm
    exact up_0 h3 hm rfl
  | succ n ih =>
    intro x1 x2 x3 x4 S hW hF h2 h3 hm
    refine e_eq (f_M_widest_L6.eq_2 _ _ _ _ _ _) ?_
    refine e_i (fun q1 => ?_) (fun q1 => ?_)
    · exact e_some ⟨hW, hF, h2⟩
    · have f3 := nle_r 3 (rgl (4) 4 4 rfl) h3 q1 rfl
      refine e_i (fun q4 => ?_) (fun q4 => ?_)
      · refine e_eq (f_M_widest_j84.eq_1 _ _ _ _ _ _) ?_
        refine e_nmG (fun w6 hw6 => ?_)
        have f7 := rg_tr (rg_add 1 4 f3 (rgl (1) 1 1 rfl) rfl) hw6
        exact ih _ _ _ _ _ hW hF h2 (f7.sub rfl) (up_s f3 hw6 hm rfl)
      · refine e_i (fun q8 => ?_) (fun q8 => ?_)
        · refine e_eq (f_M_widest_j84.eq_1 _ _ _ _ _ _) ?_
          refine e_nmG (fun w10 hw10 => ?_)
          have f11 := rg_tr (rg_add 1 4 f3 (rgl (1) 1 1 rfl) rfl) hw10
          exact ih _ _ _ _ _ hW hF h2 (f11.sub rfl) (up_s f3 hw10 hm rfl)
        · refine e_grd (inb_g f3 rfl) ?_
          refine e_grd (inb_g f3 rfl) ?_
          refine e_i (fun q12 => ?_) (fun q12 => ?_)
          · refine e_i (fun q15 => ?_) (fun q15 => ?_)
            · refine e_eq (f_M_widest_j81.eq_1 _ _ _ _ _) ?_
              refine e_eq (f_M_widest_j84.eq_1 _ _ _ _ _ _) ?_
              refine e_nmG (fun w17 hw17 => ?_)
              have f18 := rg_tr (rg_add 1 4 f3 (rgl (1) 1 1 rfl) rfl) hw17
              exact ih _ _ _ _ _ hW hF (rg.toN (f3.sub rfl)) (f18.sub rfl) (up_s f3 hw17 hm rfl)
            · have f19 := rn.ne h2 q15
              refine e_grd (inb_g f3 rfl) ?_
              refine e_grd (inb_g f3 rfl) ?_
              refine e_grd (inb_g f19 rfl) ?_
              refine e_grd (inb_g f19 rfl) ?_
              refine e_i (fun q20 => ?_) (fun q20 => ?_)
              · refine e_eq (f_M_widest_j84.eq_1 _ _ _ _ _ _) ?_
                refine e_nmG (fun w22 hw22 => ?_)
                have f23 := rg_tr (rg_add 1 4 f3 (rgl (1) 1 1 rfl) rfl) hw22
                exact ih _ _ _ _ _ hW hF (rg.toN (f19.sub rfl)) (f23.sub rfl) (up_s f3 hw22 hm rfl)
              · refine e_eq (f_M_widest_j81.eq_1 _ _ _ _ _) ?_
                refine e_eq (f_M_widest_j84.eq_1 _ _ _ _ _ _) ?_
                refine e_nmG (fun w25 hw25 => ?_)
                have f26 := rg_tr (rg_add 1 4 f3 (rgl (1) 1 1 rfl) rfl) hw25
                exact ih _ _ _ _ _ hW hF (rg.toN (f3.sub rfl)) (f26.sub rfl) (up_s f3 hw25 hm rfl)
          · refine e_eq (f_M_widest_j84.eq_1 _ _ _ _ _ _) ?_
            refine e_nmG (fun w27 hw27 => ?_)
            have f28 := rg_tr (rg_add 1 4 f3 (rgl (1) 1 1 rfl) rfl) hw27
            exact ih _ _ _ _ _ hW hF h2 (f28.sub rfl) (up_s f3 hw27 hm rfl)
set_option maxRecDepth 20000 in
set_option maxHeartbeats 4000000 in
theorem t_M_widest {a1 : Int32} {a2 : Int32} {S : SS} (hW : WR S) : Ex2 (f_M_widest a1 a2 S) (fun r U => WR U ∧ Fr [] [] S U ∧ rn r 0 3) := by
  have hF : Fr [] [] S S := Fr.rf
  refine e_eq (f_M_widest.eq_1 _ _ _) ?_
  exact t_M_widest_L6  NF _ _ _ _ _ hW hF (rn4 (d_eq (rgl (-4) (-4) (-4) rfl) (rgl (-4) (-4) (-4) rfl) rfl)) ((rgl (0) 0 0 rfl).sub rfl) (up_n (rgl (0) 0 0 rfl) rfl)
set_option maxRecDepth 20000 in
set_option maxHeartbeats 4000000 in
theorem t_M_move {a1 : Int32} {a2 : Int32} {S : SS} (hW : WR S) : Ex2 (f_M_move a1 a2 S) (fun r U => WR U ∧ Fr [] [] S U ∧ True) := by
  have hF : Fr [] [] S S := Fr.rf
  refine e_eq (f_M_move.eq_1 _ _ _) ?_
  refine e_i (fun q1 => ?_) (fun q1 => ?_)
  · exact e_some ⟨hW, hF, trivial⟩
  · have f3 := nlt_l (rgt _) (rgl 0 0 0 rfl) q1
    refine e_i (fun q4 => ?_) (fun q4 => ?_)
    · exact e_some ⟨hW, hF, trivial⟩
    · refine e_i (fun q7 => ?_) (fun q7 => ?_)
      · refine e_i (fun q9 => ?_) (fun q9 => ?_)
        · exact e_some ⟨hW, hF, trivial⟩
        · refine e_i (fun q11 => ?_) (fun q11 => ?_)
          · have f12 := lt_l 398 f3 (ro_0_77 hW) q11 rfl
            refine e_i (fun q14 => ?_) (fun q14 => ?_)
            · refine e_grd (inb_g f12 rfl) ?_
              exact e_some ⟨hW, hF, trivial⟩
            · refine e_i (fun q17 => ?_) (fun q17 => ?_)
              · refine e_grd (inb_g f12 rfl) ?_
                exact e_some ⟨hW, hF, trivial⟩
              · refine e_grd (inb_g f12 rfl) ?_
                exact e_some ⟨hW, hF, trivial⟩
          · exact e_some ⟨hW, hF, trivial⟩
      · exact e_some ⟨hW, hF, trivial⟩
set_option maxRecDepth 20000 in
set_option maxHeartbeats 4000000 in
theorem t_M_under_M_startMany_M_startOn_L15 {S0 : SS} {K : Int32 → Int32 → Int32 → SS → Option (Int32 × SS)} {x4 : Int32} (hK : ∀ (k0 : Int32) (k1 : Int32) (k2 : Int32) (S' : SS), WR S' → Fr [] [] S0 S' → rg k2 0 4 → k2 = x4 + 1 → Ex2 (K k0 k1 k2 S') (fun r U => WR U ∧ Fr [] [] S0 U ∧ True)) : ∀ (n : Nat) (x2 : Int32) (x3 : Int32) (x5 : Int32) (S : SS), WR S → Fr [] [] S0 S → rg x4 0 3 → rg x5 0 10 → 10 - x5.toInt < (n : Int) → Ex2 (f_M_under_M_startMany_M_startOn_L15 K n x2 x3 x4 x5 S) (fun r U => WR U ∧ Fr [] [] S0 U ∧ True) := by
  intro n
  induction n with
  | zero =>
    intro x2 x3 x5 S hW hF h2 h3 hm
    exact up_0 h3 hm rfl
  | succ n ih =>
    intro x2 x3 x5 S hW hF h2 h3 hm
    refine e_eq (f_M_under_M_startMany_M_startOn_L15.eq_2 _ _ _ _ _ _ _) ?_
    refine e_grd (inb_g h2 rfl) ?_
    refine e_i (fun q1 => ?_) (fun q1 => ?_)
    · refine e_nmG (fun w2 hw2 => ?_)
      have f3 := rg_tr (rg_add 1 4 h2 (rgl (1) 1 1 rfl) rfl) hw2
      exact hK _ _ _ _ hW hF (f3.sub rfl) hw2
    · have f5 := nle_r 9 (ro_47 hW _) h3 q1 rfl
      refine e_grd (inb_g (rg_add 0 39 (rg_mul 0 30 (rgl (10) 10 10 rfl) h2 rfl) f5 rfl) rfl) ?_
      refine e_i (fun q6 => ?_) (fun q6 => ?_)
      · refine e_i (fun q8 => ?_) (fun q8 => ?_)
        · have f9 := rg_tr (rgl 0 0 0 rfl) q8
          refine e_eq (f_M_under_M_startMany_M_startOn_j63.eq_1 _ _ _ _ _ _) ?_
          refine e_eq (f_M_under_M_startMany_M_startOn_j64.eq_1 _ _ _ _ _ _) ?_
          refine e_nmG (fun w10 hw10 => ?_)
          have f11 := rg_tr (rg_add 1 1 f9 (rgl (1) 1 1 rfl) rfl) hw10
          exact ih _ _ _ _ hW hF h2 (f11.sub rfl) (up_s f9 hw10 hm rfl)
        · have f12 := ne_l 1 f5 (rgl 0 0 0 rfl) q8 rfl
          refine e_grd (inb_g (rg_sb 0 38 (rg_add 1 39 (rg_mul 0 30 (rgl (10) 10 10 rfl) h2 rfl) f12 rfl) (rgl (1) 1 1 rfl) rfl) rfl) ?_
          refine e_eq (f_M_under_M_startMany_M_startOn_j63.eq_1 _ _ _ _ _ _) ?_
          refine e_eq (f_M_under_M_startMany_M_startOn_j64.eq_1 _ _ _ _ _ _) ?_
          refine e_nmG (fun w13 hw13 => ?_)
          have f14 := rg_tr (rg_add 2 10 f12 (rgl (1) 1 1 rfl) rfl) hw13
          exact ih _ _ _ _ hW hF h2 (f14.sub rfl) (up_s f12 hw13 hm rfl)
      · refine e_eq (f_M_under_M_startMany_M_startOn_j64.eq_1 _ _ _ _ _ _) ?_
        refine e_nmG (fun w15 hw15 => ?_)
        have f16 := rg_tr (rg_add 1 10 f5 (rgl (1) 1 1 rfl) rfl) hw15
        exact ih _ _ _ _ hW hF h2 (f16.sub rfl) (up_s f5 hw15 hm rfl)
set_option maxRecDepth 20000 in
set_option maxHeartbeats 4000000 in
theorem t_M_under_M_startMany_M_startOn_L6 {S0 : SS} : ∀ (n : Nat) (x2 : Int32) (x3 : Int32) (x4 : Int32) (S : SS), WR S → Fr [] [] S0 S → rg x4 0 4 → 4 - x4.toInt < (n : Int) → Ex2 (f_M_under_M_startMany_M_startOn_L6 n x2 x3 x4 S) (fun r U => WR U ∧ Fr [] [] S0 U ∧ True) := by
  intro n
  induction n with
  | zero =>
    intro x2 x3 x4 S hW hF h2 hm
    exact up_0 h2 hm rfl
  | succ n ih =>
    intro x2 x3 x4 S hW hF h2 hm
    refine e_eq (f_M_under_M_startMany_M_startOn_L6.eq_2 _ _ _ _ _) ?_
    refine e_i (fun q1 => ?_) (fun q1 => ?_)
    · exact e_some ⟨hW, hF, trivial⟩
    · have f3 := nle_r 3 (rgl (4) 4 4 rfl) h2 q1 rfl
      exact t_M_under_M_startMany_M_startOn_L15 (fun _ _ _ S' hW' hF' hk2 ke => ih _ _ _ S' hW' hF' hk2 (up_s f3 ke hm rfl)) NF _ _ _ _ hW hF f3 ((rgl (0) 0 0 rfl).sub rfl) (up_n (rgl (0) 0 0 rfl) rfl)
set_option maxRecDepth 20000 in
set_option maxHeartbeats 4000000 in
theorem t_M_under_M_startMany_M_startOn {a2 : Int32} {S : SS} (hW : WR S) : Ex2 (f_M_under_M_startMany_M_startOn a2 S) (fun r U => WR U ∧ Fr [] [] S U ∧ True) := by
  have hF : Fr [] [] S S := Fr.rf
  refine e_eq (f_M_under_M_startMany_M_startOn.eq_1 _ _) ?_
  exact t_M_under_M_startMany_M_startOn_L6  NF _ _ _ _ hW hF ((rgl (0) 0 0 rfl).sub rfl) (up_n (rgl (0) 0 0 rfl) rfl)
set_option maxRecDepth 20000 in
set_option maxHeartbeats 4000000 in
theorem t_M_under_M_goalMany_M_goalOn_L15 {S0 : SS} {K : Int32 → Int32 → Int32 → SS → Option (Int32 × SS)} {x4 : Int32} (hK : ∀ (k0 : Int32) (k1 : Int32) (k2 : Int32) (S' : SS), WR S' → Fr [] [] S0 S' → rg k2 0 4 → k2 = x4 + 1 → Ex2 (K k0 k1 k2 S') (fun r U => WR U ∧ Fr [] [] S0 U ∧ True)) : ∀ (n : Nat) (x2 : Int32) (x3 : Int32) (x5 : Int32) (S : SS), WR S → Fr [] [] S0 S → rg x4 0 3 → rg x5 0 10 → 10 - x5.toInt < (n : Int) → Ex2 (f_M_under_M_goalMany_M_goalOn_L15 K n x2 x3 x4 x5 S) (fun r U => WR U ∧ Fr [] [] S0 U ∧ True) := by
  intro n
  induction n with
  | zero =>
    intro x2 x3 x5 S hW hF h2 h3 hm
    exact up_0 h3 hm rfl
  | succ n ih =>
    intro x2 x3 x5 S hW hF h2 h3 hm
    refine e_eq (f_M_under_M_goalMany_M_goalOn_L15.eq_2 _ _ _ _ _ _ _) ?_
    refine e_grd (inb_g h2 rfl) ?_
    refine e_i (fun q1 => ?_) (fun q1 => ?_)
    · refine e_nmG (fun w2 hw2 => ?_)
      have f3 := rg_tr (rg_add 1 4 h2 (rgl (1) 1 1 rfl) rfl) hw2
      exact hK _ _ _ _ hW hF (f3.sub rfl) hw2
    · have f5 := nle_r 9 (ro_49 hW _) h3 q1 rfl
      refine e_grd (inb_g (rg_add 0 39 (rg_mul 0 30 (rgl (10) 10 10 rfl) h2 rfl) f5 rfl) rfl) ?_
      refine e_i (fun q6 => ?_) (fun q6 => ?_)
      · refine e_i (fun q8 => ?_) (fun q8 => ?_)
        · have f9 := rg_tr (rgl 0 0 0 rfl) q8
          refine e_eq (f_M_under_M_goalMany_M_goalOn_j63.eq_1 _ _ _ _ _ _) ?_
          refine e_eq (f_M_under_M_goalMany_M_goalOn_j64.eq_1 _ _ _ _ _ _) ?_
          refine e_nmG (fun w10 hw10 => ?_)
          have f11 := rg_tr (rg_add 1 1 f9 (rgl (1) 1 1 rfl) rfl) hw10
          exact ih _ _ _ _ hW hF h2 (f11.sub rfl) (up_s f9 hw10 hm rfl)
        · have f12 := ne_l 1 f5 (rgl 0 0 0 rfl) q8 rfl
          refine e_grd (inb_g (rg_sb 0 38 (rg_add 1 39 (rg_mul 0 30 (rgl (10) 10 10 rfl) h2 rfl) f12 rfl) (rgl (1) 1 1 rfl) rfl) rfl) ?_
          refine e_eq (f_M_under_M_goalMany_M_goalOn_j63.eq_1 _ _ _ _ _ _) ?_
          refine e_eq (f_M_under_M_goalMany_M_goalOn_j64.eq_1 _ _ _ _ _ _) ?_
          refine e_nmG (fun w13 hw13 => ?_)
          have f14 := rg_tr (rg_add 2 10 f12 (rgl (1) 1 1 rfl) rfl) hw13
          exact ih _ _ _ _ hW hF h2 (f14.sub rfl) (up_s f12 hw13 hm rfl)
      · refine e_eq (f_M_under_M_goalMany_M_goalOn_j64.eq_1 _ _ _ _ _ _) ?_
        refine e_nmG (fun w15 hw15 => ?_)
        have f16 := rg_tr (rg_add 1 10 f5 (rgl (1) 1 1 rfl) rfl) hw15
        exact ih _ _ _ _ hW hF h2 (f16.sub rfl) (up_s f5 hw15 hm rfl)
set_option maxRecDepth 20000 in
set_option maxHeartbeats 4000000 in
theorem t_M_under_M_goalMany_M_goalOn_L6 {S0 : SS} : ∀ (n : Nat) (x2 : Int32) (x3 : Int32) (x4 : Int32) (S : SS), WR S → Fr [] [] S0 S → rg x4 0 4 → 4 - x4.toInt < (n : Int) → Ex2 (f_M_under_M_goalMany_M_goalOn_L6 n x2 x3 x4 S) (fun r U => WR U ∧ Fr [] [] S0 U ∧ True) := by
  intro n
  induction n with
  | zero =>
    intro x2 x3 x4 S hW hF h2 hm
    exact up_0 h2 hm rfl
  | succ n ih =>
    intro x2 x3 x4 S hW hF h2 hm
    refine e_eq (f_M_under_M_goalMany_M_goalOn_L6.eq_2 _ _ _ _ _) ?_
    refine e_i (fun q1 => ?_) (fun q1 => ?_)
    · exact e_some ⟨hW, hF, trivial⟩
    · have f3 := nle_r 3 (rgl (4) 4 4 rfl) h2 q1 rfl
      exact t_M_under_M_goalMany_M_goalOn_L15 (fun _ _ _ S' hW' hF' hk2 ke => ih _ _ _ S' hW' hF' hk2 (up_s f3 ke hm rfl)) NF _ _ _ _ hW hF f3 ((rgl (0) 0 0 rfl).sub rfl) (up_n (rgl (0) 0 0 rfl) rfl)
set_option maxRecDepth 20000 in
set_option maxHeartbeats 4000000 in
theorem t_M_under_M_goalMany_M_goalOn {a2 : Int32} {S : SS} (hW : WR S) : Ex2 (f_M_under_M_goalMany_M_goalOn a2 S) (fun r U => WR U ∧ Fr [] [] S U ∧ True) := by
  have hF : Fr [] [] S S := Fr.rf
  refine e_eq (f_M_under_M_goalMany_M_goalOn.eq_1 _ _) ?_
  exact t_M_under_M_goalMany_M_goalOn_L6  NF _ _ _ _ hW hF ((rgl (0) 0 0 rfl).sub rfl) (up_n (rgl (0) 0 0 rfl) rfl)
set_option maxRecDepth 20000 in
set_option maxHeartbeats 4000000 in
theorem t_M_bound_L13 {S0 : SS} : ∀ (n : Nat) (x1 : Int32) (x2 : Int32) (S : SS), WR S → Fr [] [] S0 S → rg x2 0 10 → 10 - x2.toInt < (n : Int) → Ex2 (f_M_bound_L13 n x1 x2 S) (fun r U => WR U ∧ Fr [] [] S0 U ∧ True) := by
  intro n
  induction n with
  | zero =>
    intro x1 x2 S hW hF h1 hm
    exact up_0 h1 hm rfl
  | succ n ih =>
    intro x1 x2 S hW hF h1 hm
    refine e_eq (f_M_bound_L13.eq_2 _ _ _ _) ?_
    refine e_i (fun q1 => ?_) (fun q1 => ?_)
    · exact e_some ⟨hW, hF, trivial⟩
    · have f3 := nle_r 9 (rgl (10) 10 10 rfl) h1 q1 rfl
      refine e_cE (t_M_under_M_startMany_M_startOn hW) (fun u4 T4 p4 => ?_)
      obtain ⟨-, hT4, hr4⟩ := p4
      have eT4 := (fr_nil hT4).symm
      subst eT4
      refine e_cE (t_M_under_M_goalMany_M_goalOn hW) (fun u5 T5 p5 => ?_)
      obtain ⟨-, hT5, hr5⟩ := p5
      have eT5 := (fr_nil hT5).symm
      subst eT5
      refine e_i (fun q6 => ?_) (fun q6 => ?_)
      · refine e_eq (f_M_bound_j52.eq_1 _ _ _ _ _) ?_
        refine e_nmG (fun w7 hw7 => ?_)
        refine e_nmG (fun w8 hw8 => ?_)
        have f9 := rg_tr (rg_add 1 10 f3 (rgl (1) 1 1 rfl) rfl) hw8
        exact ih _ _ _ hW hF (f9.sub rfl) (up_s f3 hw8 hm rfl)
      · refine e_eq (f_M_bound_j52.eq_1 _ _ _ _ _) ?_
        refine e_nmG (fun w10 hw10 => ?_)
        refine e_nmG (fun w11 hw11 => ?_)
        have f12 := rg_tr (rg_add 1 10 f3 (rgl (1) 1 1 rfl) rfl) hw11
        exact ih _ _ _ hW hF (f12.sub rfl) (up_s f3 hw11 hm rfl)
set_option maxRecDepth 20000 in
set_option maxHeartbeats 4000000 in
theorem t_M_bound {S : SS} (hW : WR S) : Ex2 (f_M_bound  S) (fun r U => WR U ∧ Fr [] [] S U ∧ True) := by
  have hF : Fr [] [] S S := Fr.rf
  refine e_eq (f_M_bound.eq_1 _) ?_
  refine e_cE (t_M_areSame hW) (fun u1 T1 p1 => ?_)
  obtain ⟨-, hT1, hr1⟩ := p1
  have eT1 := (fr_nil hT1).symm
  subst eT1
  refine e_i (fun q2 => ?_) (fun q2 => ?_)
  · exact e_some ⟨hW, hF, trivial⟩
  · exact t_M_bound_L13  NF _ _ _ hW hF ((rgl (0) 0 0 rfl).sub rfl) (up_n (rgl (0) 0 0 rfl) rfl)
set_option maxRecDepth 20000 in
set_option maxHeartbeats 4000000 in
theorem t_M_proof {a1 : Int32} {S : SS} (hW : WR S) : Ex2 (f_M_proof a1 S) (fun r U => WR U ∧ Fr [] [] S U ∧ True) := by
  have hF : Fr [] [] S S := Fr.rf
  refine e_eq (f_M_proof.eq_1 _ _) ?_
  refine e_i (fun q1 => ?_) (fun q1 => ?_)
  · have f2 := le_r (rgl 0 0 0 rfl) (rgt _) q1
    refine e_i (fun q3 => ?_) (fun q3 => ?_)
    · refine e_i (fun q5 => ?_) (fun q5 => ?_)
      · have f6 := le_l f2 (ro_0_77 hW) q5
        refine e_grd (inb_g f6 rfl) ?_
        refine e_grd (inb_g (ro_56 hW _) rfl) ?_
        exact e_some ⟨hW, hF, trivial⟩
      · exact e_some ⟨hW, hF, trivial⟩
    · exact e_some ⟨hW, hF, trivial⟩
  · exact e_some ⟨hW, hF, trivial⟩
set_option maxRecDepth 20000 in
set_option maxHeartbeats 4000000 in
theorem t_M_spoil {a1 : Int32} {a2 : Int32} {S : SS} (hW : WR S) : Ex2 (f_M_spoil a1 a2 S) (fun r U => WR U ∧ Fr [55] [] S U ∧ True) := by
  have hF : Fr [55] [] S S := Fr.rf
  refine e_eq (f_M_spoil.eq_1 _ _ _) ?_
  refine e_i (fun q1 => ?_) (fun q1 => ?_)
  · exact e_some ⟨hW, hF, trivial⟩
  · have f3 := nlt_l (rgt _) (rgl 0 0 0 rfl) q1
    refine e_i (fun q4 => ?_) (fun q4 => ?_)
    · exact e_some ⟨hW, hF, trivial⟩
    · refine e_i (fun q7 => ?_) (fun q7 => ?_)
      · refine e_i (fun q9 => ?_) (fun q9 => ?_)
        · refine e_i (fun q11 => ?_) (fun q11 => ?_)
          · have f12 := le_l f3 (ro_0_77 hW) q11
            refine e_grd (inb_g f12 rfl) ?_
            refine e_grd (inb_g (ro_56 hW _) rfl) ?_
            refine e_nmG (fun w13 hw13 => ?_)
            refine e_grd (inb_g f12 rfl) ?_
            refine e_grd (inb_g (ro_56 hW _) rfl) ?_
            refine e_wrA (fun T14 eT14 hT14 v14 => ?_)
            have hW14 := WR.st (k := 55) hW trivial rfl eT14
            have hF14 := hF.tr hT14 rfl
            exact e_some ⟨hW14, hF14, trivial⟩
          · exact e_some ⟨hW, hF, trivial⟩
        · exact e_some ⟨hW, hF, trivial⟩
      · exact e_some ⟨hW, hF, trivial⟩
set_option maxRecDepth 20000 in
set_option maxHeartbeats 4000000 in
theorem t_M_works_L110 {S0 : SS} {K : Int32 → Int32 → SS → Option (Int32 × SS)} {x2 : Int32} (hK : ∀ (k0 : Int32) (k1 : Int32) (S' : SS), WR S' → Fr [57, 58] [] S0 S' → rg k0 0 1 → rg k1 0 4 → k1 = x2 + 1 → Ex2 (K k0 k1 S') (fun r U => WR U ∧ Fr [57, 58] [] S0 U ∧ rg r 0 1)) : ∀ (n : Nat) (x1 : Int32) (x3 : Int32) (S : SS), WR S → Fr [57, 58] [] S0 S → rg x1 0 1 → rg x2 0 3 → rg x3 0 10 → 10 - x3.toInt < (n : Int) → Ex2 (f_M_works_L110 K n x1 x2 x3 S) (fun r U => WR U ∧ Fr [57, 58] [] S0 U ∧ rg r 0 1) := by
  intro n
  induction n with
  | zero =>
    intro x1 x3 S hW hF h0 h1 h2 hm
    exact up_0 h2 hm rfl
  | succ n ih =>
    intro x1 x3 S hW hF h0 h1 h2 hm
    refine e_eq (f_M_works_L110.eq_2 _ _ _ _ _ _) ?_
    refine e_grd (inb_g h1 rfl) ?_
    refine e_i (fun q1 => ?_) (fun q1 => ?_)
    · refine e_eq (f_M_works_j161.eq_1 _ _ _ _) ?_
      refine e_nmG (fun w2 hw2 => ?_)
      have f3 := rg_tr (rg_add 1 4 h1 (rgl (1) 1 1 rfl) rfl) hw2
      exact hK _ _ _ hW hF h0 (f3.sub rfl) hw2
    · have f5 := nle_r 9 (ro_58 hW _) h2 q1 rfl
      refine e_i (fun q6 => ?_) (fun q6 => ?_)
      · have f7 := rg_tr (rgl 0 0 0 rfl) q6
        refine e_eq (f_M_works_j161.eq_1 _ _ _ _) ?_
        refine e_nmG (fun w8 hw8 => ?_)
        have f9 := rg_tr (rg_add 1 4 h1 (rgl (1) 1 1 rfl) rfl) hw8
        exact hK _ _ _ hW hF (f7.sub rfl) (f9.sub rfl) hw8
      · refine e_grd (inb_g (rg_add 0 39 (rg_mul 0 30 (rgl (10) 10 10 rfl) h1 rfl) f5 rfl) rfl) ?_
        refine e_grd (inb_g (rg_add 0 39 (rg_mul 0 30 (rgl (10) 10 10 rfl) h1 rfl) f5 rfl) rfl) ?_
        refine e_i (fun q11 => ?_) (fun q11 => ?_)
        · refine e_eq (f_M_works_j154.eq_1 _ _ _ _ _) ?_
          refine e_nmG (fun w13 hw13 => ?_)
          have f14 := rg_tr (rg_add 1 10 f5 (rgl (1) 1 1 rfl) rfl) hw13
          exact ih _ _ _ hW hF ((rgl (1) 1 1 rfl).sub rfl) h1 (f14.sub rfl) (up_s f5 hw13 hm rfl)
        · refine e_eq (f_M_works_j154.eq_1 _ _ _ _ _) ?_
          refine e_nmG (fun w15 hw15 => ?_)
          have f16 := rg_tr (rg_add 1 10 f5 (rgl (1) 1 1 rfl) rfl) hw15
          exact ih _ _ _ hW hF ((rgl (0) 0 0 rfl).sub rfl) h1 (f16.sub rfl) (up_s f5 hw15 hm rfl)
set_option maxRecDepth 20000 in
set_option maxHeartbeats 4000000 in
theorem t_M_works_L78 {S0 : SS} : ∀ (n : Nat) (x1 : Int32) (x2 : Int32) (S : SS), WR S → Fr [57, 58] [] S0 S → rg x1 0 1 → rg x2 0 4 → 4 - x2.toInt < (n : Int) → Ex2 (f_M_works_L78 n x1 x2 S) (fun r U => WR U ∧ Fr [57, 58] [] S0 U ∧ rg r 0 1) := by
  intro n
  induction n with
  | zero =>
    intro x1 x2 S hW hF h0 h1 hm
    exact up_0 h1 hm rfl
  | succ n ih =>
    intro x1 x2 S hW hF h0 h1 hm
    refine e_eq (f_M_works_L78.eq_2 _ _ _ _) ?_
    refine e_i (fun q1 => ?_) (fun q1 => ?_)
    · refine e_grd (isB_g h0 rfl) ?_
      exact e_some ⟨hW, hF, h0⟩
    · have f3 := nle_r 3 (rgl (4) 4 4 rfl) h1 q1 rfl
      refine e_i (fun q4 => ?_) (fun q4 => ?_)
      · have f5 := rg_tr (rgl 0 0 0 rfl) q4
        refine e_grd (isB_g f5 rfl) ?_
        exact e_some ⟨hW, hF, (f5.sub rfl)⟩
      · refine e_grd (inb_g f3 rfl) ?_
        refine e_grd (inb_g f3 rfl) ?_
        refine e_i (fun q7 => ?_) (fun q7 => ?_)
        · refine e_eq (f_M_works_j107.eq_1 _ _ _ _) ?_
          exact t_M_works_L110 (fun _ _ S' hW' hF' hk0 hk1 ke => ih _ _ S' hW' hF' hk0 hk1 (up_s f3 ke hm rfl)) NF _ _ _ hW hF ((rgl (1) 1 1 rfl).sub rfl) f3 ((rgl (0) 0 0 rfl).sub rfl) (up_n (rgl (0) 0 0 rfl) rfl)
        · refine e_eq (f_M_works_j107.eq_1 _ _ _ _) ?_
          exact t_M_works_L110 (fun _ _ S' hW' hF' hk0 hk1 ke => ih _ _ S' hW' hF' hk0 hk1 (up_s f3 ke hm rfl)) NF _ _ _ hW hF ((rgl (0) 0 0 rfl).sub rfl) f3 ((rgl (0) 0 0 rfl).sub rfl) (up_n (rgl (0) 0 0 rfl) rfl)
set_option maxRecDepth 20000 in
set_option maxHeartbeats 4000000 in
theorem t_M_works_L9 {S0 : SS} : ∀ (n : Nat) (x1 : Int32) (x2 : Int32) (S : SS), WR S → Fr [57, 58] [] S0 S → rg x1 0 1 → rg x2 0 399 → 399 - x2.toInt < (n : Int) → Ex2 (f_M_works_L9 n x1 x2 S) (fun r U => WR U ∧ Fr [57, 58] [] S0 U ∧ rg r 0 1) := by
  intro n
  induction n with
  | zero =>
    intro x1 x2 S hW hF h0 h1 hm
    exact up_0 h1 hm rfl
  | succ n ih =>
    intro x1 x2 S hW hF h0 h1 hm
    refine e_eq (f_M_works_L9.eq_2 _ _ _ _) ?_
    refine e_i (fun q1 => ?_) (fun q1 => ?_)
    · refine e_eq (f_M_works_j76.eq_1 _ _) ?_
      exact t_M_works_L78  NF _ _ _ hW hF h0 ((rgl (0) 0 0 rfl).sub rfl) (up_n (rgl (0) 0 0 rfl) rfl)
    · have f3 := nle_r 398 (ro_0_77 hW) h1 q1 rfl
      refine e_i (fun q4 => ?_) (fun q4 => ?_)
      · have f5 := rg_tr (rgl 0 0 0 rfl) q4
        refine e_eq (f_M_works_j76.eq_1 _ _) ?_
        exact t_M_works_L78  NF _ _ _ hW hF (f5.sub rfl) ((rgl (0) 0 0 rfl).sub rfl) (up_n (rgl (0) 0 0 rfl) rfl)
      · refine e_grd (inb_g f3 rfl) ?_
        refine e_grd (inb_g f3 rfl) ?_
        refine e_grd (inb_g f3 rfl) ?_
        refine e_cE (t_M_mayMove hW (ro_51 hW _) (ro_52 hW _)) (fun u7 T7 p7 => ?_)
        obtain ⟨-, hT7, hr7, hc7⟩ := p7
        have eT7 := (fr_nil hT7).symm
        subst eT7
        refine e_i (fun q8 => ?_) (fun q8 => ?_)
        · have f9 := rg_tr (rgl 0 0 0 rfl) q8
          refine e_eq (f_M_works_j70.eq_1 _ _ _ _) ?_
          refine e_nmG (fun w10 hw10 => ?_)
          have f11 := rg_tr (rg_add 1 399 f3 (rgl (1) 1 1 rfl) rfl) hw10
          exact ih _ _ _ hW hF (f9.sub rfl) (f11.sub rfl) (up_s f3 hw10 hm rfl)
        · have f12 := ne_l 1 hr7 (rgl 0 0 0 rfl) q8 rfl
          refine e_grd (inb_g f3 rfl) ?_
          refine e_grd (inb_g f3 rfl) ?_
          refine e_grd (inb_g f3 rfl) ?_
          refine e_cV (t_M_shift hW (ro_51 hW _) (ro_52 hW _) (hc7 q8)) (fun T13 p13 => ?_)
          obtain ⟨hW13, hT13⟩ := p13
          have hF13 := hF.tr hT13 rfl
          refine e_eq (f_M_works_j70.eq_1 _ _ _ _) ?_
          refine e_nmG (fun w15 hw15 => ?_)
          have f16 := rg_tr (rg_add 1 399 f3 (rgl (1) 1 1 rfl) rfl) hw15
          exact ih _ _ _ hW13 hF13 (f12.sub rfl) (f16.sub rfl) (up_s f3 hw15 hm rfl)
set_option maxRecDepth 20000 in
set_option maxHeartbeats 4000000 in
theorem t_M_works {S : SS} (hW : WR S) : Ex2 (f_M_works  S) (fun r U => WR U ∧ Fr [57, 58] [] S U ∧ rg r 0 1) := by
  have hF : Fr [57, 58] [] S S := Fr.rf
  refine e_eq (f_M_works.eq_1 _) ?_
  refine e_cV (t_M_take hW) (fun T1 p1 => ?_)
  obtain ⟨hW1, hT1⟩ := p1
  have hF1 := hF.tr hT1 rfl
  exact t_M_works_L9  NF _ _ _ hW1 hF1 ((rgl (1) 1 1 rfl).sub rfl) ((rgl (0) 0 0 rfl).sub rfl) (up_n (rgl (0) 0 0 rfl) rfl)
set_option maxRecDepth 20000 in
set_option maxHeartbeats 4000000 in
theorem t_Report_begin {S : SS} (hW : WR S) : Ew (f_Report_begin  S) (fun U => WR U ∧ Fr [] [(62, 2), (62, 3), (62, 4), (62, 5), (62, 6)] S U) := by
  have hF : Fr [] [(62, 2), (62, 3), (62, 4), (62, 5), (62, 6)] S S := Fr.rf
  refine v_eq (f_Report_begin.eq_1 _) ?_
  refine v_wrO (fun T1 eT1 hT1 v1 => ?_)
  have hW1 := wo_62_2 hW ((rgl (0) 0 0 rfl).sub rfl) eT1
  have hF1 := hF.tr hT1 rfl
  refine v_wrO (fun T3 eT3 hT3 v3 => ?_)
  have hW3 := WR.st (k := 62) (i := 3) hW1 trivial rfl eT3
  have hF3 := hF1.tr hT3 rfl
  refine v_wrO (fun T6 eT6 hT6 v6 => ?_)
  have hW6 := WR.st (k := 62) (i := 4) hW3 trivial rfl eT6
  have hF6 := hF3.tr hT6 rfl
  refine v_wrO (fun T10 eT10 hT10 v10 => ?_)
  have hW10 := WR.st (k := 62) (i := 5) hW6 trivial rfl eT10
  have hF10 := hF6.tr hT10 rfl
  refine v_wrO (fun T15 eT15 hT15 v15 => ?_)
  have hW15 := WR.st (k := 62) (i := 6) hW10 trivial rfl eT15
  have hF15 := hF10.tr hT15 rfl
  exact v_some ⟨hW15, hF15⟩
set_option maxRecDepth 20000 in
set_option maxHeartbeats 4000000 in
theorem t_Layout_addTrack {a1 : Int32} {S : SS} (hW : WR S) : Ex2 (f_Layout_addTrack a1 S) (fun r U => WR U ∧ Fr [93] [(66, 7)] S U ∧ rg r (-3) 23) := by
  have hF : Fr [93] [(66, 7)] S S := Fr.rf
  refine e_eq (f_Layout_addTrack.eq_1 _ _) ?_
  refine e_i (fun q1 => ?_) (fun q1 => ?_)
  · have f2 := lt_l 23 (ro_66_7 hW) (rgl (24) 24 24 rfl) q1 rfl
    refine e_grd (inb_g f2 rfl) ?_
    refine e_wrA (fun T3 eT3 hT3 v3 => ?_)
    have hW3 := WR.st (k := 93) hW trivial rfl eT3
    have hF3 := hF.tr hT3 rfl
    have f4 := rg_tr f2 (hT3.1 66 _ rfl)
    refine e_wrO (fun T5 eT5 hT5 v5 => ?_)
    have hW5 := wo_66_7 hW3 ((rg_add 1 24 f4 (rgl (1) 1 1 rfl) rfl).sub rfl) eT5
    have hF5 := hF3.tr hT5 rfl
    have f6 := rg_tr (rg_add 1 24 f4 (rgl (1) 1 1 rfl) rfl) v5
    exact e_some ⟨hW5, hF5, ((rg_sb 0 23 f6 (rgl (1) 1 1 rfl) rfl).sub rfl)⟩
  · exact e_some ⟨hW, hF, ((rgl (-3) (-3) (-3) rfl).sub rfl)⟩
set_option maxRecDepth 20000 in
set_option maxHeartbeats 4000000 in
theorem t_Report_found {a1 : Int32} {S : SS} (hW : WR S) : Ex2 (f_Report_found a1 S) (fun r U => WR U ∧ Fr [77] [(62, 3)] S U ∧ rg r (-2) (-2)) := by
  have hF : Fr [77] [(62, 3)] S S := Fr.rf
  refine e_eq (f_Report_found.eq_1 _ _) ?_
  refine e_wrO (fun T1 eT1 hT1 v1 => ?_)
  have hW1 := WR.st (k := 62) (i := 3) hW trivial rfl eT1
  have hF1 := hF.tr hT1 rfl
  refine e_i (fun q2 => ?_) (fun q2 => ?_)
  · exact e_some ⟨hW1, hF1, (rgl (-2) (-2) (-2) rfl)⟩
  · have f4 := nle_l 1 (rgt _) (rgl 0 0 0 rfl) q2 rfl
    refine e_i (fun q5 => ?_) (fun q5 => ?_)
    · exact e_some ⟨hW1, hF1, (rgl (-2) (-2) (-2) rfl)⟩
    · have f7 := nlt_r (rgl (17) 17 17 rfl) f4 q5
      refine e_grd (inb_g f7 rfl) ?_
      refine e_grd (inb_g f7 rfl) ?_
      refine e_wrA (fun T8 eT8 hT8 v8 => ?_)
      have hW8 := WR.st (k := 77) hW1 trivial rfl eT8
      have hF8 := hF1.tr hT8 rfl
      exact e_some ⟨hW8, hF8, (rgl (-2) (-2) (-2) rfl)⟩
set_option maxRecDepth 20000 in
set_option maxHeartbeats 4000000 in
theorem t_Yard_track {a1 : Int32} {S : SS} (hW : WR S) : Ex2 (f_Yard_track a1 S) (fun r U => WR U ∧ Fr [77, 93] [(62, 2), (62, 3), (62, 4), (62, 5), (62, 6), (64, 6), (64, 7), (66, 7)] S U ∧ rg r (-3) 23) := by
  have hF : Fr [77, 93] [(62, 2), (62, 3), (62, 4), (62, 5), (62, 6), (64, 6), (64, 7), (66, 7)] S S := Fr.rf
  refine e_eq (f_Yard_track.eq_1 _ _) ?_
  refine e_i (fun q1 => ?_) (fun q1 => ?_)
  · exact e_some ⟨hW, hF, ((rgl (-1) (-1) (-1) rfl).sub rfl)⟩
  · refine e_i (fun q3 => ?_) (fun q3 => ?_)
    · refine e_i (fun q5 => ?_) (fun q5 => ?_)
      · refine e_cV (t_Report_begin hW) (fun T7 p7 => ?_)
        obtain ⟨hW7, hT7⟩ := p7
        have hF7 := hF.tr hT7 rfl
        refine e_i (fun q9 => ?_) (fun q9 => ?_)
        · refine e_cV (t_History_forget hW7) (fun T11 p11 => ?_)
          obtain ⟨hW11, hT11⟩ := p11
          have hF11 := hF7.tr hT11 rfl
          refine e_cE (t_Layout_addTrack hW11) (fun u13 T13 p13 => ?_)
          obtain ⟨hW13, hT13, hr13⟩ := p13
          have hF13 := hF11.tr hT13 rfl
          exact e_some ⟨hW13, hF13, hr13⟩
        · refine e_cE (t_Report_found hW7) (fun u15 T15 p15 => ?_)
          obtain ⟨hW15, hT15, hr15⟩ := p15
          have hF15 := hF7.tr hT15 rfl
          exact e_some ⟨hW15, hF15, (hr15.sub rfl)⟩
      · exact e_some ⟨hW, hF, ((rgl (-3) (-3) (-3) rfl).sub rfl)⟩
    · exact e_some ⟨hW, hF, ((rgl (-1) (-1) (-1) rfl).sub rfl)⟩
set_option maxRecDepth 20000 in
set_option maxHeartbeats 4000000 in
theorem t_State_setPoint {a1 : Int32} {a2 : Int32} {a3 : Int32} {S : SS} (hW : WR S) : Ew (f_State_setPoint a1 a2 a3 S) (fun U => WR U ∧ Fr [79] [] S U) := by
  have hF : Fr [79] [] S S := Fr.rf
  refine v_eq (f_State_setPoint.eq_1 _ _ _ _) ?_
  refine v_i (fun q1 => ?_) (fun q1 => ?_)
  · exact v_some ⟨hW, hF⟩
  · have f3 := nlt_l (rgt _) (rgl 0 0 0 rfl) q1
    refine v_i (fun q4 => ?_) (fun q4 => ?_)
    · exact v_some ⟨hW, hF⟩
    · have f6 := nle_r 39 (rgl (40) 40 40 rfl) f3 q4 rfl
      refine v_grd (inb_g (rg_add 74 113 (rgl (74) 74 74 rfl) f6 rfl) rfl) ?_
      refine v_wrA (fun T7 eT7 hT7 v7 => ?_)
      have hW7 := WR.st (k := 79) hW (okS_g (rg_add 74 113 (rgl (74) 74 74 rfl) f6 rfl) rfl) rfl eT7
      have hF7 := hF.tr hT7 rfl
      refine v_grd (inb_g (rg_add 114 153 (rgl (114) 114 114 rfl) f6 rfl) rfl) ?_
      refine v_wrA (fun T8 eT8 hT8 v8 => ?_)
      have hW8 := WR.st (k := 79) hW7 (okS_g (rg_add 114 153 (rgl (114) 114 114 rfl) f6 rfl) rfl) rfl eT8
      have hF8 := hF7.tr hT8 rfl
      exact v_some ⟨hW8, hF8⟩
set_option maxRecDepth 20000 in
set_option maxHeartbeats 4000000 in
theorem t_Layout_addPoint {a1 : Int32} {S : SS} (hW : WR S) : Ex2 (f_Layout_addPoint a1 S) (fun r U => WR U ∧ Fr [79, 94, 95] [(66, 8)] S U ∧ rg r (-3) 39) := by
  have hF : Fr [79, 94, 95] [(66, 8)] S S := Fr.rf
  refine e_eq (f_Layout_addPoint.eq_1 _ _) ?_
  refine e_i (fun q1 => ?_) (fun q1 => ?_)
  · exact e_some ⟨hW, hF, ((rgl (-3) (-3) (-3) rfl).sub rfl)⟩
  · have f3 := nle_r 39 (rgl (40) 40 40 rfl) (ro_66_8 hW) q1 rfl
    refine e_bnd ?_
    refine e_eq (f_Layout_isEnd.eq_1 _ _) ?_
    refine e_i (fun q4 => ?_) (fun q4 => ?_)
    · refine e_some ?_
      refine e_t (by decide) ?_
      exact e_some ⟨hW, hF, ((rgl (-3) (-3) (-3) rfl).sub rfl)⟩
    · have f6 := nlt_l (rgt _) (rgl 0 0 0 rfl) q4
      refine e_i (fun q7 => ?_) (fun q7 => ?_)
      · refine e_some ?_
        refine e_t (by decide) ?_
        exact e_some ⟨hW, hF, ((rgl (-3) (-3) (-3) rfl).sub rfl)⟩
      · have f9 := nle_r 47 (rgl (48) 48 48 rfl) f6 q7 rfl
        refine e_some ?_
        refine e_f (by decide) ?_
        refine e_grd (inb_g f9 rfl) ?_
        refine e_wrA (fun T10 eT10 hT10 v10 => ?_)
        have hW10 := WR.st (k := 94) hW trivial rfl eT10
        have hF10 := hF.tr hT10 rfl
        have f11 := rg_tr f3 (hT10.1 66 _ rfl)
        refine e_grd (inb_g f11 rfl) ?_
        refine e_wrA (fun T13 eT13 hT13 v13 => ?_)
        have hW13 := WR.st (k := 95) hW10 trivial rfl eT13
        have hF13 := hF10.tr hT13 rfl
        have f14 := rg_tr f11 (hT13.1 66 _ rfl)
        refine e_cV (t_State_setPoint hW13) (fun T17 p17 => ?_)
        obtain ⟨hW17, hT17⟩ := p17
        have hF17 := hF13.tr hT17 rfl
        have f18 := rg_tr f14 (hT17.1 66 _ rfl)
        refine e_wrO (fun T20 eT20 hT20 v20 => ?_)
        have hW20 := wo_66_8 hW17 ((rg_add 1 40 f18 (rgl (1) 1 1 rfl) rfl).sub rfl) eT20
        have hF20 := hF17.tr hT20 rfl
        have f22 := rg_tr (rg_add 1 40 f18 (rgl (1) 1 1 rfl) rfl) v20
        exact e_some ⟨hW20, hF20, ((rg_sb 0 39 f22 (rgl (1) 1 1 rfl) rfl).sub rfl)⟩
set_option maxRecDepth 20000 in
set_option maxHeartbeats 4000000 in
theorem t_Yard_point {a1 : Int32} {a2 : Int32} {S : SS} (hW : WR S) : Ex2 (f_Yard_point a1 a2 S) (fun r U => WR U ∧ Fr [77, 79, 94, 95] [(62, 2), (62, 3), (62, 4), (62, 5), (62, 6), (64, 6), (64, 7), (66, 8)] S U ∧ rg r (-3) 39) := by
  have hF : Fr [77, 79, 94, 95] [(62, 2), (62, 3), (62, 4), (62, 5), (62, 6), (64, 6), (64, 7), (66, 8)] S S := Fr.rf
  refine e_eq (f_Yard_point.eq_1 _ _ _) ?_
  refine e_bnd ?_
  refine e_eq (f_Yard_isNot.eq_1 _ _ _ _) ?_
  refine e_i (fun q1 => ?_) (fun q1 => ?_)
  · refine e_some ?_
    refine e_f (by decide) ?_
    exact e_some ⟨hW, hF, ((rgl (-1) (-1) (-1) rfl).sub rfl)⟩
  · have f3 := nlt_l (rgt _) (rgl (0) 0 0 rfl) q1
    refine e_i (fun q4 => ?_) (fun q4 => ?_)
    · have f5 := le_l f3 (rgl (1) 1 1 rfl) q4
      refine e_some ?_
      refine e_t (by decide) ?_
      refine e_i (fun q6 => ?_) (fun q6 => ?_)
      · refine e_cV (t_Report_begin hW) (fun T8 p8 => ?_)
        obtain ⟨hW8, hT8⟩ := p8
        have hF8 := hF.tr hT8 rfl
        refine e_bnd ?_
        refine e_eq (f_Layout_trackFinding.eq_1 _ _) ?_
        refine e_i (fun q10 => ?_) (fun q10 => ?_)
        · refine e_some ?_
          refine e_f (by decide) ?_
          refine e_eq (f_Yard_point_j66.eq_1 _ _ _ _) ?_
          refine e_f (by decide) ?_
          refine e_cE (t_Report_found hW8) (fun u12 T12 p12 => ?_)
          obtain ⟨hW12, hT12, hr12⟩ := p12
          have hF12 := hF8.tr hT12 rfl
          exact e_some ⟨hW12, hF12, (hr12.sub rfl)⟩
        · have f14 := nlt_l (rgt _) (rgl 0 0 0 rfl) q10
          refine e_i (fun q15 => ?_) (fun q15 => ?_)
          · have f16 := lt_l 23 f14 (rgl (24) 24 24 rfl) q15 rfl
            refine e_i (fun q17 => ?_) (fun q17 => ?_)
            · refine e_some ?_
              refine e_f (by decide) ?_
              refine e_eq (f_Yard_point_j66.eq_1 _ _ _ _) ?_
              refine e_f (by decide) ?_
              refine e_cE (t_Report_found hW8) (fun u19 T19 p19 => ?_)
              obtain ⟨hW19, hT19, hr19⟩ := p19
              have hF19 := hF8.tr hT19 rfl
              exact e_some ⟨hW19, hF19, (hr19.sub rfl)⟩
            · refine e_some ?_
              refine e_t (by decide) ?_
              refine e_bnd ?_
              refine e_eq (f_Layout_pointAt.eq_1 _ _) ?_
              refine e_f (d_nlt (rg_add 0 47 (rg_mul 0 46 (rgl (2) 2 2 rfl) f16 rfl) f5 rfl) (rgl 0 0 0 rfl) rfl) ?_
              refine e_f (d_nle (rgl (48) 48 48 rfl) (rg_add 0 47 (rg_mul 0 46 (rgl (2) 2 2 rfl) f16 rfl) f5 rfl) rfl) ?_
              refine e_grd (inb_g (rg_add 0 47 (rg_mul 0 46 (rgl (2) 2 2 rfl) f16 rfl) f5 rfl) rfl) ?_
              refine e_someG (fun w23 hw23 => ?_)
              refine e_i (fun q24 => ?_) (fun q24 => ?_)
              · refine e_eq (f_Yard_point_j66.eq_1 _ _ _ _) ?_
                refine e_t (by decide) ?_
                refine e_cV (t_History_forget hW8) (fun T27 p27 => ?_)
                obtain ⟨hW27, hT27⟩ := p27
                have hF27 := hF8.tr hT27 rfl
                refine e_cE (t_Layout_addPoint hW27) (fun u31 T31 p31 => ?_)
                obtain ⟨hW31, hT31, hr31⟩ := p31
                have hF31 := hF27.tr hT31 rfl
                exact e_some ⟨hW31, hF31, hr31⟩
              · refine e_eq (f_Yard_point_j66.eq_1 _ _ _ _) ?_
                refine e_f (by decide) ?_
                refine e_cE (t_Report_found hW8) (fun u33 T33 p33 => ?_)
                obtain ⟨hW33, hT33, hr33⟩ := p33
                have hF33 := hF8.tr hT33 rfl
                exact e_some ⟨hW33, hF33, (hr33.sub rfl)⟩
          · refine e_some ?_
            refine e_f (by decide) ?_
            refine e_eq (f_Yard_point_j66.eq_1 _ _ _ _) ?_
            refine e_f (by decide) ?_
            refine e_cE (t_Report_found hW8) (fun u37 T37 p37 => ?_)
            obtain ⟨hW37, hT37, hr37⟩ := p37
            have hF37 := hF8.tr hT37 rfl
            exact e_some ⟨hW37, hF37, (hr37.sub rfl)⟩
      · exact e_some ⟨hW, hF, ((rgl (-3) (-3) (-3) rfl).sub rfl)⟩
    · refine e_some ?_
      refine e_f (by decide) ?_
      exact e_some ⟨hW, hF, ((rgl (-1) (-1) (-1) rfl).sub rfl)⟩
set_option maxRecDepth 20000 in
set_option maxHeartbeats 4000000 in
theorem t_Layout_addLink {a1 : Int32} {a2 : Int32} {S : SS} (hW : WR S) : Ew (f_Layout_addLink a1 a2 S) (fun U => WR U ∧ Fr [96, 97] [] S U) := by
  have hF : Fr [96, 97] [] S S := Fr.rf
  refine v_eq (f_Layout_addLink.eq_1 _ _ _) ?_
  refine v_bnd ?_
  refine e_eq (f_Layout_isEnd.eq_1 _ _) ?_
  refine e_i (fun q1 => ?_) (fun q1 => ?_)
  · refine e_some ?_
    refine v_t (by decide) ?_
    exact v_some ⟨hW, hF⟩
  · have f3 := nlt_l (rgt _) (rgl 0 0 0 rfl) q1
    refine e_i (fun q4 => ?_) (fun q4 => ?_)
    · refine e_some ?_
      refine v_t (by decide) ?_
      exact v_some ⟨hW, hF⟩
    · have f6 := nle_r 47 (rgl (48) 48 48 rfl) f3 q4 rfl
      refine e_some ?_
      refine v_f (by decide) ?_
      refine v_grd (inb_g f6 rfl) ?_
      refine v_i (fun q7 => ?_) (fun q7 => ?_)
      · exact v_some ⟨hW, hF⟩
      · have f9 := nle_r 2 (rgl (3) 3 3 rfl) (ro_96 hW _) q7 rfl
        refine v_grd (inb_g f6 rfl) ?_
        refine v_grd (inb_g (rg_add 0 143 (rg_mul 0 141 (rgl (3) 3 3 rfl) f6 rfl) f9 rfl) rfl) ?_
        refine v_wrA (fun T10 eT10 hT10 v10 => ?_)
        have hW10 := WR.st (k := 97) hW trivial rfl eT10
        have hF10 := hF.tr hT10 rfl
        have f11 := rg_tr f9 (hT10.1 96 _ rfl)
        refine v_grd (inb_g f6 rfl) ?_
        refine v_grd (inb_g f6 rfl) ?_
        refine v_wrA (fun T12 eT12 hT12 v12 => ?_)
        have hW12 := wo_96 hW10 ((rg_add 1 3 f11 (rgl (1) 1 1 rfl) rfl).sub rfl) eT12
        have hF12 := hF10.tr hT12 rfl
        exact v_some ⟨hW12, hF12⟩
set_option maxRecDepth 20000 in
set_option maxHeartbeats 4000000 in
theorem t_Layout_join {a1 : Int32} {a2 : Int32} {S : SS} (hW : WR S) : Ew (f_Layout_join a1 a2 S) (fun U => WR U ∧ Fr [96, 97] [] S U) := by
  have hF : Fr [96, 97] [] S S := Fr.rf
  refine v_eq (f_Layout_join.eq_1 _ _ _) ?_
  refine v_cV (t_Layout_addLink hW) (fun T1 p1 => ?_)
  obtain ⟨hW1, hT1⟩ := p1
  have hF1 := hF.tr hT1 rfl
  refine v_cV (t_Layout_addLink hW1) (fun T2 p2 => ?_)
  obtain ⟨hW2, hT2⟩ := p2
  have hF2 := hF1.tr hT2 rfl
  exact v_some ⟨hW2, hF2⟩
set_option maxRecDepth 20000 in
set_option maxHeartbeats 4000000 in
theorem t_Layout_areJoined_L2 {S0 : SS} : ∀ (n : Nat) (x1 : Int32) (x2 : Int32) (x3 : Int32) (S : SS), WR S → Fr [] [] S0 S → rg x1 0 47 → rg x3 0 3 → 3 - x3.toInt < (n : Int) → Ex2 (f_Layout_areJoined_L2 n x1 x2 x3 S) (fun r U => WR U ∧ Fr [] [] S0 U ∧ rg r 0 1) := by
  intro n
  induction n with
  | zero =>
    intro x1 x2 x3 S hW hF h0 h2 hm
    exact up_0 h2 hm rfl
  | succ n ih =>
    intro x1 x2 x3 S hW hF h0 h2 hm
    refine e_eq (f_Layout_areJoined_L2.eq_2 _ _ _ _ _) ?_
    refine e_bnd ?_
    refine e_eq (f_Layout_linksAt.eq_1 _ _) ?_
    refine e_f (d_nlt h0 (rgl 0 0 0 rfl) rfl) ?_
    refine e_f (d_nle (rgl (48) 48 48 rfl) h0 rfl) ?_
    refine e_grd (inb_g h0 rfl) ?_
    refine e_someG (fun w1 hw1 => ?_)
    have f2 := rg_tr (ro_96 hW _) hw1
    refine e_i (fun q3 => ?_) (fun q3 => ?_)
    · exact e_some ⟨hW, hF, ((rgl (0) 0 0 rfl).sub rfl)⟩
    · have f6 := nle_r 2 f2 h2 q3 rfl
      refine e_grd (inb_g (rg_add 0 143 (rg_mul 0 141 (rgl (3) 3 3 rfl) h0 rfl) f6 rfl) rfl) ?_
      refine e_i (fun q7 => ?_) (fun q7 => ?_)
      · exact e_some ⟨hW, hF, ((rgl (1) 1 1 rfl).sub rfl)⟩
      · refine e_nmG (fun w8 hw8 => ?_)
        have f9 := rg_tr (rg_add 1 3 f6 (rgl (1) 1 1 rfl) rfl) hw8
        exact ih _ _ _ _ hW hF h0 (f9.sub rfl) (up_s f6 hw8 hm rfl)
set_option maxRecDepth 20000 in
set_option maxHeartbeats 4000000 in
theorem t_Layout_areJoined {a1 : Int32} {a2 : Int32} {S : SS} (hW : WR S) (h0 : rg a1 0 47) : Ex2 (f_Layout_areJoined a1 a2 S) (fun r U => WR U ∧ Fr [] [] S U ∧ rg r 0 1) := by
  have hF : Fr [] [] S S := Fr.rf
  refine e_eq (f_Layout_areJoined.eq_1 _ _ _) ?_
  exact t_Layout_areJoined_L2  NF _ _ _ _ hW hF h0 ((rgl (0) 0 0 rfl).sub rfl) (up_n (rgl (0) 0 0 rfl) rfl)
set_option maxRecDepth 20000 in
set_option maxHeartbeats 4000000 in
theorem t_Layout_mayGetLink {a1 : Int32} {S : SS} (hW : WR S) : Ex2 (f_Layout_mayGetLink a1 S) (fun r U => WR U ∧ Fr [] [] S U ∧ rg r 0 1) := by
  have hF : Fr [] [] S S := Fr.rf
  refine e_eq (f_Layout_mayGetLink.eq_1 _ _) ?_
  refine e_bnd ?_
  refine e_eq (f_Layout_linksAt.eq_1 _ _) ?_
  refine e_i (fun q1 => ?_) (fun q1 => ?_)
  · refine e_some ?_
    refine e_bnd ?_
    refine e_eq (f_Layout_pointAt.eq_1 _ _) ?_
    refine e_t q1 ?_
    refine e_some ?_
    refine e_t rfl ?_
    refine e_eq (f_Layout_mayGetLink_j20.eq_1 _ _ _) ?_
    refine e_f (by decide) ?_
    exact e_some ⟨hW, hF, ((rgl (1) 1 1 rfl).sub rfl)⟩
  · have f3 := nlt_l (rgt _) (rgl 0 0 0 rfl) q1
    refine e_i (fun q4 => ?_) (fun q4 => ?_)
    · refine e_some ?_
      refine e_bnd ?_
      refine e_eq (f_Layout_pointAt.eq_1 _ _) ?_
      refine e_f q1 ?_
      refine e_t q4 ?_
      refine e_some ?_
      refine e_t rfl ?_
      refine e_eq (f_Layout_mayGetLink_j20.eq_1 _ _ _) ?_
      refine e_f (by decide) ?_
      exact e_some ⟨hW, hF, ((rgl (1) 1 1 rfl).sub rfl)⟩
    · have f6 := nle_r 47 (rgl (48) 48 48 rfl) f3 q4 rfl
      refine e_grd (inb_g f6 rfl) ?_
      refine e_someG (fun w7 hw7 => ?_)
      refine e_bnd ?_
      refine e_eq (f_Layout_pointAt.eq_1 _ _) ?_
      refine e_f q1 ?_
      refine e_f q4 ?_
      refine e_grd (inb_g f6 rfl) ?_
      refine e_someG (fun w9 hw9 => ?_)
      refine e_i (fun q10 => ?_) (fun q10 => ?_)
      · refine e_eq (f_Layout_mayGetLink_j20.eq_1 _ _ _) ?_
        refine e_i (fun q13 => ?_) (fun q13 => ?_)
        · exact e_some ⟨hW, hF, ((rgl (0) 0 0 rfl).sub rfl)⟩
        · exact e_some ⟨hW, hF, ((rgl (1) 1 1 rfl).sub rfl)⟩
      · refine e_eq (f_Layout_mayGetLink_j20.eq_1 _ _ _) ?_
        refine e_i (fun q18 => ?_) (fun q18 => ?_)
        · exact e_some ⟨hW, hF, ((rgl (0) 0 0 rfl).sub rfl)⟩
        · exact e_some ⟨hW, hF, ((rgl (1) 1 1 rfl).sub rfl)⟩
set_option maxRecDepth 20000 in
set_option maxHeartbeats 4000000 in
theorem t_Layout_mayJoin {a1 : Int32} {a2 : Int32} {S : SS} (hW : WR S) (h0 : rg a1 0 47) (h1 : rg a2 0 47) : Ex2 (f_Layout_mayJoin a1 a2 S) (fun r U => WR U ∧ Fr [] [] S U ∧ rg r 0 1) := by
  have hF : Fr [] [] S S := Fr.rf
  refine e_eq (f_Layout_mayJoin.eq_1 _ _ _) ?_
  refine e_i (fun q1 => ?_) (fun q1 => ?_)
  · exact e_some ⟨hW, hF, ((rgl (0) 0 0 rfl).sub rfl)⟩
  · refine e_cE (t_Layout_areJoined hW h0) (fun u2 T2 p2 => ?_)
    obtain ⟨-, hT2, hr2⟩ := p2
    have eT2 := (fr_nil hT2).symm
    subst eT2
    refine e_i (fun q3 => ?_) (fun q3 => ?_)
    · refine e_cE (t_Layout_mayGetLink hW) (fun u5 T5 p5 => ?_)
      obtain ⟨-, hT5, hr5⟩ := p5
      have eT5 := (fr_nil hT5).symm
      subst eT5
      refine e_i (fun q6 => ?_) (fun q6 => ?_)
      · exact e_some ⟨hW, hF, ((rgl (0) 0 0 rfl).sub rfl)⟩
      · refine e_cE (t_Layout_mayGetLink hW) (fun u9 T9 p9 => ?_)
        obtain ⟨-, hT9, hr9⟩ := p9
        have eT9 := (fr_nil hT9).symm
        subst eT9
        refine e_i (fun q10 => ?_) (fun q10 => ?_)
        · exact e_some ⟨hW, hF, ((rgl (0) 0 0 rfl).sub rfl)⟩
        · exact e_some ⟨hW, hF, ((rgl (1) 1 1 rfl).sub rfl)⟩
    · exact e_some ⟨hW, hF, ((rgl (0) 0 0 rfl).sub rfl)⟩
set_option maxRecDepth 20000 in
set_option maxHeartbeats 4000000 in
theorem t_Yard_link {a1 : Int32} {a2 : Int32} {a3 : Int32} {a4 : Int32} {S : SS} (hW : WR S) : Ex2 (f_Yard_link a1 a2 a3 a4 S) (fun r U => WR U ∧ Fr [77, 96, 97] [(62, 2), (62, 3), (62, 4), (62, 5), (62, 6), (64, 6), (64, 7)] S U ∧ rg r (-2) 1) := by
  have hF : Fr [77, 96, 97] [(62, 2), (62, 3), (62, 4), (62, 5), (62, 6), (64, 6), (64, 7)] S S := Fr.rf
  refine e_eq (f_Yard_link.eq_1 _ _ _ _ _) ?_
  refine e_bnd ?_
  refine e_eq (f_Yard_isNot.eq_1 _ _ _ _) ?_
  refine e_i (fun q1 => ?_) (fun q1 => ?_)
  · refine e_some ?_
    refine e_f (by decide) ?_
    exact e_some ⟨hW, hF, ((rgl (-1) (-1) (-1) rfl).sub rfl)⟩
  · have f3 := nlt_l (rgt _) (rgl (0) 0 0 rfl) q1
    refine e_i (fun q4 => ?_) (fun q4 => ?_)
    · have f5 := le_l f3 (rgl (1) 1 1 rfl) q4
      refine e_some ?_
      refine e_t (by decide) ?_
      refine e_bnd ?_
      refine e_eq (f_Yard_isNot.eq_1 _ _ _ _) ?_
      refine e_i (fun q6 => ?_) (fun q6 => ?_)
      · refine e_some ?_
        refine e_f (by decide) ?_
        exact e_some ⟨hW, hF, ((rgl (-1) (-1) (-1) rfl).sub rfl)⟩
      · have f8 := nlt_l (rgt _) (rgl (0) 0 0 rfl) q6
        refine e_i (fun q9 => ?_) (fun q9 => ?_)
        · have f10 := le_l f8 (rgl (1) 1 1 rfl) q9
          refine e_some ?_
          refine e_t (by decide) ?_
          refine e_cV (t_Report_begin hW) (fun T11 p11 => ?_)
          obtain ⟨hW11, hT11⟩ := p11
          have hF11 := hF.tr hT11 rfl
          refine e_bnd ?_
          refine e_eq (f_Layout_trackFinding.eq_1 _ _) ?_
          refine e_i (fun q12 => ?_) (fun q12 => ?_)
          · refine e_some ?_
            refine e_f (by decide) ?_
            refine e_eq (f_Yard_link_j53.eq_1 _ _ _ _ _ _) ?_
            refine e_f (by decide) ?_
            refine e_eq (f_Yard_link_j83.eq_1 _ _ _ _ _ _) ?_
            refine e_f (by decide) ?_
            refine e_cE (t_Report_found hW11) (fun u14 T14 p14 => ?_)
            obtain ⟨hW14, hT14, hr14⟩ := p14
            have hF14 := hF11.tr hT14 rfl
            exact e_some ⟨hW14, hF14, (hr14.sub rfl)⟩
          · have f15 := nlt_l (rgt _) (rgl 0 0 0 rfl) q12
            refine e_i (fun q16 => ?_) (fun q16 => ?_)
            · have f17 := lt_l 23 f15 (rgl (24) 24 24 rfl) q16 rfl
              refine e_i (fun q18 => ?_) (fun q18 => ?_)
              · refine e_some ?_
                refine e_f (by decide) ?_
                refine e_eq (f_Yard_link_j53.eq_1 _ _ _ _ _ _) ?_
                refine e_f (by decide) ?_
                refine e_eq (f_Yard_link_j83.eq_1 _ _ _ _ _ _) ?_
                refine e_f (by decide) ?_
                refine e_cE (t_Report_found hW11) (fun u20 T20 p20 => ?_)
                obtain ⟨hW20, hT20, hr20⟩ := p20
                have hF20 := hF11.tr hT20 rfl
                exact e_some ⟨hW20, hF20, (hr20.sub rfl)⟩
              · refine e_some ?_
                refine e_t (by decide) ?_
                refine e_bnd ?_
                refine e_eq (f_Layout_trackFinding.eq_1 _ _) ?_
                refine e_i (fun q23 => ?_) (fun q23 => ?_)
                · refine e_some ?_
                  refine e_eq (f_Yard_link_j53.eq_1 _ _ _ _ _ _) ?_
                  refine e_f (by decide) ?_
                  refine e_eq (f_Yard_link_j83.eq_1 _ _ _ _ _ _) ?_
                  refine e_f (by decide) ?_
                  refine e_cE (t_Report_found hW11) (fun u25 T25 p25 => ?_)
                  obtain ⟨hW25, hT25, hr25⟩ := p25
                  have hF25 := hF11.tr hT25 rfl
                  exact e_some ⟨hW25, hF25, (hr25.sub rfl)⟩
                · have f27 := nlt_l (rgt _) (rgl 0 0 0 rfl) q23
                  refine e_i (fun q28 => ?_) (fun q28 => ?_)
                  · have f29 := lt_l 23 f27 (rgl (24) 24 24 rfl) q28 rfl
                    refine e_i (fun q30 => ?_) (fun q30 => ?_)
                    · refine e_some ?_
                      refine e_eq (f_Yard_link_j53.eq_1 _ _ _ _ _ _) ?_
                      refine e_f (by decide) ?_
                      refine e_eq (f_Yard_link_j83.eq_1 _ _ _ _ _ _) ?_
                      refine e_f (by decide) ?_
                      refine e_cE (t_Report_found hW11) (fun u33 T33 p33 => ?_)
                      obtain ⟨hW33, hT33, hr33⟩ := p33
                      have hF33 := hF11.tr hT33 rfl
                      exact e_some ⟨hW33, hF33, (hr33.sub rfl)⟩
                    · refine e_some ?_
                      refine e_eq (f_Yard_link_j53.eq_1 _ _ _ _ _ _) ?_
                      refine e_t (by decide) ?_
                      refine e_cE (t_Layout_mayJoin hW11 (rg_add 0 47 (rg_mul 0 46 (rgl (2) 2 2 rfl) f17 rfl) f5 rfl) (rg_add 0 47 (rg_mul 0 46 (rgl (2) 2 2 rfl) f29 rfl) f10 rfl)) (fun u35 T35 p35 => ?_)
                      obtain ⟨-, hT35, hr35⟩ := p35
                      have eT35 := (fr_nil hT35).symm
                      subst eT35
                      refine e_i (fun q36 => ?_) (fun q36 => ?_)
                      · refine e_eq (f_Yard_link_j83.eq_1 _ _ _ _ _ _) ?_
                        refine e_f (by decide) ?_
                        refine e_cE (t_Report_found hW11) (fun u38 T38 p38 => ?_)
                        obtain ⟨hW38, hT38, hr38⟩ := p38
                        have hF38 := hF11.tr hT38 rfl
                        exact e_some ⟨hW38, hF38, (hr38.sub rfl)⟩
                      · refine e_eq (f_Yard_link_j83.eq_1 _ _ _ _ _ _) ?_
                        refine e_t (by decide) ?_
                        refine e_cV (t_History_forget hW11) (fun T41 p41 => ?_)
                        obtain ⟨hW41, hT41⟩ := p41
                        have hF41 := hF11.tr hT41 rfl
                        refine e_cV (t_Layout_join hW41) (fun T43 p43 => ?_)
                        obtain ⟨hW43, hT43⟩ := p43
                        have hF43 := hF41.tr hT43 rfl
                        exact e_some ⟨hW43, hF43, ((rgl (1) 1 1 rfl).sub rfl)⟩
                  · refine e_some ?_
                    refine e_eq (f_Yard_link_j53.eq_1 _ _ _ _ _ _) ?_
                    refine e_f (by decide) ?_
                    refine e_eq (f_Yard_link_j83.eq_1 _ _ _ _ _ _) ?_
                    refine e_f (by decide) ?_
                    refine e_cE (t_Report_found hW11) (fun u46 T46 p46 => ?_)
                    obtain ⟨hW46, hT46, hr46⟩ := p46
                    have hF46 := hF11.tr hT46 rfl
                    exact e_some ⟨hW46, hF46, (hr46.sub rfl)⟩
            · refine e_some ?_
              refine e_f (by decide) ?_
              refine e_eq (f_Yard_link_j53.eq_1 _ _ _ _ _ _) ?_
              refine e_f (by decide) ?_
              refine e_eq (f_Yard_link_j83.eq_1 _ _ _ _ _ _) ?_
              refine e_f (by decide) ?_
              refine e_cE (t_Report_found hW11) (fun u49 T49 p49 => ?_)
              obtain ⟨hW49, hT49, hr49⟩ := p49
              have hF49 := hF11.tr hT49 rfl
              exact e_some ⟨hW49, hF49, (hr49.sub rfl)⟩
        · refine e_some ?_
          refine e_f (by decide) ?_
          exact e_some ⟨hW, hF, ((rgl (-1) (-1) (-1) rfl).sub rfl)⟩
    · refine e_some ?_
      refine e_f (by decide) ?_
      exact e_some ⟨hW, hF, ((rgl (-1) (-1) (-1) rfl).sub rfl)⟩
set_option maxRecDepth 20000 in
set_option maxHeartbeats 4000000 in
theorem t_Layout_setExit {a1 : Int32} {a2 : Int32} {S : SS} (hW : WR S) : Ex2 (f_Layout_setExit a1 a2 S) (fun r U => WR U ∧ Fr [98] [] S U ∧ rg r 0 1) := by
  have hF : Fr [98] [] S S := Fr.rf
  refine e_eq (f_Layout_setExit.eq_1 _ _ _) ?_
  refine e_bnd ?_
  refine e_eq (f_Layout_isEnd.eq_1 _ _) ?_
  refine e_i (fun q1 => ?_) (fun q1 => ?_)
  · refine e_some ?_
    refine e_t (by decide) ?_
    exact e_some ⟨hW, hF, ((rgl (0) 0 0 rfl).sub rfl)⟩
  · have f3 := nlt_l (rgt _) (rgl 0 0 0 rfl) q1
    refine e_i (fun q4 => ?_) (fun q4 => ?_)
    · refine e_some ?_
      refine e_t (by decide) ?_
      exact e_some ⟨hW, hF, ((rgl (0) 0 0 rfl).sub rfl)⟩
    · have f6 := nle_r 47 (rgl (48) 48 48 rfl) f3 q4 rfl
      refine e_some ?_
      refine e_f (by decide) ?_
      refine e_grd (inb_g f6 rfl) ?_
      refine e_nmG (fun w7 hw7 => ?_)
      have f8 := rg_tr (ro_98 hW _) hw7
      refine e_grd (inb_g f6 rfl) ?_
      refine e_wrA (fun T9 eT9 hT9 v9 => ?_)
      have hW9 := wo_98 hW (and1 _) eT9
      have hF9 := hF.tr hT9 rfl
      refine e_grd (isB_g f8 rfl) ?_
      exact e_some ⟨hW9, hF9, f8⟩
set_option maxRecDepth 20000 in
set_option maxHeartbeats 4000000 in
theorem t_Yard_exit {a1 : Int32} {a2 : Int32} {a3 : Int32} {S : SS} (hW : WR S) : Ex2 (f_Yard_exit a1 a2 a3 S) (fun r U => WR U ∧ Fr [77, 98] [(62, 2), (62, 3), (62, 4), (62, 5), (62, 6), (64, 6), (64, 7)] S U ∧ rg r (-2) 1) := by
  have hF : Fr [77, 98] [(62, 2), (62, 3), (62, 4), (62, 5), (62, 6), (64, 6), (64, 7)] S S := Fr.rf
  refine e_eq (f_Yard_exit.eq_1 _ _ _ _) ?_
  refine e_bnd ?_
  refine e_eq (f_Yard_isNot.eq_1 _ _ _ _) ?_
  refine e_i (fun q1 => ?_) (fun q1 => ?_)
  · refine e_some ?_
    refine e_f (by decide) ?_
    exact e_some ⟨hW, hF, ((rgl (-1) (-1) (-1) rfl).sub rfl)⟩
  · refine e_i (fun q4 => ?_) (fun q4 => ?_)
    · refine e_some ?_
      refine e_t (by decide) ?_
      refine e_cV (t_Report_begin hW) (fun T6 p6 => ?_)
      obtain ⟨hW6, hT6⟩ := p6
      have hF6 := hF.tr hT6 rfl
      refine e_bnd ?_
      refine e_eq (f_Layout_trackFinding.eq_1 _ _) ?_
      refine e_i (fun q7 => ?_) (fun q7 => ?_)
      · refine e_some ?_
        refine e_f (by decide) ?_
        refine e_cE (t_Report_found hW6) (fun u9 T9 p9 => ?_)
        obtain ⟨hW9, hT9, hr9⟩ := p9
        have hF9 := hF6.tr hT9 rfl
        exact e_some ⟨hW9, hF9, (hr9.sub rfl)⟩
      · refine e_i (fun q11 => ?_) (fun q11 => ?_)
        · refine e_i (fun q13 => ?_) (fun q13 => ?_)
          · refine e_some ?_
            refine e_f (by decide) ?_
            refine e_cE (t_Report_found hW6) (fun u15 T15 p15 => ?_)
            obtain ⟨hW15, hT15, hr15⟩ := p15
            have hF15 := hF6.tr hT15 rfl
            exact e_some ⟨hW15, hF15, (hr15.sub rfl)⟩
          · refine e_some ?_
            refine e_t (by decide) ?_
            refine e_cV (t_History_forget hW6) (fun T18 p18 => ?_)
            obtain ⟨hW18, hT18⟩ := p18
            have hF18 := hF6.tr hT18 rfl
            refine e_cE (t_Layout_setExit hW18) (fun u20 T20 p20 => ?_)
            obtain ⟨hW20, hT20, hr20⟩ := p20
            have hF20 := hF18.tr hT20 rfl
            refine e_i (fun q22 => ?_) (fun q22 => ?_)
            · exact e_some ⟨hW20, hF20, ((rgl (0) 0 0 rfl).sub rfl)⟩
            · exact e_some ⟨hW20, hF20, ((rgl (1) 1 1 rfl).sub rfl)⟩
        · refine e_some ?_
          refine e_f (by decide) ?_
          refine e_cE (t_Report_found hW6) (fun u26 T26 p26 => ?_)
          obtain ⟨hW26, hT26, hr26⟩ := p26
          have hF26 := hF6.tr hT26 rfl
          exact e_some ⟨hW26, hF26, (hr26.sub rfl)⟩
    · refine e_some ?_
      refine e_f (by decide) ?_
      exact e_some ⟨hW, hF, ((rgl (-1) (-1) (-1) rfl).sub rfl)⟩
set_option maxRecDepth 20000 in
set_option maxHeartbeats 4000000 in
theorem t_Trains_nextSerial {S : SS} (hW : WR S) : Ex2 (f_Trains_nextSerial  S) (fun r U => WR U ∧ Fr [] [(68, 5)] S U ∧ True) := by
  have hF : Fr [] [(68, 5)] S S := Fr.rf
  refine e_eq (f_Trains_nextSerial.eq_1 _) ?_
  refine e_wrO (fun T1 eT1 hT1 v1 => ?_)
  have hW1 := WR.st (k := 68) (i := 5) hW trivial rfl eT1
  have hF1 := hF.tr hT1 rfl
  exact e_some ⟨hW1, hF1, trivial⟩
set_option maxRecDepth 20000 in
set_option maxHeartbeats 4000000 in
theorem t_State_set {a1 : Int32} {a2 : Int32} {a3 : Int32} {S : SS} (hW : WR S) (h1 : rg a2 0 10) : Ew (f_State_set a1 a2 a3 S) (fun U => WR U ∧ Fr [79] [] S U) := by
  have hF : Fr [79] [] S S := Fr.rf
  refine v_eq (f_State_set.eq_1 _ _ _ _) ?_
  refine v_i (fun q1 => ?_) (fun q1 => ?_)
  · exact v_some ⟨hW, hF⟩
  · have f3 := nlt_l (rgt _) (rgl 0 0 0 rfl) q1
    refine v_i (fun q4 => ?_) (fun q4 => ?_)
    · exact v_some ⟨hW, hF⟩
    · have f6 := nle_r 71 (ro_63_1 hW) f3 q4 rfl
      refine v_grd (inb_g (rg_add 154 945 (rg_add 154 935 (rgl (154) 154 154 rfl) (rg_mul 0 781 (rgl (11) 11 11 rfl) f6 rfl) rfl) h1 rfl) rfl) ?_
      refine v_wrA (fun T7 eT7 hT7 v7 => ?_)
      have hW7 := WR.st (k := 79) hW (okS_g (rg_add 154 945 (rg_add 154 935 (rgl (154) 154 154 rfl) (rg_mul 0 781 (rgl (11) 11 11 rfl) f6 rfl) rfl) h1 rfl) rfl) rfl eT7
      have hF7 := hF.tr hT7 rfl
      exact v_some ⟨hW7, hF7⟩
theorem fill_l {S0 : SS} : ∀ (n i e : Nat) (S : SS), WR S → Fr [79] [(63, 1)] S0 S → 154 ≤ i → i ≤ e → e ≤ 946 → e < n + i → Ew (f_Arrays_fill_fda19_State_cells_L10 n (nI e) 0 (nI i) S) (fun U => WR U ∧ Fr [79] [(63, 1)] S0 U)
  | 0, i, e, S, hW, hF, h1, h2, h3, h4 => by omega
  | n + 1, i, e, S, hW, hF, h1, h2, h3, h4 => by
    refine v_eq (f_Arrays_fill_fda19_State_cells_L10.eq_2 _ _ _ _ _) ?_
    refine v_i (fun q => v_some ⟨hW, hF⟩) (fun q => ?_)
    have hi : i < e := by
      rcases Nat.lt_or_ge i e with c | c
      · exact c
      · exact absurd (nI_le c (by omega)) q
    refine v_grd (inb_nI (by omega) (by omega)) ?_
    refine v_wrA (fun T eT gT vT => ?_)
    have hW1 := WR.st (k := 79) hW (okS_g (rg_nI (j := i) (a := 154) (b := 946) (by omega) (by omega) (by omega)) rfl) rfl eT
    refine v_nm ?_
    rw [nI_1]
    exact fill_l n (i + 1) e T hW1 (hF.tr gT rfl) (by omega) (by omega) h3 (by omega)
theorem t_State_addThing {a1 : Int32} {a2 : Int32} {S : SS} (hW : WR S) : Ex2 (f_State_addThing a1 a2 S) (fun r U => WR U ∧ Fr [79] [(63, 1)] S U ∧ True) := by
  refine e_eq (f_State_addThing.eq_1 _ _ _) ?_
  refine e_i (fun q => ?_) (fun q => e_some ⟨hW, Fr.rf, trivial⟩)
  obtain ⟨m, hm, hm0, hm1, hm2⟩ := rg_ex (lt_l 71 (ro_63_1 hW) (rgl 72 72 72 rfl) q rfl) (by omega)
  have hF : Fr [79] [(63, 1)] S S := Fr.rf
  rw [hm]
  refine e_nmG (fun z hz => ?_)
  subst hz
  refine e_wrO (fun T eT gT vT => ?_)
  rw [nI_1] at eT vT
  have hW1 := wo_63_1 hW (rg_nI (j := m + 1) (by omega) (by omega) (by omega)) eT
  have hF1 := hF.tr gT rfl
  have ei : (154 : Int32) + (11 : Int32) * nI m = nI (154 + 11 * m) := by
    rw [show (11 : Int32) * nI m = nI (11 * m) from nI_mul 11 m]; exact nI_add 154 (11 * m)
  have ej : (154 : Int32) + (11 : Int32) * nI (m + 1) = nI (154 + 11 * (m + 1)) := by
    rw [show (11 : Int32) * nI (m + 1) = nI (11 * (m + 1)) from nI_mul 11 (m + 1)]; exact nI_add 154 (11 * (m + 1))
  rw [vT, ei, ej]
  refine e_bndv ?_
  refine v_eq (f_Arrays_fill_fda19_State_cells.eq_1 _ _ _ _) ?_
  refine v_bndv ?_
  refine v_eq (f_Arrays_rangeCheck_23922.eq_1 _ _ _ _) ?_
  refine v_t (nI_le (by omega) (by omega)) ?_
  refine v_t (nI_pos' (by omega)) ?_
  refine v_t (show nI (154 + 11 * (m + 1)) ≤ nI 946 from nI_le (by omega) (by omega)) ?_
  refine v_some ?_
  refine v_mono (fill_l NF (154 + 11 * m) (154 + 11 * (m + 1)) T hW1 hF1 (by omega) (by omega) (by omega) (by have : NF = 100000 := rfl; omega)) (fun T2 h2 => ?_)
  obtain ⟨hW2, hF2⟩ := h2
  refine e_cV (t_State_set hW2 (rgl 0 0 10 rfl)) (fun T3 h3 => ?_)
  obtain ⟨hW3, g3⟩ := h3
  refine e_cV (t_State_set hW3 (rgl 1 0 10 rfl)) (fun T4 h4 => ?_)
  obtain ⟨hW4, g4⟩ := h4
  refine e_cV (t_State_set hW4 (rgl 2 0 10 rfl)) (fun T5 h5 => ?_)
  obtain ⟨hW5, g5⟩ := h5
  refine e_cV (t_State_set hW5 (rgl 3 0 10 rfl)) (fun T6 h6 => ?_)
  obtain ⟨hW6, g6⟩ := h6
  refine e_cV (t_State_set hW6 (rgl 4 0 10 rfl)) (fun T7 h7 => ?_)
  obtain ⟨hW7, g7⟩ := h7
  refine e_cV (t_State_set hW7 (rgl 5 0 10 rfl)) (fun T8 h8 => ?_)
  obtain ⟨hW8, g8⟩ := h8
  exact e_some ⟨hW8, (((((hF2.tr g3 rfl).tr g4 rfl).tr g5 rfl).tr g6 rfl).tr g7 rfl).tr g8 rfl, trivial⟩
set_option maxRecDepth 20000 in
set_option maxHeartbeats 4000000 in
theorem t_Stock_set {a1 : Int32} {a2 : Int32} {a3 : Int32} {S : SS} (hW : WR S) (h1 : rg a2 0 5) : Ew (f_Stock_set a1 a2 a3 S) (fun U => WR U ∧ Fr [91] [] S U) := by
  have hF : Fr [91] [] S S := Fr.rf
  refine v_eq (f_Stock_set.eq_1 _ _ _ _) ?_
  refine v_i (fun q1 => ?_) (fun q1 => ?_)
  · exact v_some ⟨hW, hF⟩
  · have f3 := nlt_l (rgt _) (rgl 0 0 0 rfl) q1
    refine v_i (fun q4 => ?_) (fun q4 => ?_)
    · exact v_some ⟨hW, hF⟩
    · have f6 := nle_r 71 (rgl (72) 72 72 rfl) f3 q4 rfl
      refine v_grd (inb_g (rg_add 0 431 (rg_mul 0 426 (rgl (6) 6 6 rfl) f6 rfl) h1 rfl) rfl) ?_
      refine v_wrA (fun T7 eT7 hT7 v7 => ?_)
      have hW7 := WR.st (k := 91) hW trivial rfl eT7
      have hF7 := hF.tr hT7 rfl
      exact v_some ⟨hW7, hF7⟩
set_option maxRecDepth 20000 in
set_option maxHeartbeats 4000000 in
theorem t_Stock_describe {a1 : Int32} {a2 : Int32} {a3 : Int32} {a4 : Int32} {S : SS} (hW : WR S) : Ew (f_Stock_describe a1 a2 a3 a4 S) (fun U => WR U ∧ Fr [91] [] S U) := by
  have hF : Fr [91] [] S S := Fr.rf
  refine v_eq (f_Stock_describe.eq_1 _ _ _ _ _) ?_
  refine v_cV (t_Stock_set hW ((rgl (0) 0 0 rfl).sub rfl)) (fun T1 p1 => ?_)
  obtain ⟨hW1, hT1⟩ := p1
  have hF1 := hF.tr hT1 rfl
  refine v_cV (t_Stock_set hW1 ((rgl (1) 1 1 rfl).sub rfl)) (fun T2 p2 => ?_)
  obtain ⟨hW2, hT2⟩ := p2
  have hF2 := hF1.tr hT2 rfl
  refine v_cV (t_Stock_set hW2 ((rgl (2) 2 2 rfl).sub rfl)) (fun T3 p3 => ?_)
  obtain ⟨hW3, hT3⟩ := p3
  have hF3 := hF2.tr hT3 rfl
  refine v_cV (t_Stock_set hW3 ((rgl (3) 3 3 rfl).sub rfl)) (fun T4 p4 => ?_)
  obtain ⟨hW4, hT4⟩ := p4
  have hF4 := hF3.tr hT4 rfl
  exact v_some ⟨hW4, hF4⟩
set_option maxRecDepth 20000 in
set_option maxHeartbeats 4000000 in
theorem t_State_get {a1 : Int32} {a2 : Int32} {S : SS} (hW : WR S) (h1 : rg a2 0 10) : Ex2 (f_State_get a1 a2 S) (fun r U => WR U ∧ Fr [] [] S U ∧ True) := by
  have hF : Fr [] [] S S := Fr.rf
  refine e_eq (f_State_get.eq_1 _ _ _) ?_
  refine e_i (fun q1 => ?_) (fun q1 => ?_)
  · exact e_some ⟨hW, hF, trivial⟩
  · have f3 := nlt_l (rgt _) (rgl 0 0 0 rfl) q1
    refine e_i (fun q4 => ?_) (fun q4 => ?_)
    · exact e_some ⟨hW, hF, trivial⟩
    · have f6 := nle_r 71 (ro_63_1 hW) f3 q4 rfl
      refine e_grd (inb_g (rg_add 154 945 (rg_add 154 935 (rgl (154) 154 154 rfl) (rg_mul 0 781 (rgl (11) 11 11 rfl) f6 rfl) rfl) h1 rfl) rfl) ?_
      exact e_some ⟨hW, hF, trivial⟩
set_option maxRecDepth 20000 in
set_option maxHeartbeats 4000000 in
theorem t_State_standsAt_L2 {S0 : SS} : ∀ (n : Nat) (x1 : Int32) (x2 : Int32) (S : SS), WR S → Fr [] [] S0 S → rg x2 0 72 → 72 - x2.toInt < (n : Int) → Ex2 (f_State_standsAt_L2 n x1 x2 S) (fun r U => WR U ∧ Fr [] [] S0 U ∧ rn r 0 71) := by
  intro n
  induction n with
  | zero =>
    intro x1 x2 S hW hF h1 hm
    exact up_0 h1 hm rfl
  | succ n ih =>
    intro x1 x2 S hW hF h1 hm
    refine e_eq (f_State_standsAt_L2.eq_2 _ _ _ _) ?_
    refine e_i (fun q1 => ?_) (fun q1 => ?_)
    · exact e_some ⟨hW, hF, (rn4 (d_eq (rgl (-4) (-4) (-4) rfl) (rgl (-4) (-4) (-4) rfl) rfl))⟩
    · have f3 := nle_r 71 (ro_63_1 hW) h1 q1 rfl
      refine e_cE (t_State_get hW ((rgl (0) 0 0 rfl).sub rfl)) (fun u4 T4 p4 => ?_)
      obtain ⟨-, hT4, hr4⟩ := p4
      have eT4 := (fr_nil hT4).symm
      subst eT4
      refine e_i (fun q5 => ?_) (fun q5 => ?_)
      · exact e_some ⟨hW, hF, (rg.toN (f3.sub rfl))⟩
      · refine e_nmG (fun w6 hw6 => ?_)
        have f7 := rg_tr (rg_add 1 72 f3 (rgl (1) 1 1 rfl) rfl) hw6
        exact ih _ _ _ hW hF (f7.sub rfl) (up_s f3 hw6 hm rfl)
set_option maxRecDepth 20000 in
set_option maxHeartbeats 4000000 in
theorem t_State_standsAt {a1 : Int32} {S : SS} (hW : WR S) : Ex2 (f_State_standsAt a1 S) (fun r U => WR U ∧ Fr [] [] S U ∧ rn r 0 71) := by
  have hF : Fr [] [] S S := Fr.rf
  refine e_eq (f_State_standsAt.eq_1 _ _) ?_
  exact t_State_standsAt_L2  NF _ _ _ hW hF ((rgl (0) 0 0 rfl).sub rfl) (up_n (rgl (0) 0 0 rfl) rfl)
set_option maxRecDepth 20000 in
set_option maxHeartbeats 4000000 in
theorem t_Yard_standNew {a1 : Int32} {a2 : Int32} {a3 : Int32} {a4 : Int32} {a5 : Int32} {S : SS} (hW : WR S) : Ex2 (f_Yard_standNew a1 a2 a3 a4 a5 S) (fun r U => WR U ∧ Fr [77, 79, 91] [(62, 2), (62, 3), (62, 4), (62, 5), (62, 6), (63, 1), (64, 6), (64, 7), (68, 5)] S U ∧ True) := by
  have hF : Fr [77, 79, 91] [(62, 2), (62, 3), (62, 4), (62, 5), (62, 6), (63, 1), (64, 6), (64, 7), (68, 5)] S S := Fr.rf
  refine e_eq (f_Yard_standNew.eq_1 _ _ _ _ _ _) ?_
  refine e_i (fun q1 => ?_) (fun q1 => ?_)
  · refine e_cV (t_Report_begin hW) (fun T3 p3 => ?_)
    obtain ⟨hW3, hT3⟩ := p3
    have hF3 := hF.tr hT3 rfl
    refine e_bnd ?_
    refine e_eq (f_Layout_placeFinding.eq_1 _ _ _) ?_
    refine e_bnd ?_
    refine e_eq (f_Layout_trackFinding.eq_1 _ _) ?_
    refine e_i (fun q5 => ?_) (fun q5 => ?_)
    · refine e_some ?_
      refine e_f (by decide) ?_
      refine e_some ?_
      refine e_f (by decide) ?_
      refine e_eq (f_Yard_standNew_j59.eq_1 _ _ _ _ _ _ _) ?_
      refine e_f (by decide) ?_
      refine e_cE (t_Report_found hW3) (fun u7 T7 p7 => ?_)
      obtain ⟨hW7, hT7, hr7⟩ := p7
      have hF7 := hF3.tr hT7 rfl
      exact e_some ⟨hW7, hF7, trivial⟩
    · have f9 := nlt_l (rgt _) (rgl 0 0 0 rfl) q5
      refine e_i (fun q10 => ?_) (fun q10 => ?_)
      · have f11 := lt_l 23 f9 (rgl (24) 24 24 rfl) q10 rfl
        refine e_i (fun q12 => ?_) (fun q12 => ?_)
        · refine e_some ?_
          refine e_f (by decide) ?_
          refine e_some ?_
          refine e_f (by decide) ?_
          refine e_eq (f_Yard_standNew_j59.eq_1 _ _ _ _ _ _ _) ?_
          refine e_f (by decide) ?_
          refine e_cE (t_Report_found hW3) (fun u14 T14 p14 => ?_)
          obtain ⟨hW14, hT14, hr14⟩ := p14
          have hF14 := hF3.tr hT14 rfl
          exact e_some ⟨hW14, hF14, trivial⟩
        · refine e_some ?_
          refine e_t (by decide) ?_
          refine e_i (fun q18 => ?_) (fun q18 => ?_)
          · refine e_some ?_
            refine e_f (by decide) ?_
            refine e_eq (f_Yard_standNew_j59.eq_1 _ _ _ _ _ _ _) ?_
            refine e_f (by decide) ?_
            refine e_cE (t_Report_found hW3) (fun u20 T20 p20 => ?_)
            obtain ⟨hW20, hT20, hr20⟩ := p20
            have hF20 := hF3.tr hT20 rfl
            exact e_some ⟨hW20, hF20, trivial⟩
          · refine e_bnd ?_
            refine e_eq (f_Layout_placesOf.eq_1 _ _) ?_
            refine e_f q5 ?_
            refine e_f q12 ?_
            refine e_grd (inb_g f11 rfl) ?_
            refine e_someG (fun w24 hw24 => ?_)
            refine e_i (fun q25 => ?_) (fun q25 => ?_)
            · refine e_some ?_
              refine e_t (by decide) ?_
              refine e_bnd ?_
              refine e_eq (f_Layout_spot.eq_1 _ _ _) ?_
              refine e_someG (fun w29 hw29 => ?_)
              refine e_cE (t_State_standsAt hW3) (fun u30 T30 p30 => ?_)
              obtain ⟨-, hT30, hr30⟩ := p30
              have eT30 := (fr_nil hT30).symm
              subst eT30
              refine e_i (fun q31 => ?_) (fun q31 => ?_)
              · refine e_eq (f_Yard_standNew_j59.eq_1 _ _ _ _ _ _ _) ?_
                refine e_t (by decide) ?_
                refine e_cV (t_History_forget hW3) (fun T33 p33 => ?_)
                obtain ⟨hW33, hT33⟩ := p33
                have hF33 := hF3.tr hT33 rfl
                refine e_bnd ?_
                refine e_eq (f_Layout_spot.eq_1 _ _ _) ?_
                refine e_someG (fun w37 hw37 => ?_)
                refine e_cE (t_Trains_nextSerial hW33) (fun u38 T38 p38 => ?_)
                obtain ⟨hW38, hT38, hr38⟩ := p38
                have hF38 := hF33.tr hT38 rfl
                refine e_cE (t_State_addThing hW38) (fun u42 T42 p42 => ?_)
                obtain ⟨hW42, hT42, hr42⟩ := p42
                have hF42 := hF38.tr hT42 rfl
                refine e_cV (t_Stock_describe hW42) (fun T45 p45 => ?_)
                obtain ⟨hW45, hT45⟩ := p45
                have hF45 := hF42.tr hT45 rfl
                exact e_some ⟨hW45, hF45, trivial⟩
              · refine e_eq (f_Yard_standNew_j59.eq_1 _ _ _ _ _ _ _) ?_
                refine e_f (by decide) ?_
                refine e_cE (t_Report_found hW3) (fun u49 T49 p49 => ?_)
                obtain ⟨hW49, hT49, hr49⟩ := p49
                have hF49 := hF3.tr hT49 rfl
                exact e_some ⟨hW49, hF49, trivial⟩
            · refine e_some ?_
              refine e_f (by decide) ?_
              refine e_eq (f_Yard_standNew_j59.eq_1 _ _ _ _ _ _ _) ?_
              refine e_f (by decide) ?_
              refine e_cE (t_Report_found hW3) (fun u53 T53 p53 => ?_)
              obtain ⟨hW53, hT53, hr53⟩ := p53
              have hF53 := hF3.tr hT53 rfl
              exact e_some ⟨hW53, hF53, trivial⟩
      · refine e_some ?_
        refine e_f (by decide) ?_
        refine e_some ?_
        refine e_f (by decide) ?_
        refine e_eq (f_Yard_standNew_j59.eq_1 _ _ _ _ _ _ _) ?_
        refine e_f (by decide) ?_
        refine e_cE (t_Report_found hW3) (fun u57 T57 p57 => ?_)
        obtain ⟨hW57, hT57, hr57⟩ := p57
        have hF57 := hF3.tr hT57 rfl
        exact e_some ⟨hW57, hF57, trivial⟩
  · exact e_some ⟨hW, hF, trivial⟩
set_option maxRecDepth 20000 in
set_option maxHeartbeats 4000000 in
theorem t_Yard_wagon {a1 : Int32} {a2 : Int32} {a3 : Int32} {a4 : Int32} {a5 : Int32} {S : SS} (hW : WR S) : Ex2 (f_Yard_wagon a1 a2 a3 a4 a5 S) (fun r U => WR U ∧ Fr [77, 79, 91] [(62, 2), (62, 3), (62, 4), (62, 5), (62, 6), (63, 1), (64, 6), (64, 7), (68, 5)] S U ∧ True) := by
  have hF : Fr [77, 79, 91] [(62, 2), (62, 3), (62, 4), (62, 5), (62, 6), (63, 1), (64, 6), (64, 7), (68, 5)] S S := Fr.rf
  refine e_eq (f_Yard_wagon.eq_1 _ _ _ _ _ _) ?_
  refine e_bnd ?_
  refine e_eq (f_Yard_isNot.eq_1 _ _ _ _) ?_
  refine e_i (fun q1 => ?_) (fun q1 => ?_)
  · refine e_some ?_
    refine e_f (by decide) ?_
    exact e_some ⟨hW, hF, trivial⟩
  · refine e_i (fun q4 => ?_) (fun q4 => ?_)
    · refine e_some ?_
      refine e_t (by decide) ?_
      refine e_bnd ?_
      refine e_eq (f_Yard_isNot.eq_1 _ _ _ _) ?_
      refine e_i (fun q6 => ?_) (fun q6 => ?_)
      · refine e_some ?_
        refine e_f (by decide) ?_
        exact e_some ⟨hW, hF, trivial⟩
      · refine e_i (fun q9 => ?_) (fun q9 => ?_)
        · refine e_some ?_
          refine e_t (by decide) ?_
          refine e_bnd ?_
          refine e_eq (f_Yard_isNot.eq_1 _ _ _ _) ?_
          refine e_i (fun q11 => ?_) (fun q11 => ?_)
          · refine e_some ?_
            refine e_f (by decide) ?_
            exact e_some ⟨hW, hF, trivial⟩
          · refine e_i (fun q14 => ?_) (fun q14 => ?_)
            · refine e_some ?_
              refine e_t (by decide) ?_
              refine e_cE (t_Yard_standNew hW) (fun u16 T16 p16 => ?_)
              obtain ⟨hW16, hT16, hr16⟩ := p16
              have hF16 := hF.tr hT16 rfl
              exact e_some ⟨hW16, hF16, trivial⟩
            · refine e_some ?_
              refine e_f (by decide) ?_
              exact e_some ⟨hW, hF, trivial⟩
        · refine e_some ?_
          refine e_f (by decide) ?_
          exact e_some ⟨hW, hF, trivial⟩
    · refine e_some ?_
      refine e_f (by decide) ?_
      exact e_some ⟨hW, hF, trivial⟩
