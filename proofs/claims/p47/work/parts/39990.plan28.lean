/-! ===== byRule: it comes to an end, with at most 200 MOVES ===== -/
def FSt (S : SS) (w r : Int32) (s i : Nat) : Prop := (r = -4 ∧ ¬ Bef (S.1 58) (S.1 57) w s i) ∨ ∃ s' i', s' < 4 ∧ i' < mN S s' ∧ r = nI s' ∧ S.1 57 (10 * s' + i') = w
theorem so_L13 {S : SS} {K : Int32 → Int32 → Int32 → SS → Option (Int32 × SS)} {P : Int32 → SS → Prop} {w : Int32} {s : Nat} (hW : WR S) (hs : s < 4) (hK : ∀ r, FSt S w r (s + 1) 0 → Ex2 (K w r (nI (s + 1)) S) P) : ∀ (N i : Nat) (r : Int32), FSt S w r s i → i ≤ mN S s → mN S s < N + i → Ex2 (f_M_stackOf_L13 K N w r (nI s) (nI i) S) P
  | 0, i, r, hr, hi, hN => by omega
  | N + 1, i, r, hr, hi, hN => by
    obtain ⟨lm, em⟩ := mN_le hW s
    refine e_eq (f_M_stackOf_L13.eq_2 _ _ _ _ _ _ _) ?_
    rw [nI_clamp (n := s) (by omega), em]
    refine e_grd (inb_nI hs (by omega)) ?_
    by_cases c : i = mN S s
    · refine e_t (nI_le (by omega) (by omega)) ?_
      refine e_nm ?_
      rw [nI_1]
      refine hK r ?_
      rcases hr with ⟨h1, h2⟩ | h
      · exact Or.inl ⟨h1, fun k => h2 ((Bef_end hs (by rw [mN_ti hW]; omega)).mpr k)⟩
      · exact Or.inr h
    · have him : i < mN S s := by omega
      refine e_f (nI_ge him (by omega)) ?_
      have e : (10 : Int32) * nI s + nI i = nI (10 * s + i) := by
        rw [show (10 : Int32) * nI s = nI (10 * s) from nI_mul 10 s, nI_add]
      rw [e, nI_clamp (n := 10 * s + i) (by omega)]
      refine e_grd (inb_nI (by omega) (by omega)) ?_
      refine e_i (fun q => ?_) (fun q => ?_)
      · refine e_eq (f_M_stackOf_j45.eq_1 _ _ _ _ _ _) ?_
        refine e_nm ?_
        rw [nI_1]
        exact so_L13 hW hs hK N (i + 1) _ (Or.inr ⟨s, i, hs, him, rfl, q⟩) (by omega) (by omega)
      · refine e_eq (f_M_stackOf_j45.eq_1 _ _ _ _ _ _) ?_
        refine e_nm ?_
        rw [nI_1]
        refine so_L13 hW hs hK N (i + 1) r ?_ (by omega) (by omega)
        rcases hr with ⟨h1, h2⟩ | h
        · refine Or.inl ⟨h1, fun k => h2 ?_⟩
          obtain ⟨s', i', k1, k2, k3, k4⟩ := k
          refine ⟨s', i', ?_, k2, k3, k4⟩
          rcases k1 with k1 | ⟨k1, k5⟩
          · exact Or.inl k1
          · refine Or.inr ⟨k1, ?_⟩
            by_cases ei : i' = i
            · subst ei; subst k1; exact absurd k4 q
            · omega
        · exact Or.inr h
theorem so_L5 {S : SS} {w : Int32} (hW : WR S) : ∀ (N s : Nat) (r : Int32), FSt S w r s 0 → s ≤ 4 → 4 < N + s → Ex2 (f_M_stackOf_L5 N w r (nI s) S) (fun r U => U = S ∧ FSt S w r 4 0)
  | 0, s, r, hr, hs, hN => by omega
  | N + 1, s, r, hr, hs, hN => by
    refine e_eq (f_M_stackOf_L5.eq_2 _ _ _ _ _) ?_
    by_cases c : s = 4
    · subst c
      refine e_t (nI_le (a := 4) (by omega) (by omega)) ?_
      exact e_some ⟨rfl, hr⟩
    · have hs4 : s < 4 := by omega
      refine e_f (nI_ge (b := 4) hs4 (by omega)) ?_
      have lm := (mN_le hW s).1
      exact so_L13 hW hs4 (fun r' hr' => so_L5 hW N (s + 1) r' hr' (by omega) (by omega)) NF 0 r hr (by omega) (by have : NF = 100000 := rfl; omega)
theorem sox {S : SS} {w : Int32} (hW : WR S) : Ex2 (f_M_stackOf w S) (fun r U => U = S ∧ FSt S w r 4 0) := by
  refine e_eq (f_M_stackOf.eq_1 _ _) ?_
  refine so_L5 hW NF 0 _ (Or.inl ⟨rfl, fun k => ?_⟩) (by omega) (by have : NF = 100000 := rfl; omega)
  obtain ⟨s', i', h1, -⟩ := k
  omega
def BF (S T : SS) : Prop := Fr [51, 52, 53, 57, 58] [(0, 77)] S T
theorem cax {S : SS} {a m : Nat} {b : Int32} (hW : WR S) (hN : NN S) (ha : a < 4) (hb : rn b 0 3) (h77 : S.1 0 77 = nI m) (hm : m + 1 < 400) : Ex2 (f_M_carries (nI a) b S) (fun r U => WR U ∧ BF S U ∧ (r = 0 ∨ (r = 1 ∧ NN U ∧ U.1 0 77 = nI (m + 1) ∧ ∃ b', b' < 4 ∧ a ≠ b' ∧ 1 ≤ mN S a ∧ mN S b' + 1 ≤ 10 ∧ cfS U = mvd a b' 1 (cfS S)))) := by
  refine e_eq (f_M_carries.eq_1 _ _ _) ?_
  refine e_i (fun _ => e_some ⟨hW, Fr.rf, Or.inl rfl⟩) (fun q => ?_)
  obtain ⟨b', rfl, -, b2, b3⟩ := rg_ex (rn.ne hb q) (by omega)
  have hb4 : b' < 4 := by omega
  refine e_cE (mmx (n := 1) hW ha hb4 (by omega)) (fun r T1 h1 => ?_)
  obtain ⟨e1, h1⟩ := h1
  subst e1
  rcases h1 with ⟨hr0, h1⟩ | ⟨hr1, h1⟩
  · exact e_t hr0 (e_some ⟨hW, Fr.rf, Or.inl rfl⟩)
  · refine e_f (by rw [hr1]; decide) ?_
    obtain ⟨hab, -, q2, q3⟩ := h1
    have r10 := (rmN_le hW b').1
    rw [h77]
    refine e_grd (inb_nI (by omega) (by omega)) ?_
    refine e_wrA (fun T2 e2 g2 v2 => ?_)
    have w2 := wo_51 hW (rg_nI (j := a) (by omega) (by omega) (by omega)) e2
    rw [g2.1 0 77 rfl, h77]
    refine e_grd (inb_nI (by omega) (by omega)) ?_
    refine e_wrA (fun T3 e3 g3 v3 => ?_)
    have w3 := wo_52 w2 (rg_nI (j := b') (by omega) (by omega) (by omega)) e3
    rw [g3.1 0 77 rfl, g2.1 0 77 rfl, h77]
    refine e_grd (inb_nI (by omega) (by omega)) ?_
    refine e_wrA (fun T4 e4 g4 v4 => ?_)
    have w4 := WR.st (k := 53) w3 trivial rfl e4
    rw [g4.1 0 77 rfl, g3.1 0 77 rfl, g2.1 0 77 rfl, h77, nI_1]
    refine e_wrO (fun T5 e5 g5 v5 => ?_)
    have w5 := wo_0_77 w4 (rg_nI (j := m + 1) (by omega) (by omega) (by omega)) e5
    have a57 : ∀ i, T5.1 57 i = T1.1 57 i := fun i => by rw [g5.1 57 i rfl, g4.1 57 i rfl, g3.1 57 i rfl, g2.1 57 i rfl]
    have a58 : ∀ i, T5.1 58 i = T1.1 58 i := fun i => by rw [g5.1 58 i rfl, g4.1 58 i rfl, g3.1 58 i rfl, g2.1 58 i rfl]
    have m5 : ∀ s, mN T5 s = mN T1 s := fun s => by unfold mN; rw [a58]
    have F5 : BF T1 T5 := Fr.tr (Fr.tr (Fr.tr (Fr.tr Fr.rf g2 rfl) g3 rfl) g4 rfl) g5 rfl
    refine e_cV (shn (n := 1) w5 (nn_cg hN a57 a58) ha hb4 hab (by rw [m5]; exact q2) (by rw [m5]; omega)) (fun T6 h6 => ?_)
    obtain ⟨⟨w6, g6, c6⟩, n6⟩ := h6
    rw [cf_cg a57 a58] at c6
    exact e_some ⟨w6, Fr.tr F5 g6 rfl, Or.inr ⟨rfl, n6, (g6.1 0 77 rfl).trans v5, b', hb4, hab, q2, by omega, c6⟩⟩
/-- the GOAL's WAGONS all stand somewhere -/
def HasG (B T : SS) : Prop := ∀ w, w < 10 → Bef (B.1 49) (B.1 50) (nI w) 4 0 → 0 < (Flat (cfS T)).count w
theorem hasG_mv {B T U : SS} {a b : Nat} (h : HasG B T) (ha : a < 4) (hb : b < 4) (hab : a ≠ b) (h1 : 1 ≤ mN T a) (h2 : mN T b + 1 ≤ 10) (e : cfS U = mvd a b 1 (cfS T)) : HasG B U := fun w hw k => by
  have m : Mv (fun _ => 10) (cfS T) (cfS U) := ⟨a, b, 1, ha, hb, hab, Nat.le_refl 1, by rw [cfS_len ha]; exact h1, by rw [cfS_len hb]; exact h2, e⟩
  rw [mv_count m]
  exact h w hw k
theorem mvd_mN {T U : SS} {a b : Nat} (ha : a < 4) (hab : a ≠ b) (h1 : 1 ≤ mN T a) (e : cfS U = mvd a b 1 (cfS T)) : mN U a = mN T a - 1 := by
  rw [← cfS_len (S := U) ha, e, mvd_len hab (by rw [cfS_len ha]; exact h1), if_pos rfl, cfS_len ha]
theorem mvd_wN {T U : SS} {a b p : Nat} (ha : a < 4) (hab : a ≠ b) (h1 : 1 ≤ mN T a) (e : cfS U = mvd a b 1 (cfS T)) (hp : p < mN T a - 1) : wN U a p = wN T a p := by
  have q := cfS_get (S := U) ha (i := p) (by rw [mvd_mN ha hab h1 e]; exact hp)
  rw [e] at q
  unfold mvd at q
  rw [if_pos rfl, List.getElem?_take, if_pos (by rw [cfS_len ha]; exact hp), cfS_get ha (by omega)] at q
  exact (Option.some.inj q).symm
def BK (B : SS) (U : SS) : Prop := WR U ∧ BF B U
set_option maxHeartbeats 1000000 in
theorem br_L102 {B : SS} {K : Int32 → Int32 → SS → Option (Int32 × SS)} {s i f w M : Nat} (hs : s < 4) (hf : f < 4) (hi : i < 11) (hw : w < 10) (hM : M < 399) (hK : ∀ U m, WR U → BF B U → NN U → HasG B U → U.1 0 77 = nI m → m ≤ M → Ex2 (K (nI s) (nI (i + 1)) U) (fun _ U => BK B U)) : ∀ (N : Nat) (T : SS) (m : Nat), WR T → BF B T → NN T → HasG B T → T.1 0 77 = nI m → m + mN T f ≤ M → (∃ p, p < mN T f ∧ wN T f p = w) → mN T f < N → Ex2 (f_M_byRule_L102 K N (nI s) (nI i) (nI w) (nI f) T) (fun _ U => BK B U)
  | 0, T, m, hW, hF, hN, hH, h77, hm, hp, hf' => by omega
  | N + 1, T, m, hW, hF, hN, hH, h77, hm, hp, hf' => by
    obtain ⟨p, p1, p2⟩ := hp
    obtain ⟨lf, ef⟩ := mN_le hW f
    refine e_eq (f_M_byRule_L102.eq_2 _ _ _ _ _ _ _) ?_
    rw [nI_clamp (n := f) (by omega), ef]
    have ei : ((10 : Int32) * nI f + nI (mN T f)) - (1 : Int32) = nI (10 * f + (mN T f - 1)) := by
      rw [show (10 : Int32) * nI f = nI (10 * f) from nI_mul 10 f, nI_add, show nI (10 * f + mN T f) - (1 : Int32) = nI (10 * f + mN T f - 1) from nI_sb (b := 1) (by omega) (by omega)]
      exact congrArg nI (by omega)
    rw [ei, nI_clamp (n := 10 * f + (mN T f - 1)) (by omega)]
    refine e_grd (inb_nI hf (by omega)) ?_
    refine e_grd (inb_nI (by omega) (by omega)) ?_
    refine e_i (fun q => ?_) (fun q => ?_)
    · refine e_cE (cax hW hN hf (Or.inr (rg_nI (j := s) (by omega) (by omega) (by omega))) h77 (by omega)) (fun r T1 h1 => ?_)
      obtain ⟨w1, g1, h1⟩ := h1
      rcases h1 with h0 | ⟨h1, n1, t1, b', b1, b2, b3, b4, b5⟩
      · exact e_t h0 (e_some ⟨w1, Fr.tr hF g1 rfl⟩)
      · refine e_f (by rw [h1]; decide) ?_
        refine e_eq (f_M_byRule_j156.eq_1 _ _ _ _) ?_
        refine e_nm ?_
        rw [nI_1]
        exact hK T1 (m + 1) w1 (Fr.tr hF g1 rfl) n1 (hasG_mv hH hf b1 b2 b3 b4 b5) t1 (by omega)
    · refine e_cE (t_M_widest hW) (fun r1 T1 h1 => ?_)
      obtain ⟨-, g1, r1r⟩ := h1
      have := fr_nil g1
      subst this
      refine e_cE (cax hW hN hf r1r h77 (by omega)) (fun r T2 h2 => ?_)
      obtain ⟨w2, g2, h2⟩ := h2
      rcases h2 with h0 | ⟨h1, n2, t2, b', b1, b2, b3, b4, b5⟩
      · exact e_t h0 (e_some ⟨w2, Fr.tr hF g2 rfl⟩)
      · refine e_f (by rw [h1]; decide) ?_
        have e1 := mvd_mN hf b2 b3 b5
        have pn : p < mN T1 f - 1 := by
          rcases Nat.lt_or_ge p (mN T1 f - 1) with k | k
          · exact k
          · have : p = mN T1 f - 1 := by omega
            subst this
            obtain ⟨w', hw', ew'⟩ := hN f _ hf p1
            have := wN_of ew' hw'
            rw [p2] at this
            subst this
            exact absurd ew' q
        exact br_L102 hs hf hi hw hM hK N T2 (m + 1) w2 (Fr.tr hF g2 rfl) n2 (hasG_mv hH hf b1 b2 b3 b4 b5) t2 (by omega) ⟨p, by omega, (mvd_wN hf b2 b3 b5 pn).trans p2⟩ (by omega)
set_option maxHeartbeats 1000000 in
theorem br_L69 {B : SS} {K : Int32 → Int32 → SS → Option (Int32 × SS)} {s i w M : Nat} (hs : s < 4) (hi : i < 11) (hw : w < 10) (hM : M < 399) (hg : Bef (B.1 49) (B.1 50) (nI w) 4 0) (hK : ∀ U m, WR U → BF B U → NN U → HasG B U → U.1 0 77 = nI m → m ≤ M → Ex2 (K (nI s) (nI (i + 1)) U) (fun _ U => BK B U)) : ∀ (N : Nat) (T : SS) (m : Nat), WR T → BF B T → NN T → HasG B T → T.1 0 77 = nI m → m + mN T s + 10 ≤ M → mN T s < N → Ex2 (f_M_byRule_L69 K N (nI s) (nI i) (nI w) T) (fun _ U => BK B U)
  | 0, T, m, hW, hF, hN, hH, h77, hm, hf' => by omega
  | N + 1, T, m, hW, hF, hN, hH, h77, hm, hf' => by
    obtain ⟨lf, ef⟩ := mN_le hW s
    refine e_eq (f_M_byRule_L69.eq_2 _ _ _ _ _ _) ?_
    rw [nI_clamp (n := s) (by omega), ef]
    refine e_grd (inb_nI hs (by omega)) ?_
    refine e_i (fun q => ?_) (fun q => ?_)
    · refine e_cE (sox hW) (fun r T1 h1 => ?_)
      obtain ⟨e1, h1⟩ := h1
      subst e1
      rcases h1 with ⟨-, h1⟩ | ⟨f, p, f1, f2, f3, f4⟩
      · exact absurd ((bef_mem hW hN hw).mpr (List.count_pos_iff.mp (hH w hw hg))) h1
      · subst f3
        have lf := (mN_le hW f).1
        exact br_L102 hs f1 hi hw hM hK NF T1 m hW hF hN hH h77 (by omega) ⟨p, f2, wN_of f4 hw⟩ (by have : NF = 100000 := rfl; omega)
    · have hpos : 1 ≤ mN T s := by
        rcases Nat.eq_zero_or_pos (mN T s) with c | c
        · rw [c] at q; exact absurd (nI_le (by omega) (by omega)) q
        · exact c
      refine e_cE (t_M_widest hW) (fun r1 T1 h1 => ?_)
      obtain ⟨-, g1, r1r⟩ := h1
      have := fr_nil g1
      subst this
      refine e_cE (cax hW hN hs r1r h77 (by omega)) (fun r T2 h2 => ?_)
      obtain ⟨w2, g2, h2⟩ := h2
      rcases h2 with h0 | ⟨h1, n2, t2, b', b1, b2, b3, b4, b5⟩
      · exact e_t h0 (e_some ⟨w2, Fr.tr hF g2 rfl⟩)
      · refine e_f (by rw [h1]; decide) ?_
        have e1 := mvd_mN hs b2 b3 b5
        exact br_L69 hs hi hw hM hg hK N T2 (m + 1) w2 (Fr.tr hF g2 rfl) n2 (hasG_mv hH hs b1 b2 b3 b4 b5) t2 (by omega) (by omega)
def gm (B : SS) (s : Nat) : Nat := (B.1 49 s).toNatClampNeg
def og (B : SS) : Nat → Nat
  | 0 => 0
  | s + 1 => og B s + gm B s
theorem gm_le {B : SS} (hW : WR B) (s : Nat) : gm B s ≤ 10 ∧ B.1 49 s = nI (gm B s) := by
  obtain ⟨j, hj, h1, h2, h3⟩ := rg_ex (ro_49 hW s) (by omega)
  have e : gm B s = j := by unfold gm; rw [hj]; exact nI_clamp h3
  rw [e]
  exact ⟨by omega, hj⟩
theorem og_10 {B : SS} (hW : WR B) (hP : PL B) : og B 4 ≤ 10 := by
  obtain ⟨U, -, wU, gU, hU⟩ := tkx (x1 := 1) hW
  have hU : tkP B U 1 := hU
  have nU := tk_NN hW hU
  have dU : DW (U.1 58) (U.1 57) := tk_DW wU hU hP.2.2
  have nd := fl_nd wU nU dU
  have q := php (List.range 10) (Flat (cfS U)).length (fun p => (Flat (cfS U)).getD p 0) (fun p hp => ?_) (fun i j h1 h2 e => (List.getD_inj h1 h2 nd).mp e)
  · rw [List.length_range, flat_len, tot_off, off_4] at q
    unfold mN at q
    rw [(hU 0 (by omega)).1, (hU 1 (by omega)).1, (hU 2 (by omega)).1, (hU 3 (by omega)).1] at q
    have : og B 4 = 0 + gm B 0 + gm B 1 + gm B 2 + gm B 3 := rfl
    rw [this]
    have q : gm B 0 + gm B 1 + gm B 2 + gm B 3 ≤ 10 := q
    omega
  · have m : (Flat (cfS U)).getD p 0 ∈ Flat (cfS U) := by
      rw [List.getD_eq_getElem?_getD, List.getElem?_eq_getElem hp]
      exact List.getElem_mem hp
    obtain ⟨s, i, -, -, hw, -⟩ := fl_mem nU m
    exact List.mem_range.mpr hw
theorem og_le (B : SS) {s : Nat} (hs : s < 4) : og B s + gm B s ≤ og B 4 := by
  have e : og B 4 = 0 + gm B 0 + gm B 1 + gm B 2 + gm B 3 := rfl
  rcases (show s = 0 ∨ s = 1 ∨ s = 2 ∨ s = 3 by omega) with rfl | rfl | rfl | rfl
  · have : og B 0 = 0 := rfl
    omega
  · have : og B 1 = 0 + gm B 0 := rfl
    omega
  · have : og B 2 = 0 + gm B 0 + gm B 1 := rfl
    omega
  · have : og B 3 = 0 + gm B 0 + gm B 1 + gm B 2 := rfl
    omega
set_option maxHeartbeats 1000000 in
theorem br_L19 {B : SS} {K : Int32 → SS → Option (Int32 × SS)} {s : Nat} (hB : WR B) (h10 : og B 4 ≤ 10) (hs : s < 4) (hK : ∀ U m, WR U → BF B U → NN U → HasG B U → U.1 0 77 = nI m → m ≤ 20 * og B (s + 1) → Ex2 (K (nI (s + 1)) U) (fun _ U => BK B U)) : ∀ (N i : Nat) (T : SS) (m : Nat), WR T → BF B T → NN T → HasG B T → T.1 0 77 = nI m → m ≤ 20 * (og B s + i) → i ≤ gm B s → gm B s < N + i → Ex2 (f_M_byRule_L19 K N (nI s) (nI i) T) (fun _ U => BK B U)
  | 0, i, T, m, hW, hF, hN, hH, h77, hm, hi, hf => by omega
  | N + 1, i, T, m, hW, hF, hN, hH, h77, hm, hi, hf => by
    obtain ⟨lg, eg⟩ := gm_le hB s
    obtain ⟨lm, em⟩ := mN_le hW s
    have ol := og_le B hs
    refine e_eq (f_M_byRule_L19.eq_2 _ _ _ _ _) ?_
    rw [nI_clamp (n := s) (by omega), hF.1 49 s rfl, eg]
    refine e_grd (inb_nI hs (by omega)) ?_
    by_cases c : i = gm B s
    · refine e_t (nI_le (by omega) (by omega)) ?_
      refine e_nm ?_
      rw [nI_1]
      refine hK T m hW hF hN hH h77 ?_
      rw [c] at hm
      exact hm
    · have hi' : i < gm B s := by omega
      refine e_f (nI_ge hi' (by omega)) ?_
      have e : (10 : Int32) * nI s + nI i = nI (10 * s + i) := by
        rw [show (10 : Int32) * nI s = nI (10 * s) from nI_mul 10 s, nI_add]
      rw [e, nI_clamp (n := 10 * s + i) (by omega), hF.1 50 _ rfl]
      obtain ⟨w, ew, w1, w2, w3⟩ := rg_ex (ro_50 hB (10 * s + i)) (by omega)
      have hg : Bef (B.1 49) (B.1 50) (nI w) 4 0 := ⟨s, i, Or.inl hs, hs, by rw [eg, nI_ti (by omega)]; omega, ew⟩
      rw [ew]
      refine e_grd (inb_nI (by omega) (by omega)) ?_
      refine e_nm ?_
      refine e_grd (inb_nI hs (by omega)) ?_
      have nx : ∀ U m', WR U → BF B U → NN U → HasG B U → U.1 0 77 = nI m' → m' ≤ 20 * (og B s + i) + 20 → Ex2 (f_M_byRule_L19 K N (nI s) (nI (i + 1)) U) (fun _ U => BK B U) := fun U m' a1 a2 a3 a4 a5 a6 => br_L19 hB h10 hs hK N (i + 1) U m' a1 a2 a3 a4 a5 (by omega) (by omega) (by omega)
      have l69 : Ex2 (f_M_byRule_L69 (fun v0 v1 S => f_M_byRule_L19 K N v0 v1 S) NF (nI s) (nI i) (nI w) T) (fun _ U => BK B U) := br_L69 (M := 20 * (og B s + i) + 20) hs (by omega) (by omega) (by omega) hg (fun U m' a1 a2 a3 a4 a5 a6 => nx U m' a1 a2 a3 a4 a5 a6) NF T m hW hF hN hH h77 (by omega) (by have : NF = 100000 := rfl; omega)
      refine e_i (fun _ => l69) (fun _ => ?_)
      refine e_grd (inb_nI (by omega) (by omega)) ?_
      refine e_i (fun _ => ?_) (fun _ => l69)
      refine e_eq (f_M_byRule_j156.eq_1 _ _ _ _) ?_
      refine e_nm ?_
      rw [nI_1]
      exact nx T m hW hF hN hH h77 (by omega)
theorem br_L12 {B : SS} (hB : WR B) (h10 : og B 4 ≤ 10) : ∀ (N s : Nat) (T : SS) (m : Nat), WR T → BF B T → NN T → HasG B T → T.1 0 77 = nI m → m ≤ 20 * og B s → s ≤ 4 → 4 < N + s → Ex2 (f_M_byRule_L12 N (nI s) T) (fun _ U => BK B U)
  | 0, s, T, m, hW, hF, hN, hH, h77, hm, hs, hf => by omega
  | N + 1, s, T, m, hW, hF, hN, hH, h77, hm, hs, hf => by
    refine e_eq (f_M_byRule_L12.eq_2 _ _ _) ?_
    by_cases c : s = 4
    · subst c
      exact e_t (nI_le (a := 4) (by omega) (by omega)) (e_some ⟨hW, hF⟩)
    · have hs4 : s < 4 := by omega
      refine e_f (nI_ge (b := 4) hs4 (by omega)) ?_
      have lg := (gm_le hB s).1
      exact br_L19 hB h10 hs4 (fun U m' a1 a2 a3 a4 a5 a6 => br_L12 hB h10 N (s + 1) U m' a1 a2 a3 a4 a5 a6 (by omega) (by omega)) NF 0 T m hW hF hN hH h77 (by omega) (by omega) (by have : NF = 100000 := rfl; omega)
theorem brx {S : SS} (hW : WR S) (hP : PL S) (hs : SameW S) : Ex2 (f_M_byRule S) (fun _ U => BK S U) := by
  refine e_eq (f_M_byRule.eq_1 _) ?_
  refine e_wrO (fun S1 e1 g1 v1 => ?_)
  have w1 := wo_0_77 hW (rgl 0 0 399 rfl) e1
  refine e_cV (tkx (x1 := 0) w1) (fun T h2 => ?_)
  obtain ⟨wT, gT, hT⟩ := h2
  have hT : tkP S1 T 0 := hT
  have k47 : S1.1 (tkM 0) = S.1 47 := funext fun i => g1.1 47 i rfl
  have k48 : S1.1 (tkO 0) = S.1 48 := funext fun i => g1.1 48 i rfl
  have nT := tk_NN w1 hT
  have F : BF S T := Fr.tr (Fr.tr Fr.rf g1 rfl) gT rfl
  refine br_L12 hW (og_10 hW hP) NF 0 T 0 wT F nT (fun w hw k => ?_) ((gT.1 0 77 rfl).trans v1) (by omega) (by omega) (by have : NF = 100000 := rfl; omega)
  refine List.count_pos_iff.mpr ((bef_mem wT nT hw).mp ((tk_Bef wT hT _).mpr ?_))
  rw [k47, k48]
  exact (hs w hw).mpr k
