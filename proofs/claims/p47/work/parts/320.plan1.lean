/-! ===== the reference's STACKS ===== -/
def bI (b : Bool) : Int32 := if b = true then 1 else 0
/-- WAGON w stands ahead of place i of STACK s -/
def Bef (m o : Nat → Int32) (w : Int32) (s i : Nat) : Prop := ∃ s' i' : Nat, (s' < s ∨ (s' = s ∧ i' < i)) ∧ s' < 4 ∧ (i' : Int) < (m s').toInt ∧ o (10 * s' + i') = w
theorem Bef_end {m o : Nat → Int32} {w : Int32} {s i : Nat} (hs : s < 4) (hi : (m s).toInt ≤ i) : Bef m o w s i ↔ Bef m o w (s + 1) 0 := by
  constructor
  · intro ⟨s', i', h1, h2, h3, h4⟩
    exact ⟨s', i', by omega, h2, h3, h4⟩
  · intro ⟨s', i', h1, h2, h3, h4⟩
    refine ⟨s', i', ?_, h2, h3, h4⟩
    by_cases e : s' = s
    · subst e; exact Or.inr ⟨rfl, by omega⟩
    · omega
theorem has14_s {K : Int32 → Int32 → Int32 → SS → Option (Int32 × SS)} {S : SS} {w : Int32} {s : Nat} {P : Int32 → SS → Prop} (hW : WR S) (hs : s < 4) (hK : ∀ b : Bool, (b = true ↔ Bef (S.1 47) (S.1 48) w (s + 1) 0) → Ex2 (K w (bI b) (nI (s + 1)) S) P) : ∀ (n i : Nat) (b : Bool), (b = true ↔ Bef (S.1 47) (S.1 48) w s i) → (i : Int) ≤ (S.1 47 s).toInt → (S.1 47 s).toInt - i < (n : Int) → Ex2 (f_M_has_M_startMany_M_startOn_L14 K n w (bI b) (nI s) (nI i) S) P
  | 0, i, b, hb, hi, hn => by omega
  | n + 1, i, b, hb, hi, hn => by
    have hm := (ro_47 hW s).2
    have ti : (nI i).toInt = (i : Int) := nI_toInt (by omega)
    refine e_eq (f_M_has_M_startMany_M_startOn_L14.eq_2 _ _ _ _ _ _ _) ?_
    rw [nI_clamp (n := s) (by omega)]
    refine e_grd (inb_nI hs (by omega)) ?_
    refine e_i (fun q => ?_) (fun q => ?_)
    · refine e_nm ?_
      rw [nI_1]
      rw [Int32.le_iff_toInt_le, ti] at q
      refine hK b (hb.trans (Bef_end hs (by omega)))
    · rw [Int32.le_iff_toInt_le, ti] at q
      have again : ∀ b' : Bool, (b' = true ↔ Bef (S.1 47) (S.1 48) w s (i + 1)) → Ex2 (f_M_has_M_startMany_M_startOn_j46 (fun v0 v1 v2 v3 S => f_M_has_M_startMany_M_startOn_L14 K n v0 v1 v2 v3 S) w (nI s) (nI i) (bI b') S) P := fun b' hb' => by
        refine e_eq (f_M_has_M_startMany_M_startOn_j46.eq_1 _ _ _ _ _ _) ?_
        refine e_nm ?_
        rw [nI_1]
        exact has14_s hW hs hK n (i + 1) b' hb' (by omega) (by omega)
      cases hbb : b with
      | false =>
        subst hbb
        refine e_t rfl ?_
        have e : (10 : Int32) * nI s + nI i = nI (10 * s + i) := by
          rw [show (10 : Int32) * nI s = nI (10 * s) from nI_mul 10 s, nI_add]
        rw [e, nI_clamp (n := 10 * s + i) (by omega)]
        refine e_grd (inb_nI (by omega) (by omega)) ?_
        refine e_i (fun q2 => ?_) (fun q2 => ?_)
        · refine e_eq (f_M_has_M_startMany_M_startOn_j41.eq_1 _ _ _ _ _) ?_
          exact again true ⟨fun _ => ⟨s, i, Or.inr ⟨rfl, by omega⟩, hs, by omega, q2⟩, fun _ => rfl⟩
        · refine again false ⟨(fun k => by cases k), fun k => ?_⟩
          obtain ⟨s', i', h1, h2, h3, h4⟩ := k
          refine hb.mpr ⟨s', i', ?_, h2, h3, h4⟩
          rcases h1 with h1 | ⟨h1, h5⟩
          · exact Or.inl h1
          · refine Or.inr ⟨h1, ?_⟩
            by_cases e2 : i' = i
            · subst e2; subst h1; exact absurd h4 q2
            · omega
      | true =>
        subst hbb
        refine e_f (by decide) ?_
        refine e_eq (f_M_has_M_startMany_M_startOn_j41.eq_1 _ _ _ _ _) ?_
        refine again true ⟨fun _ => ?_, fun _ => rfl⟩
        obtain ⟨s', i', h1, h2, h3, h4⟩ := hb.mp rfl
        exact ⟨s', i', by omega, h2, h3, h4⟩
theorem has5_s {S : SS} {w : Int32} (hW : WR S) : ∀ (n s : Nat) (b : Bool), (b = true ↔ Bef (S.1 47) (S.1 48) w s 0) → s ≤ 4 → 4 < n + s → Ex2 (f_M_has_M_startMany_M_startOn_L5 n w (bI b) (nI s) S) (fun r U => U = S ∧ ∃ b' : Bool, r = bI b' ∧ (b' = true ↔ Bef (S.1 47) (S.1 48) w 4 0))
  | 0, s, b, hb, hs, hn => by omega
  | n + 1, s, b, hb, hs, hn => by
    refine e_eq (f_M_has_M_startMany_M_startOn_L5.eq_2 _ _ _ _ _) ?_
    refine e_i (fun q => ?_) (fun q => ?_)
    · have : s = 4 := by
        rcases Nat.lt_or_ge s 4 with e | e
        · exact absurd q (nI_ge (b := 4) e (by omega))
        · omega
      subst this
      refine e_grd (by cases b <;> decide) ?_
      exact e_some ⟨rfl, b, rfl, hb⟩
    · have hs4 : s < 4 := by
        rcases Nat.lt_or_ge s 4 with e | e
        · exact e
        · exact absurd (nI_le (a := 4) e (by omega)) q
      have hm := ro_47 hW s
      refine has14_s hW hs4 (fun b' hb' => has5_s hW n (s + 1) b' hb' (by omega) (by omega)) NF 0 b hb (by have := hm.1; omega) ?_
      have := hm.2
      have : (NF : Int) = 100000 := rfl
      omega
/-- whether a WAGON stands there, told exactly -/
theorem u_has_s {S : SS} {w : Int32} (hW : WR S) : Ex2 (f_M_has_M_startMany_M_startOn w S) (fun r U => U = S ∧ ∃ b : Bool, r = bI b ∧ (b = true ↔ Bef (S.1 47) (S.1 48) w 4 0)) := by
  refine e_eq (f_M_has_M_startMany_M_startOn.eq_1 _ _) ?_
  refine has5_s hW NF 0 false ⟨(fun k => by cases k), fun k => ?_⟩ (by omega) (by have : NF = 100000 := rfl; omega)
  obtain ⟨s', i', h1, -⟩ := k
  omega
theorem has14_g {K : Int32 → Int32 → Int32 → SS → Option (Int32 × SS)} {S : SS} {w : Int32} {s : Nat} {P : Int32 → SS → Prop} (hW : WR S) (hs : s < 4) (hK : ∀ b : Bool, (b = true ↔ Bef (S.1 49) (S.1 50) w (s + 1) 0) → Ex2 (K w (bI b) (nI (s + 1)) S) P) : ∀ (n i : Nat) (b : Bool), (b = true ↔ Bef (S.1 49) (S.1 50) w s i) → (i : Int) ≤ (S.1 49 s).toInt → (S.1 49 s).toInt - i < (n : Int) → Ex2 (f_M_has_M_goalMany_M_goalOn_L14 K n w (bI b) (nI s) (nI i) S) P
  | 0, i, b, hb, hi, hn => by omega
  | n + 1, i, b, hb, hi, hn => by
    have hm := (ro_49 hW s).2
    have ti : (nI i).toInt = (i : Int) := nI_toInt (by omega)
    refine e_eq (f_M_has_M_goalMany_M_goalOn_L14.eq_2 _ _ _ _ _ _ _) ?_
    rw [nI_clamp (n := s) (by omega)]
    refine e_grd (inb_nI hs (by omega)) ?_
    refine e_i (fun q => ?_) (fun q => ?_)
    · refine e_nm ?_
      rw [nI_1]
      rw [Int32.le_iff_toInt_le, ti] at q
      refine hK b (hb.trans (Bef_end hs (by omega)))
    · rw [Int32.le_iff_toInt_le, ti] at q
      have again : ∀ b' : Bool, (b' = true ↔ Bef (S.1 49) (S.1 50) w s (i + 1)) → Ex2 (f_M_has_M_goalMany_M_goalOn_j46 (fun v0 v1 v2 v3 S => f_M_has_M_goalMany_M_goalOn_L14 K n v0 v1 v2 v3 S) w (nI s) (nI i) (bI b') S) P := fun b' hb' => by
        refine e_eq (f_M_has_M_goalMany_M_goalOn_j46.eq_1 _ _ _ _ _ _) ?_
        refine e_nm ?_
        rw [nI_1]
        exact has14_g hW hs hK n (i + 1) b' hb' (by omega) (by omega)
      cases hbb : b with
      | false =>
        subst hbb
        refine e_t rfl ?_
        have e : (10 : Int32) * nI s + nI i = nI (10 * s + i) := by
          rw [show (10 : Int32) * nI s = nI (10 * s) from nI_mul 10 s, nI_add]
        rw [e, nI_clamp (n := 10 * s + i) (by omega)]
        refine e_grd (inb_nI (by omega) (by omega)) ?_
        refine e_i (fun q2 => ?_) (fun q2 => ?_)
        · refine e_eq (f_M_has_M_goalMany_M_goalOn_j41.eq_1 _ _ _ _ _) ?_
          exact again true ⟨fun _ => ⟨s, i, Or.inr ⟨rfl, by omega⟩, hs, by omega, q2⟩, fun _ => rfl⟩
        · refine again false ⟨(fun k => by cases k), fun k => ?_⟩
          obtain ⟨s', i', h1, h2, h3, h4⟩ := k
          refine hb.mpr ⟨s', i', ?_, h2, h3, h4⟩
          rcases h1 with h1 | ⟨h1, h5⟩
          · exact Or.inl h1
          · refine Or.inr ⟨h1, ?_⟩
            by_cases e2 : i' = i
            · subst e2; subst h1; exact absurd h4 q2
            · omega
      | true =>
        subst hbb
        refine e_f (by decide) ?_
        refine e_eq (f_M_has_M_goalMany_M_goalOn_j41.eq_1 _ _ _ _ _) ?_
        refine again true ⟨fun _ => ?_, fun _ => rfl⟩
        obtain ⟨s', i', h1, h2, h3, h4⟩ := hb.mp rfl
        exact ⟨s', i', by omega, h2, h3, h4⟩
theorem has5_g {S : SS} {w : Int32} (hW : WR S) : ∀ (n s : Nat) (b : Bool), (b = true ↔ Bef (S.1 49) (S.1 50) w s 0) → s ≤ 4 → 4 < n + s → Ex2 (f_M_has_M_goalMany_M_goalOn_L5 n w (bI b) (nI s) S) (fun r U => U = S ∧ ∃ b' : Bool, r = bI b' ∧ (b' = true ↔ Bef (S.1 49) (S.1 50) w 4 0))
  | 0, s, b, hb, hs, hn => by omega
  | n + 1, s, b, hb, hs, hn => by
    refine e_eq (f_M_has_M_goalMany_M_goalOn_L5.eq_2 _ _ _ _ _) ?_
    refine e_i (fun q => ?_) (fun q => ?_)
    · have : s = 4 := by
        rcases Nat.lt_or_ge s 4 with e | e
        · exact absurd q (nI_ge (b := 4) e (by omega))
        · omega
      subst this
      refine e_grd (by cases b <;> decide) ?_
      exact e_some ⟨rfl, b, rfl, hb⟩
    · have hs4 : s < 4 := by
        rcases Nat.lt_or_ge s 4 with e | e
        · exact e
        · exact absurd (nI_le (a := 4) e (by omega)) q
      have hm := ro_49 hW s
      refine has14_g hW hs4 (fun b' hb' => has5_g hW n (s + 1) b' hb' (by omega) (by omega)) NF 0 b hb (by have := hm.1; omega) ?_
      have := hm.2
      have : (NF : Int) = 100000 := rfl
      omega
/-- whether a WAGON stands there, told exactly -/
theorem u_has_g {S : SS} {w : Int32} (hW : WR S) : Ex2 (f_M_has_M_goalMany_M_goalOn w S) (fun r U => U = S ∧ ∃ b : Bool, r = bI b ∧ (b = true ↔ Bef (S.1 49) (S.1 50) w 4 0)) := by
  refine e_eq (f_M_has_M_goalMany_M_goalOn.eq_1 _ _) ?_
  refine has5_g hW NF 0 false ⟨(fun k => by cases k), fun k => ?_⟩ (by omega) (by have : NF = 100000 := rfl; omega)
  obtain ⟨s', i', h1, -⟩ := k
  omega
/-- no WAGON stands twice -/
def DW (m o : Nat → Int32) : Prop := ∀ s i s' i' : Nat, s < 4 → s' < 4 → (i : Int) < (m s).toInt → (i' : Int) < (m s').toInt → o (10 * s + i) = o (10 * s' + i') → s = s' ∧ i = i'
def PL (S : SS) : Prop := (∀ s, s < 4 → (S.1 47 s).toInt ≤ (S.1 46 s).toInt ∧ (S.1 49 s).toInt ≤ (S.1 46 s).toInt) ∧ DW (S.1 47) (S.1 48) ∧ DW (S.1 49) (S.1 50)
theorem PL.of {S T : SS} (h : PL S) (e : ∀ k, k ∈ [46, 47, 48, 49, 50] → ∀ i, T.1 k i = S.1 k i) : PL T := by
  unfold PL
  rw [show T.1 46 = S.1 46 from funext (e 46 (by decide)), show T.1 47 = S.1 47 from funext (e 47 (by decide)), show T.1 48 = S.1 48 from funext (e 48 (by decide)), show T.1 49 = S.1 49 from funext (e 49 (by decide)), show T.1 50 = S.1 50 from funext (e 50 (by decide))]
  exact h
set_option maxHeartbeats 1000000 in
theorem p_laid_s {a3 a4 : Int32} {S : SS} (hW : WR S) (hP : PL S) : Ex2 (f_M_laid_M_startMany_M_startOn a3 a4 S) (fun r U => WR U ∧ PL U ∧ Fr [47, 48] [] S U) := by
  have hF : Fr [47, 48] [] S S := Fr.rf
  refine e_eq (f_M_laid_M_startMany_M_startOn.eq_1 _ _ _) ?_
  refine e_i (fun _ => e_some ⟨hW, hP, hF⟩) (fun q1 => ?_)
  refine e_i (fun _ => e_some ⟨hW, hP, hF⟩) (fun q2 => ?_)
  refine e_i (fun _ => e_some ⟨hW, hP, hF⟩) (fun q3 => ?_)
  refine e_i (fun _ => e_some ⟨hW, hP, hF⟩) (fun q4 => ?_)
  obtain ⟨s, rfl, -, hs1, -⟩ := rg_ex (nle_r 3 (rgl 4 4 4 rfl) (nlt_l (rgt a3) (rgl 0 0 0 rfl) q1) q2 rfl) (by omega)
  have h4 := nle_r 9 (rgl 10 10 10 rfl) (nlt_l (rgt a4) (rgl 0 0 0 rfl) q3) q4 rfl
  have hs : s < 4 := by omega
  refine e_cE (u_has_s hW) (fun r T p => ?_)
  obtain ⟨rfl, b, rfl, hb⟩ := p
  refine e_i (fun q5 => ?_) (fun _ => e_some ⟨hW, hP, hF⟩)
  have hno : ¬ Bef (T.1 47) (T.1 48) a4 4 0 := fun k => by
    rw [hb.mpr k] at q5
    exact absurd q5 (by decide)
  refine e_grd (inb_nI hs (by omega)) ?_
  refine e_grd (inb_nI hs (by omega)) ?_
  rw [nI_clamp (n := s) (by omega)]
  refine e_i (fun _ => e_some ⟨hW, hP, hF⟩) (fun q6 => ?_)
  have rm := ro_47 hW s
  have rr := ro_46 hW s
  have hle := (hP.1 s hs).1
  have r1 := rm.1; have r2 := rr.2
  rw [← Int32.toInt_inj] at q6
  obtain ⟨m, hm, -, hm1, hm2⟩ := rg_ex rm (by omega)
  have tm : (T.1 47 s).toInt = m := by rw [hm]; exact nI_toInt hm2
  refine e_grd (inb_nI hs (by omega)) ?_
  have e : (10 : Int32) * nI s + nI m = nI (10 * s + m) := by
    rw [show (10 : Int32) * nI s = nI (10 * s) from nI_mul 10 s, nI_add]
  rw [hm, e, nI_clamp (n := 10 * s + m) (by omega)]
  refine e_grd (inb_nI (by omega) (by omega)) ?_
  refine e_wrA (fun U1 e1 g1 v1 => ?_)
  have hW1 := wo_48 hW (h4.sub rfl) e1
  have k1 : U1.1 47 s = nI m := (g1.1 47 s rfl).trans hm
  refine e_grd (inb_nI hs (by omega)) ?_
  refine e_grd (inb_nI hs (by omega)) ?_
  refine e_wrA (fun U e2 g2 v2 => ?_)
  rw [k1, nI_1] at e2 v2
  have hW2 := wo_47 hW1 (rg_nI (j := m + 1) (by omega) (by omega) (by omega)) e2
  refine e_grd (inb_nI hs (by omega)) ?_
  have um : ∀ s', U.1 47 s' = if s' = s then nI (m + 1) else T.1 47 s' := fun s' => by
    rw [e2, st_at, if_pos rfl]
    by_cases c : s' = s
    · rw [if_pos c, if_pos c]
    · rw [if_neg c, if_neg c, g1.1 47 s' rfl]
  have uo : ∀ j, U.1 48 j = if j = 10 * s + m then a4 else T.1 48 j := fun j => by
    rw [g2.1 48 j rfl, e1, st_at, if_pos rfl]
  have hold : ∀ s' i' : Nat, s' < 4 → (i' : Int) < (T.1 47 s').toInt → (10 * s' + i' ≠ 10 * s + m) ∧ T.1 48 (10 * s' + i') ≠ a4 := fun s' i' h1 h2 => by
    have := (ro_47 hW s').2
    refine ⟨fun k => ?_, fun k => hno ⟨s', i', Or.inl h1, h1, h2, k⟩⟩
    have c1 : s' = s := by omega
    subst c1
    omega
  have tmm : (nI (m + 1)).toInt = (m : Int) + 1 := by rw [nI_toInt (by omega)]; omega
  refine e_some ⟨hW2, ⟨fun s' hs' => ?_, ?_, ?_⟩, (hF.tr g1 rfl).tr g2 rfl⟩
  · have h0 := hP.1 s' hs'
    rw [um, show U.1 46 s' = T.1 46 s' by rw [g2.1 46 s' rfl, g1.1 46 s' rfl], show U.1 49 s' = T.1 49 s' by rw [g2.1 49 s' rfl, g1.1 49 s' rfl]]
    by_cases c : s' = s
    · subst c
      rw [if_pos rfl, tmm]
      omega
    · rw [if_neg c]; exact h0
  · intro s1 i1 s2 i2 h1 h2 h3 h4' h5
    rw [um] at h3 h4'
    rw [uo, uo] at h5
    by_cases c1 : 10 * s1 + i1 = 10 * s + m
    · by_cases c2 : 10 * s2 + i2 = 10 * s + m
      · have b1 : (i1 : Int) ≤ 10 := by
          split at h3
          · rw [tmm] at h3; omega
          · have := (ro_47 hW s1).2; omega
        have b2 : (i2 : Int) ≤ 10 := by
          split at h4'
          · rw [tmm] at h4'; omega
          · have := (ro_47 hW s2).2; omega
        have d1 : s1 = s := by
          by_cases k : s1 = s
          · exact k
          · rw [if_neg k] at h3; exact absurd c1 (hold s1 i1 h1 h3).1
        have d2 : s2 = s := by
          by_cases k : s2 = s
          · exact k
          · rw [if_neg k] at h4'; exact absurd c2 (hold s2 i2 h2 h4').1
        omega
      · rw [if_pos c1, if_neg c2] at h5
        have d : (i2 : Int) < (T.1 47 s2).toInt := by
          by_cases k : s2 = s
          · rw [if_pos k, tmm] at h4'
            rw [k, tm]
            omega
          · rw [if_neg k] at h4'; exact h4'
        exact absurd h5.symm (hold s2 i2 h2 d).2
    · have d : (i1 : Int) < (T.1 47 s1).toInt := by
        by_cases k : s1 = s
        · rw [if_pos k, tmm] at h3
          rw [k, tm]
          omega
        · rw [if_neg k] at h3; exact h3
      by_cases c2 : 10 * s2 + i2 = 10 * s + m
      · rw [if_neg c1, if_pos c2] at h5
        exact absurd h5 (hold s1 i1 h1 d).2
      · rw [if_neg c1, if_neg c2] at h5
        have d2 : (i2 : Int) < (T.1 47 s2).toInt := by
          by_cases k : s2 = s
          · rw [if_pos k, tmm] at h4'
            rw [k, tm]
            omega
          · rw [if_neg k] at h4'; exact h4'
        exact hP.2.1 s1 i1 s2 i2 h1 h2 d d2 h5
  · have c1 : U.1 49 = T.1 49 := funext fun j => by rw [g2.1 49 j rfl, g1.1 49 j rfl]
    have c2 : U.1 50 = T.1 50 := funext fun j => by rw [g2.1 50 j rfl, g1.1 50 j rfl]
    rw [c1, c2]
    exact hP.2.2
set_option maxHeartbeats 1000000 in
theorem p_laid_g {a3 a4 : Int32} {S : SS} (hW : WR S) (hP : PL S) : Ex2 (f_M_laid_M_goalMany_M_goalOn a3 a4 S) (fun r U => WR U ∧ PL U ∧ Fr [49, 50] [] S U) := by
  have hF : Fr [49, 50] [] S S := Fr.rf
  refine e_eq (f_M_laid_M_goalMany_M_goalOn.eq_1 _ _ _) ?_
  refine e_i (fun _ => e_some ⟨hW, hP, hF⟩) (fun q1 => ?_)
  refine e_i (fun _ => e_some ⟨hW, hP, hF⟩) (fun q2 => ?_)
  refine e_i (fun _ => e_some ⟨hW, hP, hF⟩) (fun q3 => ?_)
  refine e_i (fun _ => e_some ⟨hW, hP, hF⟩) (fun q4 => ?_)
  obtain ⟨s, rfl, -, hs1, -⟩ := rg_ex (nle_r 3 (rgl 4 4 4 rfl) (nlt_l (rgt a3) (rgl 0 0 0 rfl) q1) q2 rfl) (by omega)
  have h4 := nle_r 9 (rgl 10 10 10 rfl) (nlt_l (rgt a4) (rgl 0 0 0 rfl) q3) q4 rfl
  have hs : s < 4 := by omega
  refine e_cE (u_has_g hW) (fun r T p => ?_)
  obtain ⟨rfl, b, rfl, hb⟩ := p
  refine e_i (fun q5 => ?_) (fun _ => e_some ⟨hW, hP, hF⟩)
  have hno : ¬ Bef (T.1 49) (T.1 50) a4 4 0 := fun k => by
    rw [hb.mpr k] at q5
    exact absurd q5 (by decide)
  refine e_grd (inb_nI hs (by omega)) ?_
  refine e_grd (inb_nI hs (by omega)) ?_
  rw [nI_clamp (n := s) (by omega)]
  refine e_i (fun _ => e_some ⟨hW, hP, hF⟩) (fun q6 => ?_)
  have rm := ro_49 hW s
  have rr := ro_46 hW s
  have hle := (hP.1 s hs).2
  have r1 := rm.1; have r2 := rr.2
  rw [← Int32.toInt_inj] at q6
  obtain ⟨m, hm, -, hm1, hm2⟩ := rg_ex rm (by omega)
  have tm : (T.1 49 s).toInt = m := by rw [hm]; exact nI_toInt hm2
  refine e_grd (inb_nI hs (by omega)) ?_
  have e : (10 : Int32) * nI s + nI m = nI (10 * s + m) := by
    rw [show (10 : Int32) * nI s = nI (10 * s) from nI_mul 10 s, nI_add]
  rw [hm, e, nI_clamp (n := 10 * s + m) (by omega)]
  refine e_grd (inb_nI (by omega) (by omega)) ?_
  refine e_wrA (fun U1 e1 g1 v1 => ?_)
  have hW1 := wo_50 hW (h4.sub rfl) e1
  have k1 : U1.1 49 s = nI m := (g1.1 49 s rfl).trans hm
  refine e_grd (inb_nI hs (by omega)) ?_
  refine e_grd (inb_nI hs (by omega)) ?_
  refine e_wrA (fun U e2 g2 v2 => ?_)
  rw [k1, nI_1] at e2 v2
  have hW2 := wo_49 hW1 (rg_nI (j := m + 1) (by omega) (by omega) (by omega)) e2
  refine e_grd (inb_nI hs (by omega)) ?_
  have um : ∀ s', U.1 49 s' = if s' = s then nI (m + 1) else T.1 49 s' := fun s' => by
    rw [e2, st_at, if_pos rfl]
    by_cases c : s' = s
    · rw [if_pos c, if_pos c]
    · rw [if_neg c, if_neg c, g1.1 49 s' rfl]
  have uo : ∀ j, U.1 50 j = if j = 10 * s + m then a4 else T.1 50 j := fun j => by
    rw [g2.1 50 j rfl, e1, st_at, if_pos rfl]
  have hold : ∀ s' i' : Nat, s' < 4 → (i' : Int) < (T.1 49 s').toInt → (10 * s' + i' ≠ 10 * s + m) ∧ T.1 50 (10 * s' + i') ≠ a4 := fun s' i' h1 h2 => by
    have := (ro_49 hW s').2
    refine ⟨fun k => ?_, fun k => hno ⟨s', i', Or.inl h1, h1, h2, k⟩⟩
    have c1 : s' = s := by omega
    subst c1
    omega
  have tmm : (nI (m + 1)).toInt = (m : Int) + 1 := by rw [nI_toInt (by omega)]; omega
  refine e_some ⟨hW2, ⟨fun s' hs' => ?_, ?_, ?_⟩, (hF.tr g1 rfl).tr g2 rfl⟩
  · have h0 := hP.1 s' hs'
    rw [um, show U.1 46 s' = T.1 46 s' by rw [g2.1 46 s' rfl, g1.1 46 s' rfl], show U.1 47 s' = T.1 47 s' by rw [g2.1 47 s' rfl, g1.1 47 s' rfl]]
    by_cases c : s' = s
    · subst c
      rw [if_pos rfl, tmm]
      omega
    · rw [if_neg c]; exact h0
  · have c1 : U.1 47 = T.1 47 := funext fun j => by rw [g2.1 47 j rfl, g1.1 47 j rfl]
    have c2 : U.1 48 = T.1 48 := funext fun j => by rw [g2.1 48 j rfl, g1.1 48 j rfl]
    rw [c1, c2]
    exact hP.2.1
  · intro s1 i1 s2 i2 h1 h2 h3 h4' h5
    rw [um] at h3 h4'
    rw [uo, uo] at h5
    by_cases c1 : 10 * s1 + i1 = 10 * s + m
    · by_cases c2 : 10 * s2 + i2 = 10 * s + m
      · have b1 : (i1 : Int) ≤ 10 := by
          split at h3
          · rw [tmm] at h3; omega
          · have := (ro_49 hW s1).2; omega
        have b2 : (i2 : Int) ≤ 10 := by
          split at h4'
          · rw [tmm] at h4'; omega
          · have := (ro_49 hW s2).2; omega
        have d1 : s1 = s := by
          by_cases k : s1 = s
          · exact k
          · rw [if_neg k] at h3; exact absurd c1 (hold s1 i1 h1 h3).1
        have d2 : s2 = s := by
          by_cases k : s2 = s
          · exact k
          · rw [if_neg k] at h4'; exact absurd c2 (hold s2 i2 h2 h4').1
        omega
      · rw [if_pos c1, if_neg c2] at h5
        have d : (i2 : Int) < (T.1 49 s2).toInt := by
          by_cases k : s2 = s
          · rw [if_pos k, tmm] at h4'
            rw [k, tm]
            omega
          · rw [if_neg k] at h4'; exact h4'
        exact absurd h5.symm (hold s2 i2 h2 d).2
    · have d : (i1 : Int) < (T.1 49 s1).toInt := by
        by_cases k : s1 = s
        · rw [if_pos k, tmm] at h3
          rw [k, tm]
          omega
        · rw [if_neg k] at h3; exact h3
      by_cases c2 : 10 * s2 + i2 = 10 * s + m
      · rw [if_neg c1, if_pos c2] at h5
        exact absurd h5 (hold s1 i1 h1 d).2
      · rw [if_neg c1, if_neg c2] at h5
        have d2 : (i2 : Int) < (T.1 49 s2).toInt := by
          by_cases k : s2 = s
          · rw [if_pos k, tmm] at h4'
            rw [k, tm]
            omega
          · rw [if_neg k] at h4'; exact h4'
        exact hP.2.2 s1 i1 s2 i2 h1 h2 d d2 h5
theorem p_M_lay {a1 a2 a3 : Int32} {S : SS} (hW : WR S) (hP : PL S) : Ex2 (f_M_lay a1 a2 a3 S) (fun r U => WR U ∧ PL U ∧ Fr [47, 48, 49, 50] [] S U) := by
  have hF : Fr [47, 48, 49, 50] [] S S := Fr.rf
  refine e_eq (f_M_lay.eq_1 _ _ _ _) ?_
  refine e_i (fun _ => ?_) (fun _ => ?_)
  · refine e_cE (p_laid_s hW hP) (fun r T p => ?_)
    exact e_some ⟨p.1, p.2.1, hF.tr p.2.2 rfl⟩
  · refine e_cE (p_laid_g hW hP) (fun r T p => ?_)
    exact e_some ⟨p.1, p.2.1, hF.tr p.2.2 rfl⟩
theorem p_M_room {a1 a2 : Int32} {S : SS} (hW : WR S) (hP : PL S) : Ex2 (f_M_room a1 a2 S) (fun r U => WR U ∧ PL U ∧ Fr [46] [] S U) := by
  have hF : Fr [46] [] S S := Fr.rf
  refine e_eq (f_M_room.eq_1 _ _ _) ?_
  refine e_i (fun _ => e_some ⟨hW, hP, hF⟩) (fun q1 => ?_)
  refine e_i (fun _ => e_some ⟨hW, hP, hF⟩) (fun q2 => ?_)
  refine e_i (fun _ => e_some ⟨hW, hP, hF⟩) (fun q3 => ?_)
  refine e_i (fun _ => e_some ⟨hW, hP, hF⟩) (fun q4 => ?_)
  obtain ⟨s, rfl, -, hs1, -⟩ := rg_ex (nle_r 3 (rgl 4 4 4 rfl) (nlt_l (rgt a1) (rgl 0 0 0 rfl) q1) q2 rfl) (by omega)
  have h2 := nlt_r (rgl 10 10 10 rfl) (nlt_l (rgt a2) (rgl 1 1 1 rfl) q3) q4
  have hs : s < 4 := by omega
  refine e_grd (inb_nI hs (by omega)) ?_
  rw [nI_clamp (n := s) (by omega)]
  refine e_i (fun _ => e_some ⟨hW, hP, hF⟩) (fun q5 => ?_)
  refine e_grd (inb_nI hs (by omega)) ?_
  refine e_i (fun q6 => ?_) (fun _ => e_some ⟨hW, hP, hF⟩)
  refine e_grd (inb_nI hs (by omega)) ?_
  refine e_nm ?_
  refine e_grd (inb_nI hs (by omega)) ?_
  refine e_wrA (fun U e g v => ?_)
  rw [Int32.lt_iff_toInt_lt] at q5
  rw [Int32.le_iff_toInt_le] at q6
  refine e_some ⟨wo_46 hW (h2.sub rfl) e, ⟨fun s' hs' => ?_, ?_, ?_⟩, hF.tr g rfl⟩
  · rw [g.1 47 s' rfl, g.1 49 s' rfl, e, st_at, if_pos rfl]
    by_cases c : s' = s
    · subst c
      rw [if_pos rfl]
      omega
    · rw [if_neg c]; exact hP.1 s' hs'
  · rw [show U.1 47 = S.1 47 from funext fun j => g.1 47 j rfl, show U.1 48 = S.1 48 from funext fun j => g.1 48 j rfl]
    exact hP.2.1
  · rw [show U.1 49 = S.1 49 from funext fun j => g.1 49 j rfl, show U.1 50 = S.1 50 from funext fun j => g.1 50 j rfl]
    exact hP.2.2
theorem wi_L10 {S0 : SS} {x1 : Int32} : ∀ (n k : Nat) (S : SS), WR S → Fr [47, 49] [(0, 76), (0, 77)] S0 S → (∀ s, s < k → S.1 47 s = 0 ∧ S.1 49 s = 0) → k ≤ 4 → 4 < n + k → Ex2 (f_M_wipe_L10 n x1 (nI k) S) (fun r U => WR U ∧ PL U ∧ Fr [47, 49] [(0, 76), (0, 77)] S0 U)
  | 0, k, S, hW, hF, h, hk, hn => by omega
  | n + 1, k, S, hW, hF, h, hk, hn => by
    refine e_eq (f_M_wipe_L10.eq_2 _ _ _ _) ?_
    refine e_i (fun q => ?_) (fun q => ?_)
    · have : k = 4 := by
        rcases Nat.lt_or_ge k 4 with e | e
        · exact absurd q (nI_ge (b := 4) e (by omega))
        · omega
      subst this
      refine e_wrO (fun T1 e1 g1 v1 => ?_)
      have hW1 := WR.st (k := 0) (i := 76) hW trivial rfl e1
      refine e_wrO (fun T2 e2 g2 v2 => ?_)
      have hW2 := wo_0_77 hW1 (rgl 0 0 399 rfl) e2
      have z : ∀ s, s < 4 → (T2.1 47 s).toInt = 0 ∧ (T2.1 49 s).toInt = 0 := fun s hs => by
        rw [g2.1 47 s rfl, g1.1 47 s rfl, g2.1 49 s rfl, g1.1 49 s rfl, (h s hs).1, (h s hs).2]
        exact ⟨Int32.toInt_zero, Int32.toInt_zero⟩
      refine e_some ⟨hW2, ⟨fun s hs => ?_, fun s i s' i' h1 h2 h3 h4 _ => ?_, fun s i s' i' h1 h2 h3 h4 _ => ?_⟩, (hF.tr g1 rfl).tr g2 rfl⟩
      · have := (ro_46 hW2 s).1
        have := z s hs
        omega
      · have := z s h1
        omega
      · have := z s h1
        omega
    · have hk4 : k < 4 := by
        rcases Nat.lt_or_ge k 4 with e | e
        · exact e
        · exact absurd (nI_le (a := 4) e (by omega)) q
      refine e_grd (inb_nI hk4 (by omega)) ?_
      rw [nI_clamp (n := k) (by omega)]
      refine e_wrA (fun T1 e1 g1 v1 => ?_)
      have hW1 := wo_47 hW (rgl 0 0 10 rfl) e1
      refine e_grd (inb_nI hk4 (by omega)) ?_
      refine e_wrA (fun T2 e2 g2 v2 => ?_)
      have hW2 := wo_49 hW1 (rgl 0 0 10 rfl) e2
      refine e_nm ?_
      rw [nI_1]
      refine wi_L10 n (k + 1) T2 hW2 ((hF.tr g1 rfl).tr g2 rfl) (fun s hs => ?_) (by omega) (by omega)
      rw [g2.1 47 s rfl, e2, st_at, if_pos rfl, g1.1 49 s rfl, e1, st_at, if_pos rfl]
      by_cases c : s = k
      · rw [if_pos c, if_pos c]; exact ⟨rfl, rfl⟩
      · rw [if_neg c, if_neg c]; exact h s (by omega)
theorem p_M_wipe {S : SS} (hW : WR S) : Ex2 (f_M_wipe S) (fun r U => WR U ∧ PL U ∧ Fr [47, 49] [(0, 76), (0, 77)] S U) := by
  have hF : Fr [47, 49] [(0, 76), (0, 77)] S S := Fr.rf
  refine e_eq (f_M_wipe.eq_1 _) ?_
  refine e_cE (t_M_sumOf_M_startMany hW) (fun r T p => ?_)
  obtain ⟨-, g, -⟩ := p
  have := (fr_nil g).symm
  subst this
  exact wi_L10 NF 0 S hW hF (fun s hs => by omega) (by omega) (by have : NF = 100000 := rfl; omega)
