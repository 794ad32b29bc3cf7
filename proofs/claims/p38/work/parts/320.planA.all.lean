section
/-! ===== the reference's STACKS ===== -/
def bI (b : Bool) : Int32 := if b = true then 1 else 0
/-- WAGON w stands ahead of place i of STACK s -/
def Bef (m o : Nat → Int32) (w : Int32) (s i : Nat) : Prop := ∃ s' i' : Nat, (s' < s ∨ (s' = s ∧ i' < i)) ∧ s' < 4 ∧ (i' : Int) < (m s').toInt ∧ o (10 * s' + i') = w
theorem Bef_end {m o : Nat → Int32} {w : Int32} {s i : Nat} (hs : s < 4) (hi : (m s).toInt ≤ i) : Bef m o w s i ↔ Bef m o w (s + 1) 0 := by
  constructor
  · intro ⟨s', i', h1, h2, h3, h4⟩
    exact ⟨s', i', by omega, h2, h3, h4⟩
  · intro ⟨s', i', h1, h2, h3, h4⟩
    refine ⟨s', i', ?_, h2, h3, h4⟩
    by_cases e : s' = s
    · subst e; exact Or.inr ⟨rfl, by omega⟩
    · omega
theorem has14_s {K : Int32 → Int32 → Int32 → SS → Option (Int32 × SS)} {S : SS} {w : Int32} {s : Nat} {P : Int32 → SS → Prop} (hW : WR S) (hs : s < 4) (hK : ∀ b : Bool, (b = true ↔ Bef (S.1 47) (S.1 48) w (s + 1) 0) → Ex2 (K w (bI b) (nI (s + 1)) S) P) : ∀ (n i : Nat) (b : Bool), (b = true ↔ Bef (S.1 47) (S.1 48) w s i) → (i : Int) ≤ (S.1 47 s).toInt → (S.1 47 s).toInt - i < (n : Int) → Ex2 (f_M_has_M_startMany_M_startOn_L14 K n w (bI b) (nI s) (nI i) S) P
  | 0, i, b, hb, hi, hn => by omega
  | n + 1, i, b, hb, hi, hn => by
    have hm := (ro_47 hW s).2
    have ti : (nI i).toInt = (i : Int) := nI_toInt (by omega)
    refine e_eq (f_M_has_M_startMany_M_startOn_L14.eq_2 _ _ _ _ _ _ _) ?_
    rw [nI_clamp (n := s) (by omega)]
    refine e_grd (inb_nI hs (by omega)) ?_
    refine e_i (fun q => ?_) (fun q => ?_)
    · refine e_nm ?_
      rw [nI_1]
      rw [Int32.le_iff_toInt_le, ti] at q
      refine hK b (hb.trans (Bef_end hs (by omega)))
    · rw [Int32.le_iff_toInt_le, ti] at q
      have again : ∀ b' : Bool, (b' = true ↔ Bef (S.1 47) (S.1 48) w s (i + 1)) → Ex2 (f_M_has_M_startMany_M_startOn_j46 (fun v0 v1 v2 v3 S => f_M_has_M_startMany_M_startOn_L14 K n v0 v1 v2 v3 S) w (nI s) (nI i) (bI b') S) P := fun b' hb' => by
        refine e_eq (f_M_has_M_startMany_M_startOn_j46.eq_1 _ _ _ _ _ _) ?_
        refine e_nm ?_
        rw [nI_1]
        exact has14_s hW hs hK n (i + 1) b' hb' (by omega) (by omega)
      cases hbb : b with
      | false =>
        subst hbb
        refine e_t rfl ?_
        have e : (10 : Int32) * nI s + nI i = nI (10 * s + i) := by
          rw [show (10 : Int32) * nI s = nI (10 * s) from nI_mul 10 s, nI_add]
        rw [e, nI_clamp (n := 10 * s + i) (by omega)]
        refine e_grd (inb_nI (by omega) (by omega)) ?_
        refine e_i (fun q2 => ?_) (fun q2 => ?_)
        · refine e_eq (f_M_has_M_startMany_M_startOn_j41.eq_1 _ _ _ _ _) ?_
          exact again true ⟨fun _ => ⟨s, i, Or.inr ⟨rfl, by omega⟩, hs, by omega, q2⟩, fun _ => rfl⟩
        · refine again false ⟨(fun k => by cases k), fun k => ?_⟩
          obtain ⟨s', i', h1, h2, h3, h4⟩ := k
          refine hb.mpr ⟨s', i', ?_, h2, h3, h4⟩
          rcases h1 with h1 | ⟨h1, h5⟩
          · exact Or.inl h1
          · refine Or.inr ⟨h1, ?_⟩
            by_cases e2 : i' = i
            · subst e2; subst h1; exact absurd h4 q2
            · omega
      | true =>
        subst hbb
        refine e_f (by decide) ?_
        refine e_eq (f_M_has_M_startMany_M_startOn_j41.eq_1 _ _ _ _ _) ?_
        refine again true ⟨fun _ => ?_, fun _ => rfl⟩
        obtain ⟨s', i', h1, h2, h3, h4⟩ := hb.mp rfl
        exact ⟨s', i', by omega, h2, h3, h4⟩
theorem has5_s {S : SS} {w : Int32} (hW : WR S) : ∀ (n s : Nat) (b : Bool), (b = true ↔ Bef (S.1 47) (S.1 48) w s 0) → s ≤ 4 → 4 < n + s → Ex2 (f_M_has_M_startMany_M_startOn_L5 n w (bI b) (nI s) S) (fun r U => U = S ∧ ∃ b' : Bool, r = bI b' ∧ (b' = true ↔ Bef (S.1 47) (S.1 48) w 4 0))
  | 0, s, b, hb, hs, hn => by omega
  | n + 1, s, b, hb, hs, hn => by
    refine e_eq (f_M_has_M_startMany_M_startOn_L5.eq_2 _ _ _ _ _) ?_
    refine e_i (fun q => ?_) (fun q => ?_)
    · have : s = 4 := by
        rcases Nat.lt_or_ge s 4 with e | e
        · exact absurd q (nI_ge (b := 4) e (by omega))
        · omega
      subst this
      refine e_grd (by cases b <;> decide) ?_
      exact e_some ⟨rfl, b, rfl, hb⟩
    · have hs4 : s < 4 := by
        rcases Nat.lt_or_ge s 4 with e | e
        · exact e
        · exact absurd (nI_le (a := 4) e (by omega)) q
      have hm := ro_47 hW s
      refine has14_s hW hs4 (fun b' hb' => has5_s hW n (s + 1) b' hb' (by omega) (by omega)) NF 0 b hb (by have := hm.1; omega) ?_
      have := hm.2
      have : (NF : Int) = 100000 := rfl
      omega
/-- whether a WAGON stands there, told exactly -/
theorem u_has_s {S : SS} {w : Int32} (hW : WR S) : Ex2 (f_M_has_M_startMany_M_startOn w S) (fun r U => U = S ∧ ∃ b : Bool, r = bI b ∧ (b = true ↔ Bef (S.1 47) (S.1 48) w 4 0)) := by
  refine e_eq (f_M_has_M_startMany_M_startOn.eq_1 _ _) ?_
  refine has5_s hW NF 0 false ⟨(fun k => by cases k), fun k => ?_⟩ (by omega) (by have : NF = 100000 := rfl; omega)
  obtain ⟨s', i', h1, -⟩ := k
  omega
theorem has14_g {K : Int32 → Int32 → Int32 → SS → Option (Int32 × SS)} {S : SS} {w : Int32} {s : Nat} {P : Int32 → SS → Prop} (hW : WR S) (hs : s < 4) (hK : ∀ b : Bool, (b = true ↔ Bef (S.1 49) (S.1 50) w (s + 1) 0) → Ex2 (K w (bI b) (nI (s + 1)) S) P) : ∀ (n i : Nat) (b : Bool), (b = true ↔ Bef (S.1 49) (S.1 50) w s i) → (i : Int) ≤ (S.1 49 s).toInt → (S.1 49 s).toInt - i < (n : Int) → Ex2 (f_M_has_M_goalMany_M_goalOn_L14 K n w (bI b) (nI s) (nI i) S) P
  | 0, i, b, hb, hi, hn => by omega
  | n + 1, i, b, hb, hi, hn => by
    have hm := (ro_49 hW s).2
    have ti : (nI i).toInt = (i : Int) := nI_toInt (by omega)
    refine e_eq (f_M_has_M_goalMany_M_goalOn_L14.eq_2 _ _ _ _ _ _ _) ?_
    rw [nI_clamp (n := s) (by omega)]
    refine e_grd (inb_nI hs (by omega)) ?_
    refine e_i (fun q => ?_) (fun q => ?_)
    · refine e_nm ?_
      rw [nI_1]
      rw [Int32.le_iff_toInt_le, ti] at q
      refine hK b (hb.trans (Bef_end hs (by omega)))
    · rw [Int32.le_iff_toInt_le, ti] at q
      have again : ∀ b' : Bool, (b' = true ↔ Bef (S.1 49) (S.1 50) w s (i + 1)) → Ex2 (f_M_has_M_goalMany_M_goalOn_j46 (fun v0 v1 v2 v3 S => f_M_has_M_goalMany_M_goalOn_L14 K n v0 v1 v2 v3 S) w (nI s) (nI i) (bI b') S) P := fun b' hb' => by
        refine e_eq (f_M_has_M_goalMany_M_goalOn_j46.eq_1 _ _ _ _ _ _) ?_
        refine e_nm ?_
        rw [nI_1]
        exact has14_g hW hs hK n (i + 1) b' hb' (by omega) (by omega)
      cases hbb : b with
      | false =>
        subst hbb
        refine e_t rfl ?_
        have e : (10 : Int32) * nI s + nI i = nI (10 * s + i) := by
          rw [show (10 : Int32) * nI s = nI (10 * s) from nI_mul 10 s, nI_add]
        rw [e, nI_clamp (n := 10 * s + i) (by omega)]
        refine e_grd (inb_nI (by omega) (by omega)) ?_
        refine e_i (fun q2 => ?_) (fun q2 => ?_)
        · refine e_eq (f_M_has_M_goalMany_M_goalOn_j41.eq_1 _ _ _ _ _) ?_
          exact again true ⟨fun _ => ⟨s, i, Or.inr ⟨rfl, by omega⟩, hs, by omega, q2⟩, fun _ => rfl⟩
        · refine again false ⟨(fun k => by cases k), fun k => ?_⟩
          obtain ⟨s', i', h1, h2, h3, h4⟩ := k
          refine hb.mpr ⟨s', i', ?_, h2, h3, h4⟩
          rcases h1 with h1 | ⟨h1, h5⟩
          · exact Or.inl h1
          · refine Or.inr ⟨h1, ?_⟩
            by_cases e2 : i' = i
            · subst e2; subst h1; exact absurd h4 q2
            · omega
      | true =>
        subst hbb
        refine e_f (by decide) ?_
        refine e_eq (f_M_has_M_goalMany_M_goalOn_j41.eq_1 _ _ _ _ _) ?_
        refine again true ⟨fun _ => ?_, fun _ => rfl⟩
        obtain ⟨s', i', h1, h2, h3, h4⟩ := hb.mp rfl
        exact ⟨s', i', by omega, h2, h3, h4⟩
theorem has5_g {S : SS} {w : Int32} (hW : WR S) : ∀ (n s : Nat) (b : Bool), (b = true ↔ Bef (S.1 49) (S.1 50) w s 0) → s ≤ 4 → 4 < n + s → Ex2 (f_M_has_M_goalMany_M_goalOn_L5 n w (bI b) (nI s) S) (fun r U => U = S ∧ ∃ b' : Bool, r = bI b' ∧ (b' = true ↔ Bef (S.1 49) (S.1 50) w 4 0))
  | 0, s, b, hb, hs, hn => by omega
  | n + 1, s, b, hb, hs, hn => by
    refine e_eq (f_M_has_M_goalMany_M_goalOn_L5.eq_2 _ _ _ _ _) ?_
    refine e_i (fun q => ?_) (fun q => ?_)
    · have : s = 4 := by
        rcases Nat.lt_or_ge s 4 with e | e
        · exact absurd q (nI_ge (b := 4) e (by omega))
        · omega
      subst this
      refine e_grd (by cases b <;> decide) ?_
      exact e_some ⟨rfl, b, rfl, hb⟩
    · have hs4 : s < 4 := by
        rcases Nat.lt_or_ge s 4 with e | e
        · exact e
        · exact absurd (nI_le (a := 4) e (by omega)) q
      have hm := ro_49 hW s
      refine has14_g hW hs4 (fun b' hb' => has5_g hW n (s + 1) b' hb' (by omega) (by omega)) NF 0 b hb (by have := hm.1; omega) ?_
      have := hm.2
      have : (NF : Int) = 100000 := rfl
      omega
/-- whether a WAGON stands there, told exactly -/
theorem u_has_g {S : SS} {w : Int32} (hW : WR S) : Ex2 (f_M_has_M_goalMany_M_goalOn w S) (fun r U => U = S ∧ ∃ b : Bool, r = bI b ∧ (b = true ↔ Bef (S.1 49) (S.1 50) w 4 0)) := by
  refine e_eq (f_M_has_M_goalMany_M_goalOn.eq_1 _ _) ?_
  refine has5_g hW NF 0 false ⟨(fun k => by cases k), fun k => ?_⟩ (by omega) (by have : NF = 100000 := rfl; omega)
  obtain ⟨s', i', h1, -⟩ := k
  omega
/-- no WAGON stands twice -/
def DW (m o : Nat → Int32) : Prop := ∀ s i s' i' : Nat, s < 4 → s' < 4 → (i : Int) < (m s).toInt → (i' : Int) < (m s').toInt → o (10 * s + i) = o (10 * s' + i') → s = s' ∧ i = i'
def PL (S : SS) : Prop := (∀ s, s < 4 → (S.1 47 s).toInt ≤ (S.1 46 s).toInt ∧ (S.1 49 s).toInt ≤ (S.1 46 s).toInt) ∧ DW (S.1 47) (S.1 48) ∧ DW (S.1 49) (S.1 50)
theorem PL.of {S T : SS} (h : PL S) (e : ∀ k, k ∈ [46, 47, 48, 49, 50] → ∀ i, T.1 k i = S.1 k i) : PL T := by
  unfold PL
  rw [show T.1 46 = S.1 46 from funext (e 46 (by decide)), show T.1 47 = S.1 47 from funext (e 47 (by decide)), show T.1 48 = S.1 48 from funext (e 48 (by decide)), show T.1 49 = S.1 49 from funext (e 49 (by decide)), show T.1 50 = S.1 50 from funext (e 50 (by decide))]
  exact h
set_option maxHeartbeats 1000000 in
theorem p_laid_s {a3 a4 : Int32} {S : SS} (hW : WR S) (hP : PL S) : Ex2 (f_M_laid_M_startMany_M_startOn a3 a4 S) (fun r U => WR U ∧ PL U ∧ Fr [47, 48] [] S U) := by
  have hF : Fr [47, 48] [] S S := Fr.rf
  refine e_eq (f_M_laid_M_startMany_M_startOn.eq_1 _ _ _) ?_
  refine e_i (fun _ => e_some ⟨hW, hP, hF⟩) (fun q1 => ?_)
  refine e_i (fun _ => e_some ⟨hW, hP, hF⟩) (fun q2 => ?_)
  refine e_i (fun _ => e_some ⟨hW, hP, hF⟩) (fun q3 => ?_)
  refine e_i (fun _ => e_some ⟨hW, hP, hF⟩) (fun q4 => ?_)
  obtain ⟨s, rfl, -, hs1, -⟩ := rg_ex (nle_r 3 (rgl 4 4 4 rfl) (nlt_l (rgt a3) (rgl 0 0 0 rfl) q1) q2 rfl) (by omega)
  have h4 := nle_r 9 (rgl 10 10 10 rfl) (nlt_l (rgt a4) (rgl 0 0 0 rfl) q3) q4 rfl
  have hs : s < 4 := by omega
  refine e_cE (u_has_s hW) (fun r T p => ?_)
  obtain ⟨rfl, b, rfl, hb⟩ := p
  refine e_i (fun q5 => ?_) (fun _ => e_some ⟨hW, hP, hF⟩)
  have hno : ¬ Bef (T.1 47) (T.1 48) a4 4 0 := fun k => by
    rw [hb.mpr k] at q5
    exact absurd q5 (by decide)
  refine e_grd (inb_nI hs (by omega)) ?_
  refine e_grd (inb_nI hs (by omega)) ?_
  rw [nI_clamp (n := s) (by omega)]
  refine e_i (fun _ => e_some ⟨hW, hP, hF⟩) (fun q6 => ?_)
  have rm := ro_47 hW s
  have rr := ro_46 hW s
  have hle := (hP.1 s hs).1
  have r1 := rm.1; have r2 := rr.2
  rw [← Int32.toInt_inj] at q6
  obtain ⟨m, hm, -, hm1, hm2⟩ := rg_ex rm (by omega)
  have tm : (T.1 47 s).toInt = m := by rw [hm]; exact nI_toInt hm2
  refine e_grd (inb_nI hs (by omega)) ?_
  have e : (10 : Int32) * nI s + nI m = nI (10 * s + m) := by
    rw [show (10 : Int32) * nI s = nI (10 * s) from nI_mul 10 s, nI_add]
  rw [hm, e, nI_clamp (n := 10 * s + m) (by omega)]
  refine e_grd (inb_nI (by omega) (by omega)) ?_
  refine e_wrA (fun U1 e1 g1 v1 => ?_)
  have hW1 := wo_48 hW (h4.sub rfl) e1
  have k1 : U1.1 47 s = nI m := (g1.1 47 s rfl).trans hm
  refine e_grd (inb_nI hs (by omega)) ?_
  refine e_grd (inb_nI hs (by omega)) ?_
  refine e_wrA (fun U e2 g2 v2 => ?_)
  rw [k1, nI_1] at e2 v2
  have hW2 := wo_47 hW1 (rg_nI (j := m + 1) (by omega) (by omega) (by omega)) e2
  refine e_grd (inb_nI hs (by omega)) ?_
  have um : ∀ s', U.1 47 s' = if s' = s then nI (m + 1) else T.1 47 s' := fun s' => by
    rw [e2, st_at, if_pos rfl]
    by_cases c : s' = s
    · rw [if_pos c, if_pos c]
    · rw [if_neg c, if_neg c, g1.1 47 s' rfl]
  have uo : ∀ j, U.1 48 j = if j = 10 * s + m then a4 else T.1 48 j := fun j => by
    rw [g2.1 48 j rfl, e1, st_at, if_pos rfl]
  have hold : ∀ s' i' : Nat, s' < 4 → (i' : Int) < (T.1 47 s').toInt → (10 * s' + i' ≠ 10 * s + m) ∧ T.1 48 (10 * s' + i') ≠ a4 := fun s' i' h1 h2 => by
    have := (ro_47 hW s').2
    refine ⟨fun k => ?_, fun k => hno ⟨s', i', Or.inl h1, h1, h2, k⟩⟩
    have c1 : s' = s := by omega
    subst c1
    omega
  have tmm : (nI (m + 1)).toInt = (m : Int) + 1 := by rw [nI_toInt (by omega)]; omega
  refine e_some ⟨hW2, ⟨fun s' hs' => ?_, ?_, ?_⟩, (hF.tr g1 rfl).tr g2 rfl⟩
  · have h0 := hP.1 s' hs'
    rw [um, show U.1 46 s' = T.1 46 s' by rw [g2.1 46 s' rfl, g1.1 46 s' rfl], show U.1 49 s' = T.1 49 s' by rw [g2.1 49 s' rfl, g1.1 49 s' rfl]]
    by_cases c : s' = s
    · subst c
      rw [if_pos rfl, tmm]
      omega
    · rw [if_neg c]; exact h0
  · intro s1 i1 s2 i2 h1 h2 h3 h4' h5
    rw [um] at h3 h4'
    rw [uo, uo] at h5
    by_cases c1 : 10 * s1 + i1 = 10 * s + m
    · by_cases c2 : 10 * s2 + i2 = 10 * s + m
      · have b1 : (i1 : Int) ≤ 10 := by
          split at h3
          · rw [tmm] at h3; omega
          · have := (ro_47 hW s1).2; omega
        have b2 : (i2 : Int) ≤ 10 := by
          split at h4'
          · rw [tmm] at h4'; omega
          · have := (ro_47 hW s2).2; omega
        have d1 : s1 = s := by
          by_cases k : s1 = s
          · exact k
          · rw [if_neg k] at h3; exact absurd c1 (hold s1 i1 h1 h3).1
        have d2 : s2 = s := by
          by_cases k : s2 = s
          · exact k
          · rw [if_neg k] at h4'; exact absurd c2 (hold s2 i2 h2 h4').1
        omega
      · rw [if_pos c1, if_neg c2] at h5
        have d : (i2 : Int) < (T.1 47 s2).toInt := by
          by_cases k : s2 = s
          · rw [if_pos k, tmm] at h4'
            rw [k, tm]
            omega
          · rw [if_neg k] at h4'; exact h4'
        exact absurd h5.symm (hold s2 i2 h2 d).2
    · have d : (i1 : Int) < (T.1 47 s1).toInt := by
        by_cases k : s1 = s
        · rw [if_pos k, tmm] at h3
          rw [k, tm]
          omega
        · rw [if_neg k] at h3; exact h3
      by_cases c2 : 10 * s2 + i2 = 10 * s + m
      · rw [if_neg c1, if_pos c2] at h5
        exact absurd h5 (hold s1 i1 h1 d).2
      · rw [if_neg c1, if_neg c2] at h5
        have d2 : (i2 : Int) < (T.1 47 s2).toInt := by
          by_cases k : s2 = s
          · rw [if_pos k, tmm] at h4'
            rw [k, tm]
            omega
          · rw [if_neg k] at h4'; exact h4'
        exact hP.2.1 s1 i1 s2 i2 h1 h2 d d2 h5
  · have c1 : U.1 49 = T.1 49 := funext fun j => by rw [g2.1 49 j rfl, g1.1 49 j rfl]
    have c2 : U.1 50 = T.1 50 := funext fun j => by rw [g2.1 50 j rfl, g1.1 50 j rfl]
    rw [c1, c2]
    exact hP.2.2
set_option maxHeartbeats 1000000 in
theorem p_laid_g {a3 a4 : Int32} {S : SS} (hW : WR S) (hP : PL S) : Ex2 (f_M_laid_M_goalMany_M_goalOn a3 a4 S) (fun r U => WR U ∧ PL U ∧ Fr [49, 50] [] S U) := by
  have hF : Fr [49, 50] [] S S := Fr.rf
  refine e_eq (f_M_laid_M_goalMany_M_goalOn.eq_1 _ _ _) ?_
  refine e_i (fun _ => e_some ⟨hW, hP, hF⟩) (fun q1 => ?_)
  refine e_i (fun _ => e_some ⟨hW, hP, hF⟩) (fun q2 => ?_)
  refine e_i (fun _ => e_some ⟨hW, hP, hF⟩) (fun q3 => ?_)
  refine e_i (fun _ => e_some ⟨hW, hP, hF⟩) (fun q4 => ?_)
  obtain ⟨s, rfl, -, hs1, -⟩ := rg_ex (nle_r 3 (rgl 4 4 4 rfl) (nlt_l (rgt a3) (rgl 0 0 0 rfl) q1) q2 rfl) (by omega)
  have h4 := nle_r 9 (rgl 10 10 10 rfl) (nlt_l (rgt a4) (rgl 0 0 0 rfl) q3) q4 rfl
  have hs : s < 4 := by omega
  refine e_cE (u_has_g hW) (fun r T p => ?_)
  obtain ⟨rfl, b, rfl, hb⟩ := p
  refine e_i (fun q5 => ?_) (fun _ => e_some ⟨hW, hP, hF⟩)
  have hno : ¬ Bef (T.1 49) (T.1 50) a4 4 0 := fun k => by
    rw [hb.mpr k] at q5
    exact absurd q5 (by decide)
  refine e_grd (inb_nI hs (by omega)) ?_
  refine e_grd (inb_nI hs (by omega)) ?_
  rw [nI_clamp (n := s) (by omega)]
  refine e_i (fun _ => e_some ⟨hW, hP, hF⟩) (fun q6 => ?_)
  have rm := ro_49 hW s
  have rr := ro_46 hW s
  have hle := (hP.1 s hs).2
  have r1 := rm.1; have r2 := rr.2
  rw [← Int32.toInt_inj] at q6
  obtain ⟨m, hm, -, hm1, hm2⟩ := rg_ex rm (by omega)
  have tm : (T.1 49 s).toInt = m := by rw [hm]; exact nI_toInt hm2
  refine e_grd (inb_nI hs (by omega)) ?_
  have e : (10 : Int32) * nI s + nI m = nI (10 * s + m) := by
    rw [show (10 : Int32) * nI s = nI (10 * s) from nI_mul 10 s, nI_add]
  rw [hm, e, nI_clamp (n := 10 * s + m) (by omega)]
  refine e_grd (inb_nI (by omega) (by omega)) ?_
  refine e_wrA (fun U1 e1 g1 v1 => ?_)
  have hW1 := wo_50 hW (h4.sub rfl) e1
  have k1 : U1.1 49 s = nI m := (g1.1 49 s rfl).trans hm
  refine e_grd (inb_nI hs (by omega)) ?_
  refine e_grd (inb_nI hs (by omega)) ?_
  refine e_wrA (fun U e2 g2 v2 => ?_)
  rw [k1, nI_1] at e2 v2
  have hW2 := wo_49 hW1 (rg_nI (j := m + 1) (by omega) (by omega) (by omega)) e2
  refine e_grd (inb_nI hs (by omega)) ?_
  have um : ∀ s', U.1 49 s' = if s' = s then nI (m + 1) else T.1 49 s' := fun s' => by
    rw [e2, st_at, if_pos rfl]
    by_cases c : s' = s
    · rw [if_pos c, if_pos c]
    · rw [if_neg c, if_neg c, g1.1 49 s' rfl]
  have uo : ∀ j, U.1 50 j = if j = 10 * s + m then a4 else T.1 50 j := fun j => by
    rw [g2.1 50 j rfl, e1, st_at, if_pos rfl]
  have hold : ∀ s' i' : Nat, s' < 4 → (i' : Int) < (T.1 49 s').toInt → (10 * s' + i' ≠ 10 * s + m) ∧ T.1 50 (10 * s' + i') ≠ a4 := fun s' i' h1 h2 => by
    have := (ro_49 hW s').2
    refine ⟨fun k => ?_, fun k => hno ⟨s', i', Or.inl h1, h1, h2, k⟩⟩
    have c1 : s' = s := by omega
    subst c1
    omega
  have tmm : (nI (m + 1)).toInt = (m : Int) + 1 := by rw [nI_toInt (by omega)]; omega
  refine e_some ⟨hW2, ⟨fun s' hs' => ?_, ?_, ?_⟩, (hF.tr g1 rfl).tr g2 rfl⟩
  · have h0 := hP.1 s' hs'
    rw [um, show U.1 46 s' = T.1 46 s' by rw [g2.1 46 s' rfl, g1.1 46 s' rfl], show U.1 47 s' = T.1 47 s' by rw [g2.1 47 s' rfl, g1.1 47 s' rfl]]
    by_cases c : s' = s
    · subst c
      rw [if_pos rfl, tmm]
      omega
    · rw [if_neg c]; exact h0
  · have c1 : U.1 47 = T.1 47 := funext fun j => by rw [g2.1 47 j rfl, g1.1 47 j rfl]
    have c2 : U.1 48 = T.1 48 := funext fun j => by rw [g2.1 48 j rfl, g1.1 48 j rfl]
    rw [c1, c2]
    exact hP.2.1
  · intro s1 i1 s2 i2 h1 h2 h3 h4' h5
    rw [um] at h3 h4'
    rw [uo, uo] at h5
    by_cases c1 : 10 * s1 + i1 = 10 * s + m
    · by_cases c2 : 10 * s2 + i2 = 10 * s + m
      · have b1 : (i1 : Int) ≤ 10 := by
          split at h3
          · rw [tmm] at h3; omega
          · have := (ro_49 hW s1).2; omega
        have b2 : (i2 : Int) ≤ 10 := by
          split at h4'
          · rw [tmm] at h4'; omega
          · have := (ro_49 hW s2).2; omega
        have d1 : s1 = s := by
          by_cases k : s1 = s
          · exact k
          · rw [if_neg k] at h3; exact absurd c1 (hold s1 i1 h1 h3).1
        have d2 : s2 = s := by
          by_cases k : s2 = s
          · exact k
          · rw [if_neg k] at h4'; exact absurd c2 (hold s2 i2 h2 h4').1
        omega
      · rw [if_pos c1, if_neg c2] at h5
        have d : (i2 : Int) < (T.1 49 s2).toInt := by
          by_cases k : s2 = s
          · rw [if_pos k, tmm] at h4'
            rw [k, tm]
            omega
          · rw [if_neg k] at h4'; exact h4'
        exact absurd h5.symm (hold s2 i2 h2 d).2
    · have d : (i1 : Int) < (T.1 49 s1).toInt := by
        by_cases k : s1 = s
        · rw [if_pos k, tmm] at h3
          rw [k, tm]
          omega
        · rw [if_neg k] at h3; exact h3
      by_cases c2 : 10 * s2 + i2 = 10 * s + m
      · rw [if_neg c1, if_pos c2] at h5
        exact absurd h5 (hold s1 i1 h1 d).2
      · rw [if_neg c1, if_neg c2] at h5
        have d2 : (i2 : Int) < (T.1 49 s2).toInt := by
          by_cases k : s2 = s
          · rw [if_pos k, tmm] at h4'
            rw [k, tm]
            omega
          · rw [if_neg k] at h4'; exact h4'
        exact hP.2.2 s1 i1 s2 i2 h1 h2 d d2 h5
theorem p_M_lay {a1 a2 a3 : Int32} {S : SS} (hW : WR S) (hP : PL S) : Ex2 (f_M_lay a1 a2 a3 S) (fun r U => WR U ∧ PL U ∧ Fr [47, 48, 49, 50] [] S U) := by
  have hF : Fr [47, 48, 49, 50] [] S S := Fr.rf
  refine e_eq (f_M_lay.eq_1 _ _ _ _) ?_
  refine e_i (fun _ => ?_) (fun _ => ?_)
  · refine e_cE (p_laid_s hW hP) (fun r T p => ?_)
    exact e_some ⟨p.1, p.2.1, hF.tr p.2.2 rfl⟩
  · refine e_cE (p_laid_g hW hP) (fun r T p => ?_)
    exact e_some ⟨p.1, p.2.1, hF.tr p.2.2 rfl⟩
theorem p_M_room {a1 a2 : Int32} {S : SS} (hW : WR S) (hP : PL S) : Ex2 (f_M_room a1 a2 S) (fun r U => WR U ∧ PL U ∧ Fr [46] [] S U) := by
  have hF : Fr [46] [] S S := Fr.rf
  refine e_eq (f_M_room.eq_1 _ _ _) ?_
  refine e_i (fun _ => e_some ⟨hW, hP, hF⟩) (fun q1 => ?_)
  refine e_i (fun _ => e_some ⟨hW, hP, hF⟩) (fun q2 => ?_)
  refine e_i (fun _ => e_some ⟨hW, hP, hF⟩) (fun q3 => ?_)
  refine e_i (fun _ => e_some ⟨hW, hP, hF⟩) (fun q4 => ?_)
  obtain ⟨s, rfl, -, hs1, -⟩ := rg_ex (nle_r 3 (rgl 4 4 4 rfl) (nlt_l (rgt a1) (rgl 0 0 0 rfl) q1) q2 rfl) (by omega)
  have h2 := nlt_r (rgl 10 10 10 rfl) (nlt_l (rgt a2) (rgl 1 1 1 rfl) q3) q4
  have hs : s < 4 := by omega
  refine e_grd (inb_nI hs (by omega)) ?_
  rw [nI_clamp (n := s) (by omega)]
  refine e_i (fun _ => e_some ⟨hW, hP, hF⟩) (fun q5 => ?_)
  refine e_grd (inb_nI hs (by omega)) ?_
  refine e_i (fun q6 => ?_) (fun _ => e_some ⟨hW, hP, hF⟩)
  refine e_grd (inb_nI hs (by omega)) ?_
  refine e_nm ?_
  refine e_grd (inb_nI hs (by omega)) ?_
  refine e_wrA (fun U e g v => ?_)
  rw [Int32.lt_iff_toInt_lt] at q5
  rw [Int32.le_iff_toInt_le] at q6
  refine e_some ⟨wo_46 hW (h2.sub rfl) e, ⟨fun s' hs' => ?_, ?_, ?_⟩, hF.tr g rfl⟩
  · rw [g.1 47 s' rfl, g.1 49 s' rfl, e, st_at, if_pos rfl]
    by_cases c : s' = s
    · subst c
      rw [if_pos rfl]
      omega
    · rw [if_neg c]; exact hP.1 s' hs'
  · rw [show U.1 47 = S.1 47 from funext fun j => g.1 47 j rfl, show U.1 48 = S.1 48 from funext fun j => g.1 48 j rfl]
    exact hP.2.1
  · rw [show U.1 49 = S.1 49 from funext fun j => g.1 49 j rfl, show U.1 50 = S.1 50 from funext fun j => g.1 50 j rfl]
    exact hP.2.2
theorem wi_L10 {S0 : SS} {x1 : Int32} : ∀ (n k : Nat) (S : SS), WR S → Fr [47, 49] [(0, 76), (0, 77)] S0 S → (∀ s, s < k → S.1 47 s = 0 ∧ S.1 49 s = 0) → k ≤ 4 → 4 < n + k → Ex2 (f_M_wipe_L10 n x1 (nI k) S) (fun r U => WR U ∧ PL U ∧ Fr [47, 49] [(0, 76), (0, 77)] S0 U)
  | 0, k, S, hW, hF, h, hk, hn => by omega
  | n + 1, k, S, hW, hF, h, hk, hn => by
    refine e_eq (f_M_wipe_L10.eq_2 _ _ _ _) ?_
    refine e_i (fun q => ?_) (fun q => ?_)
    · have : k = 4 := by
        rcases Nat.lt_or_ge k 4 with e | e
        · exact absurd q (nI_ge (b := 4) e (by omega))
        · omega
      subst this
      refine e_wrO (fun T1 e1 g1 v1 => ?_)
      have hW1 := WR.st (k := 0) (i := 76) hW trivial rfl e1
      refine e_wrO (fun T2 e2 g2 v2 => ?_)
      have hW2 := wo_0_77 hW1 (rgl 0 0 399 rfl) e2
      have z : ∀ s, s < 4 → (T2.1 47 s).toInt = 0 ∧ (T2.1 49 s).toInt = 0 := fun s hs => by
        rw [g2.1 47 s rfl, g1.1 47 s rfl, g2.1 49 s rfl, g1.1 49 s rfl, (h s hs).1, (h s hs).2]
        exact ⟨Int32.toInt_zero, Int32.toInt_zero⟩
      refine e_some ⟨hW2, ⟨fun s hs => ?_, fun s i s' i' h1 h2 h3 h4 _ => ?_, fun s i s' i' h1 h2 h3 h4 _ => ?_⟩, (hF.tr g1 rfl).tr g2 rfl⟩
      · have := (ro_46 hW2 s).1
        have := z s hs
        omega
      · have := z s h1
        omega
      · have := z s h1
        omega
    · have hk4 : k < 4 := by
        rcases Nat.lt_or_ge k 4 with e | e
        · exact e
        · exact absurd (nI_le (a := 4) e (by omega)) q
      refine e_grd (inb_nI hk4 (by omega)) ?_
      rw [nI_clamp (n := k) (by omega)]
      refine e_wrA (fun T1 e1 g1 v1 => ?_)
      have hW1 := wo_47 hW (rgl 0 0 10 rfl) e1
      refine e_grd (inb_nI hk4 (by omega)) ?_
      refine e_wrA (fun T2 e2 g2 v2 => ?_)
      have hW2 := wo_49 hW1 (rgl 0 0 10 rfl) e2
      refine e_nm ?_
      rw [nI_1]
      refine wi_L10 n (k + 1) T2 hW2 ((hF.tr g1 rfl).tr g2 rfl) (fun s hs => ?_) (by omega) (by omega)
      rw [g2.1 47 s rfl, e2, st_at, if_pos rfl, g1.1 49 s rfl, e1, st_at, if_pos rfl]
      by_cases c : s = k
      · rw [if_pos c, if_pos c]; exact ⟨rfl, rfl⟩
      · rw [if_neg c, if_neg c]; exact h s (by omega)
theorem p_M_wipe {S : SS} (hW : WR S) : Ex2 (f_M_wipe S) (fun r U => WR U ∧ PL U ∧ Fr [47, 49] [(0, 76), (0, 77)] S U) := by
  have hF : Fr [47, 49] [(0, 76), (0, 77)] S S := Fr.rf
  refine e_eq (f_M_wipe.eq_1 _) ?_
  refine e_cE (t_M_sumOf_M_startMany hW) (fun r T p => ?_)
  obtain ⟨-, g, -⟩ := p
  have := (fr_nil g).symm
  subst this
  exact wi_L10 NF 0 S hW hF (fun s hs => by omega) (by omega) (by have : NF = 100000 := rfl; omega)
end
section
/-! ===== STACKS as lists: MOVES, and how far one row of STACKS is from another ===== -/
abbrev Cf : Type := Nat → List Nat
def mvd (a b n : Nat) (X : Cf) : Cf := fun s => if s = a then (X a).take ((X a).length - n) else if s = b then X b ++ (X a).drop ((X a).length - n) else X s
def Mv (R : Nat → Nat) (X Z : Cf) : Prop := ∃ a b n : Nat, a < 4 ∧ b < 4 ∧ a ≠ b ∧ 1 ≤ n ∧ n ≤ (X a).length ∧ (X b).length + n ≤ R b ∧ Z = mvd a b n X
/-- at most k MOVES lead there -/
def Rc (R : Nat → Nat) : Nat → Cf → Cf → Prop
  | 0, X, Y => X = Y
  | k + 1, X, Y => X = Y ∨ ∃ Z, Mv R X Z ∧ Rc R k Z Y
def Fit (R : Nat → Nat) (X : Cf) : Prop := ∀ s, s < 4 → (X s).length ≤ R s
def tot (X : Cf) : Nat := (X 0).length + (X 1).length + (X 2).length + (X 3).length
theorem mvd_len {a b n : Nat} {X : Cf} (hab : a ≠ b) (hn : n ≤ (X a).length) (s : Nat) : (mvd a b n X s).length = if s = a then (X a).length - n else if s = b then (X b).length + n else (X s).length := by
  unfold mvd
  by_cases h1 : s = a
  · rw [if_pos h1, if_pos h1, List.length_take]; omega
  · rw [if_neg h1, if_neg h1]
    by_cases h2 : s = b
    · rw [if_pos h2, if_pos h2, List.length_append, List.length_drop]; omega
    · rw [if_neg h2, if_neg h2]
theorem Mv.fit {R : Nat → Nat} {X Z : Cf} (hf : Fit R X) (h : Mv R X Z) : Fit R Z := by
  obtain ⟨a, b, n, ha, hb, hab, h1, h2, h3, rfl⟩ := h
  intro s hs
  rw [mvd_len hab h2]
  have := hf s hs
  by_cases c1 : s = a
  · subst c1; rw [if_pos rfl]; omega
  · rw [if_neg c1]
    by_cases c2 : s = b
    · subst c2; rw [if_pos rfl]; omega
    · rw [if_neg c2]; exact this
theorem mv_tot {R : Nat → Nat} {X Z : Cf} (h : Mv R X Z) : tot Z = tot X := by
  obtain ⟨a, b, n, ha, hb, hab, h1, h2, h3, rfl⟩ := h
  unfold tot
  rw [mvd_len hab h2, mvd_len hab h2, mvd_len hab h2, mvd_len hab h2]
  rcases (show a = 0 ∨ a = 1 ∨ a = 2 ∨ a = 3 by omega) with rfl | rfl | rfl | rfl <;> rcases (show b = 0 ∨ b = 1 ∨ b = 2 ∨ b = 3 by omega) with rfl | rfl | rfl | rfl <;> simp at hab h2 ⊢ <;> omega
theorem mvd_rev {a b n : Nat} {X : Cf} (hab : a ≠ b) (hn : n ≤ (X a).length) : mvd b a n (mvd a b n X) = X := by
  have e1 : mvd a b n X b = X b ++ (X a).drop ((X a).length - n) := by
    unfold mvd; rw [if_neg (Ne.symm hab), if_pos rfl]
  have e2 : mvd a b n X a = (X a).take ((X a).length - n) := by
    unfold mvd; rw [if_pos rfl]
  have l1 : (mvd a b n X b).length - n = (X b).length := by
    rw [e1, List.length_append, List.length_drop]; omega
  funext s
  show (if s = b then (mvd a b n X b).take ((mvd a b n X b).length - n) else if s = a then mvd a b n X a ++ (mvd a b n X b).drop ((mvd a b n X b).length - n) else mvd a b n X s) = X s
  rw [l1]
  by_cases c1 : s = b
  · subst c1
    rw [if_pos rfl, e1, List.take_left]
  · rw [if_neg c1]
    by_cases c2 : s = a
    · subst c2
      rw [if_pos rfl, e1, e2, List.drop_left, List.take_append_drop]
    · rw [if_neg c2]
      unfold mvd
      rw [if_neg c2, if_neg c1]
theorem Mv.rev {R : Nat → Nat} {X Z : Cf} (hf : Fit R X) (h : Mv R X Z) : Mv R Z X := by
  obtain ⟨a, b, n, ha, hb, hab, h1, h2, h3, rfl⟩ := h
  refine ⟨b, a, n, hb, ha, Ne.symm hab, h1, ?_, ?_, (mvd_rev hab h2).symm⟩
  · rw [mvd_len hab h2, if_neg (Ne.symm hab), if_pos rfl]; omega
  · rw [mvd_len hab h2, if_pos rfl]
    have := hf a ha
    omega
theorem Rc.refl (R : Nat → Nat) (k : Nat) (X : Cf) : Rc R k X X := by
  cases k with
  | zero => rfl
  | succ k => exact Or.inl rfl
theorem Rc.mono {R : Nat → Nat} : ∀ {k l : Nat} {X Y : Cf}, k ≤ l → Rc R k X Y → Rc R l X Y
  | 0, l, X, Y, _, h => by
    have h : X = Y := h
    subst h; exact Rc.refl R l X
  | k + 1, 0, X, Y, hl, h => by omega
  | k + 1, l + 1, X, Y, hl, h => by
    rcases h with h | ⟨Z, h1, h2⟩
    · exact Or.inl h
    · exact Or.inr ⟨Z, h1, Rc.mono (by omega) h2⟩
theorem Rc.trans {R : Nat → Nat} : ∀ {k l : Nat} {X Y Z : Cf}, Rc R k X Y → Rc R l Y Z → Rc R (k + l) X Z
  | 0, l, X, Y, Z, h1, h2 => by
    have h1 : X = Y := h1
    subst h1; rw [Nat.zero_add]; exact h2
  | k + 1, l, X, Y, Z, h1, h2 => by
    rcases h1 with h1 | ⟨V, h1, h3⟩
    · subst h1; exact Rc.mono (by omega) h2
    · rw [show k + 1 + l = (k + l) + 1 by omega]
      exact Or.inr ⟨V, h1, Rc.trans h3 h2⟩
theorem Rc.one {R : Nat → Nat} {X Y : Cf} (h : Mv R X Y) : Rc R 1 X Y := Or.inr ⟨Y, h, rfl⟩
theorem Rc.fit {R : Nat → Nat} : ∀ {k : Nat} {X Y : Cf}, Fit R X → Rc R k X Y → Fit R Y
  | 0, X, Y, hf, h => by
    have h : X = Y := h
    subst h; exact hf
  | k + 1, X, Y, hf, h => by
    rcases h with h | ⟨Z, h1, h2⟩
    · subst h; exact hf
    · exact Rc.fit (h1.fit hf) h2
theorem rc_tot {R : Nat → Nat} : ∀ {k : Nat} {X Y : Cf}, Rc R k X Y → tot Y = tot X
  | 0, X, Y, h => by
    have h : X = Y := h
    subst h; rfl
  | k + 1, X, Y, h => by
    rcases h with h | ⟨Z, h1, h2⟩
    · subst h; rfl
    · rw [rc_tot h2, mv_tot h1]
theorem Rc.rev {R : Nat → Nat} : ∀ {k : Nat} {X Y : Cf}, Fit R X → Rc R k X Y → Rc R k Y X
  | 0, X, Y, hf, h => by
    have h : X = Y := h
    exact h.symm
  | k + 1, X, Y, hf, h => by
    rcases h with h | ⟨Z, h1, h2⟩
    · subst h; exact Rc.refl R _ X
    · exact Rc.trans (Rc.rev (h1.fit hf) h2) (Rc.one (h1.rev hf))
theorem Mv.le {R R' : Nat → Nat} (hR : ∀ s, s < 4 → R s ≤ R' s) {X Z : Cf} (h : Mv R X Z) : Mv R' X Z := by
  obtain ⟨a, b, n, ha, hb, hab, h1, h2, h3, rfl⟩ := h
  exact ⟨a, b, n, ha, hb, hab, h1, h2, Nat.le_trans h3 (hR b hb), rfl⟩
theorem Rc.le {R R' : Nat → Nat} (hR : ∀ s, s < 4 → R s ≤ R' s) : ∀ {k : Nat} {X Y : Cf}, Rc R k X Y → Rc R' k X Y
  | 0, X, Y, h => h
  | k + 1, X, Y, h => by
    rcases h with h | ⟨Z, h1, h2⟩
    · exact Or.inl h
    · exact Or.inr ⟨Z, h1.le hR, Rc.le hR h2⟩
def mpc (f : Nat → Nat) (X : Cf) : Cf := fun s => (X s).map f
theorem mvd_map (f : Nat → Nat) (a b n : Nat) (X : Cf) : mvd a b n (mpc f X) = mpc f (mvd a b n X) := by
  funext s
  show (if s = a then ((X a).map f).take (((X a).map f).length - n) else if s = b then (X b).map f ++ ((X a).map f).drop (((X a).map f).length - n) else (X s).map f) = (if s = a then (X a).take ((X a).length - n) else if s = b then X b ++ (X a).drop ((X a).length - n) else X s).map f
  rw [List.length_map]
  by_cases c1 : s = a
  · rw [if_pos c1, if_pos c1, List.map_take]
  · rw [if_neg c1, if_neg c1]
    by_cases c2 : s = b
    · rw [if_pos c2, if_pos c2, List.map_append, List.map_drop]
    · rw [if_neg c2, if_neg c2]
theorem Mv.map {R : Nat → Nat} (f : Nat → Nat) {X Z : Cf} (h : Mv R X Z) : Mv R (mpc f X) (mpc f Z) := by
  obtain ⟨a, b, n, ha, hb, hab, h1, h2, h3, rfl⟩ := h
  refine ⟨a, b, n, ha, hb, hab, h1, ?_, ?_, (mvd_map f a b n X).symm⟩
  · show n ≤ ((X a).map f).length
    rw [List.length_map]; exact h2
  · show ((X b).map f).length + n ≤ R b
    rw [List.length_map]; exact h3
theorem Rc.map {R : Nat → Nat} (f : Nat → Nat) : ∀ {k : Nat} {X Y : Cf}, Rc R k X Y → Rc R k (mpc f X) (mpc f Y)
  | 0, X, Y, h => by
    have h : X = Y := h
    subst h; rfl
  | k + 1, X, Y, h => by
    rcases h with h | ⟨Z, h1, h2⟩
    · subst h; exact Or.inl rfl
    · exact Or.inr ⟨_, h1.map f, Rc.map f h2⟩
/-! a lowest WAGON that never moves -/
def csC (s b : Nat) (X : Cf) : Cf := fun t => if t = s then b :: X s else X t
def Rd (s : Nat) (R : Nat → Nat) : Nat → Nat := fun t => if t = s then R s - 1 else R t
theorem csC_self (s b : Nat) (X : Cf) : csC s b X s = b :: X s := by unfold csC; rw [if_pos rfl]
theorem csC_ne {s t : Nat} (b : Nat) (X : Cf) (h : t ≠ s) : csC s b X t = X t := by unfold csC; rw [if_neg h]
theorem mvd_cs {s w a b n : Nat} {X : Cf} (hab : a ≠ b) (hn : n ≤ (X a).length) : mvd a b n (csC s w X) = csC s w (mvd a b n X) := by
  funext t
  by_cases ca : a = s
  · subst ca
    have l : (csC a w X a).length - n = ((X a).length - n) + 1 := by rw [csC_self, List.length_cons]; omega
    by_cases c1 : t = a
    · subst c1
      rw [csC_self]
      unfold mvd
      rw [if_pos rfl, if_pos rfl, l, csC_self, List.take_succ_cons]
    · rw [csC_ne _ _ c1]
      unfold mvd
      rw [if_neg c1, if_neg c1]
      by_cases c2 : t = b
      · subst c2
        rw [if_pos rfl, if_pos rfl, l, csC_self, List.drop_succ_cons, csC_ne _ _ c1]
      · rw [if_neg c2, if_neg c2, csC_ne _ _ c1]
  · have ea : csC s w X a = X a := csC_ne _ _ ca
    by_cases c1 : t = a
    · subst c1
      rw [csC_ne _ _ ca]
      unfold mvd
      rw [if_pos rfl, if_pos rfl, ea]
    · by_cases c2 : t = b
      · subst c2
        by_cases cs : t = s
        · subst cs
          rw [csC_self]
          unfold mvd
          rw [if_neg c1, if_pos rfl, if_neg c1, if_pos rfl, ea, csC_self, List.cons_append]
        · rw [csC_ne _ _ cs]
          unfold mvd
          rw [if_neg c1, if_pos rfl, if_neg c1, if_pos rfl, ea, csC_ne _ _ cs]
      · by_cases cs : t = s
        · subst cs
          rw [csC_self]
          unfold mvd
          rw [if_neg c1, if_neg c2, if_neg c1, if_neg c2, csC_self]
        · rw [csC_ne _ _ cs]
          unfold mvd
          rw [if_neg c1, if_neg c2, if_neg c1, if_neg c2, csC_ne _ _ cs]
theorem Mv.cs {R : Nat → Nat} {s w : Nat} (hR : 1 ≤ R s) {X Z : Cf} (h : Mv (Rd s R) X Z) : Mv R (csC s w X) (csC s w Z) := by
  obtain ⟨a, b, n, ha, hb, hab, h1, h2, h3, rfl⟩ := h
  refine ⟨a, b, n, ha, hb, hab, h1, ?_, ?_, (mvd_cs hab h2).symm⟩
  · by_cases c : a = s
    · subst c; rw [csC_self, List.length_cons]; omega
    · rw [csC_ne _ _ c]; exact h2
  · unfold Rd at h3
    by_cases c : b = s
    · subst c; rw [csC_self, List.length_cons]; rw [if_pos rfl] at h3; omega
    · rw [csC_ne _ _ c]; rw [if_neg c] at h3; exact h3
theorem Rc.cs {R : Nat → Nat} {s w : Nat} (hR : 1 ≤ R s) : ∀ {k : Nat} {X Y : Cf}, Rc (Rd s R) k X Y → Rc R k (csC s w X) (csC s w Y)
  | 0, X, Y, h => by
    have h : X = Y := h
    subst h; rfl
  | k + 1, X, Y, h => by
    rcases h with h | ⟨Z, h1, h2⟩
    · subst h; exact Or.inl rfl
    · exact Or.inr ⟨_, h1.cs hR, Rc.cs hR h2⟩
/-- the ROOM of the other STACKS -/
def oth (s : Nat) (R : Nat → Nat) : Nat := (if s = 0 then 0 else R 0) + (if s = 1 then 0 else R 1) + (if s = 2 then 0 else R 2) + (if s = 3 then 0 else R 3)
theorem oth_ne {s : Nat} {R : Nat → Nat} {X : Cf} (hs : s < 4) (hf : Fit R X) (h : oth s R < tot X) : ∃ w xs, X s = w :: xs := by
  have h0 := hf 0 (by omega); have h1 := hf 1 (by omega); have h2 := hf 2 (by omega); have h3 := hf 3 (by omega)
  cases e : X s with
  | cons w xs => exact ⟨w, xs, rfl⟩
  | nil =>
    have l : (X s).length = 0 := by rw [e]; rfl
    unfold oth tot at h
    rcases (show s = 0 ∨ s = 1 ∨ s = 2 ∨ s = 3 by omega) with rfl | rfl | rfl | rfl <;> simp at h <;> omega
theorem csC_inj {s w w' : Nat} {X Y : Cf} (h : csC s w X = csC s w' Y) : w = w' ∧ X = Y := by
  have hs : w :: X s = w' :: Y s := by
    have := congrFun h s
    rw [csC_self, csC_self] at this
    exact this
  injection hs with h1 h2
  refine ⟨h1, funext fun t => ?_⟩
  by_cases c : t = s
  · subst c; exact h2
  · have := congrFun h t
    rw [csC_ne _ _ c, csC_ne _ _ c] at this
    exact this
theorem csC_of {s w : Nat} {xs : List Nat} {X : Cf} (h : X s = w :: xs) : X = csC s w (fun t => if t = s then xs else X t) := by
  funext t
  by_cases c : t = s
  · subst c; rw [csC_self, if_pos rfl]; exact h
  · rw [csC_ne _ _ c, if_neg c]
theorem tot_cs {s w : Nat} {X : Cf} (hs : s < 4) : tot (csC s w X) = tot X + 1 := by
  unfold tot csC
  rcases (show s = 0 ∨ s = 1 ∨ s = 2 ∨ s = 3 by omega) with rfl | rfl | rfl | rfl <;> simp <;> omega
theorem Fit.un {R : Nat → Nat} {s w : Nat} {X : Cf} (hs : s < 4) (h : Fit R (csC s w X)) : Fit (Rd s R) X := by
  intro t ht
  have := h t ht
  unfold Rd
  by_cases c : t = s
  · subst c; rw [if_pos rfl]; rw [csC_self, List.length_cons] at this; omega
  · rw [if_neg c]; rw [csC_ne _ _ c] at this; exact this
theorem Mv.un {R : Nat → Nat} {s w : Nat} {X Z : Cf} (hs : s < 4) (hf : Fit R (csC s w X)) (hO : oth s R < tot (csC s w X)) (h : Mv R (csC s w X) Z) : ∃ Z', Z = csC s w Z' ∧ Mv (Rd s R) X Z' := by
  have hZf := h.fit hf
  have hZt := mv_tot h
  obtain ⟨w', zs, hz⟩ := oth_ne hs hZf (by rw [hZt]; exact hO)
  obtain ⟨a, b, n, ha, hb, hab, h1, h2, h3, rfl⟩ := h
  have hn : n ≤ (X a).length := by
    by_cases c : a = s
    · subst c
      rw [csC_self, List.length_cons] at h2
      have l := mvd_len hab (X := csC a w X) (n := n) (by rw [csC_self, List.length_cons]; exact h2) a
      rw [hz, if_pos rfl, csC_self, List.length_cons, List.length_cons] at l
      omega
    · rw [csC_ne _ _ c] at h2; exact h2
  refine ⟨mvd a b n X, mvd_cs hab hn, a, b, n, ha, hb, hab, h1, hn, ?_, rfl⟩
  unfold Rd
  by_cases c : b = s
  · subst c; rw [if_pos rfl]; rw [csC_self, List.length_cons] at h3; omega
  · rw [if_neg c]; rw [csC_ne _ _ c] at h3; exact h3
theorem Rc.un {R : Nat → Nat} {s w : Nat} (hs : s < 4) : ∀ {k : Nat} {X Y : Cf}, Fit R (csC s w X) → oth s R < tot (csC s w X) → Rc R k (csC s w X) Y → ∃ Y', Y = csC s w Y' ∧ Rc (Rd s R) k X Y'
  | 0, X, Y, hf, hO, h => ⟨X, (show csC s w X = Y from h).symm, rfl⟩
  | k + 1, X, Y, hf, hO, h => by
    rcases h with h | ⟨Z, h1, h2⟩
    · exact ⟨X, h.symm, Or.inl rfl⟩
    · have hZt := mv_tot h1
      have hZf := h1.fit hf
      obtain ⟨Z', rfl, h3⟩ := h1.un hs hf hO
      obtain ⟨Y', rfl, h4⟩ := Rc.un hs hZf (by rw [hZt]; exact hO) h2
      exact ⟨Y', rfl, Or.inr ⟨Z', h3, h4⟩⟩
def Flat (X : Cf) : List Nat := X 0 ++ X 1 ++ X 2 ++ X 3
theorem ct_split (l : List Nat) (n w : Nat) : (l.take n).count w + (l.drop n).count w = l.count w := by
  rw [← List.count_append, List.take_append_drop]
theorem mv_count {R : Nat → Nat} {X Z : Cf} (h : Mv R X Z) (w : Nat) : (Flat Z).count w = (Flat X).count w := by
  obtain ⟨a, b, n, ha, hb, hab, h1, h2, h3, rfl⟩ := h
  have hc := ct_split (X a) ((X a).length - n) w
  have key : ∀ s, (mvd a b n X s).count w = if s = a then ((X a).take ((X a).length - n)).count w else if s = b then (X b).count w + ((X a).drop ((X a).length - n)).count w else (X s).count w := fun s => by
    unfold mvd
    by_cases c1 : s = a
    · rw [if_pos c1, if_pos c1]
    · rw [if_neg c1, if_neg c1]
      by_cases c2 : s = b
      · rw [if_pos c2, if_pos c2, List.count_append]
      · rw [if_neg c2, if_neg c2]
  unfold Flat
  rw [List.count_append, List.count_append, List.count_append, List.count_append, List.count_append, List.count_append, key, key, key, key]
  rcases (show a = 0 ∨ a = 1 ∨ a = 2 ∨ a = 3 by omega) with rfl | rfl | rfl | rfl <;> rcases (show b = 0 ∨ b = 1 ∨ b = 2 ∨ b = 3 by omega) with rfl | rfl | rfl | rfl <;> simp at hab hc ⊢ <;> omega
theorem rc_count {R : Nat → Nat} : ∀ {k : Nat} {X Y : Cf}, Rc R k X Y → ∀ w, (Flat Y).count w = (Flat X).count w
  | 0, X, Y, h, w => by
    have h : X = Y := h
    subst h; rfl
  | k + 1, X, Y, h, w => by
    rcases h with h | ⟨Z, h1, h2⟩
    · subst h; rfl
    · rw [rc_count h2 w, mv_count h1 w]
theorem mv_far {R : Nat → Nat} {X Z : Cf} (h : Mv R X Z) {s : Nat} (hs : 4 ≤ s) : Z s = X s := by
  obtain ⟨a, b, n, ha, hb, hab, h1, h2, h3, rfl⟩ := h
  unfold mvd
  rw [if_neg (by omega), if_neg (by omega)]
theorem rc_far {R : Nat → Nat} : ∀ {k : Nat} {X Y : Cf}, Rc R k X Y → ∀ {s : Nat}, 4 ≤ s → Y s = X s
  | 0, X, Y, h, s, hs => by
    have h : X = Y := h
    subst h; rfl
  | k + 1, X, Y, h, s, hs => by
    rcases h with h | ⟨Z, h1, h2⟩
    · subst h; rfl
    · rw [rc_far h2 hs, mv_far h1 hs]
/-- how much stands above the ROOM R0 -/
def exc (R0 : Nat → Nat) (X : Cf) : Nat := ((X 0).length - R0 0) + ((X 1).length - R0 1) + ((X 2).length - R0 2) + ((X 3).length - R0 3)
theorem to_base {R R0 : Nat → Nat} (hR : ∀ s, s < 4 → R0 s ≤ R s) : ∀ (e : Nat) (X : Cf), tot X ≤ R0 0 + R0 1 + R0 2 + R0 3 → exc R0 X ≤ e → ∃ X1, Rc R e X X1 ∧ Fit R0 X1
  | 0, X, ht, he => ⟨X, rfl, fun s hs => by
      unfold exc at he
      rcases (show s = 0 ∨ s = 1 ∨ s = 2 ∨ s = 3 by omega) with rfl | rfl | rfl | rfl <;> omega⟩
  | e + 1, X, ht, he => by
    by_cases h0 : exc R0 X = 0
    · obtain ⟨X1, h1, h2⟩ := to_base hR e X ht (by omega)
      exact ⟨X1, Rc.mono (by omega) h1, h2⟩
    · have hs : ∃ s, s < 4 ∧ R0 s < (X s).length := by
        unfold exc at h0
        by_cases c0 : R0 0 < (X 0).length
        · exact ⟨0, by omega, c0⟩
        · by_cases c1 : R0 1 < (X 1).length
          · exact ⟨1, by omega, c1⟩
          · by_cases c2 : R0 2 < (X 2).length
            · exact ⟨2, by omega, c2⟩
            · exact ⟨3, by omega, by omega⟩
      have htt : ∃ t, t < 4 ∧ (X t).length < R0 t := by
        obtain ⟨s, hs1, hs2⟩ := hs
        unfold tot at ht
        by_cases c0 : (X 0).length < R0 0
        · exact ⟨0, by omega, c0⟩
        · by_cases c1 : (X 1).length < R0 1
          · exact ⟨1, by omega, c1⟩
          · by_cases c2 : (X 2).length < R0 2
            · exact ⟨2, by omega, c2⟩
            · refine ⟨3, by omega, ?_⟩
              rcases (show s = 0 ∨ s = 1 ∨ s = 2 ∨ s = 3 by omega) with rfl | rfl | rfl | rfl <;> omega
      obtain ⟨s, hs1, hs2⟩ := hs
      obtain ⟨t, ht1, ht2⟩ := htt
      have hst : s ≠ t := fun k => by subst k; omega
      have hm : Mv R X (mvd s t 1 X) := ⟨s, t, 1, hs1, ht1, hst, by omega, by omega, by have := hR t ht1; omega, rfl⟩
      have l := fun q => mvd_len hst (X := X) (n := 1) (by omega) q
      obtain ⟨X1, h1, h2⟩ := to_base hR e (mvd s t 1 X) (by rw [mv_tot hm]; exact ht) (by
        unfold exc at he ⊢
        rw [l, l, l, l]
        rcases (show s = 0 ∨ s = 1 ∨ s = 2 ∨ s = 3 by omega) with rfl | rfl | rfl | rfl <;> rcases (show t = 0 ∨ t = 1 ∨ t = 2 ∨ t = 3 by omega) with rfl | rfl | rfl | rfl <;> simp at hst hs2 ht2 ⊢ <;> omega)
      exact ⟨X1, Or.inr ⟨_, hm, h1⟩, h2⟩
end
section
/-! ===== two neighbours change places in at most 4 MOVES; so LEAST is small ===== -/
def swp : Nat → List Nat → List Nat
  | 0, a :: b :: t => b :: a :: t
  | i + 1, a :: t => a :: swp i t
  | _, l => l
theorem swp_map (f : Nat → Nat) : ∀ (i : Nat) (l : List Nat), (swp i l).map f = swp i (l.map f)
  | 0, [] => rfl
  | 0, [_] => rfl
  | 0, _ :: _ :: _ => rfl
  | _ + 1, [] => rfl
  | i + 1, a :: t => by
    show f a :: (swp i t).map f = f a :: swp i (t.map f)
    rw [swp_map f i t]
theorem swp_len : ∀ (i : Nat) (l : List Nat), (swp i l).length = l.length
  | 0, [] => rfl
  | 0, [_] => rfl
  | 0, _ :: _ :: _ => rfl
  | _ + 1, [] => rfl
  | i + 1, a :: t => by
    show (swp i t).length + 1 = t.length + 1
    rw [swp_len i t]
def Sw : Nat → List Nat → List Nat → Prop
  | 0, l, l' => l = l'
  | k + 1, l, l' => l = l' ∨ ∃ i, i + 1 < l.length ∧ Sw k (swp i l) l'
theorem Sw.refl (k : Nat) (l : List Nat) : Sw k l l := by
  cases k with
  | zero => rfl
  | succ k => exact Or.inl rfl
theorem Sw.mono : ∀ {k m : Nat} {l l' : List Nat}, k ≤ m → Sw k l l' → Sw m l l'
  | 0, m, l, l', _, h => by
    have h : l = l' := h
    subst h; exact Sw.refl m l
  | k + 1, 0, l, l', hl, h => by omega
  | k + 1, m + 1, l, l', hl, h => by
    rcases h with h | ⟨i, h1, h2⟩
    · exact Or.inl h
    · exact Or.inr ⟨i, h1, Sw.mono (by omega) h2⟩
theorem Sw.trans : ∀ {k m : Nat} {l l' l'' : List Nat}, Sw k l l' → Sw m l' l'' → Sw (k + m) l l''
  | 0, m, l, l', l'', h1, h2 => by
    have h1 : l = l' := h1
    subst h1; rw [Nat.zero_add]; exact h2
  | k + 1, m, l, l', l'', h1, h2 => by
    rcases h1 with h1 | ⟨i, h1, h3⟩
    · subst h1; exact Sw.mono (by omega) h2
    · rw [show k + 1 + m = (k + m) + 1 by omega]
      exact Or.inr ⟨i, h1, Sw.trans h3 h2⟩
theorem Sw.cons (a : Nat) : ∀ {k : Nat} {l l' : List Nat}, Sw k l l' → Sw k (a :: l) (a :: l')
  | 0, l, l', h => by
    have h : l = l' := h
    subst h; rfl
  | k + 1, l, l', h => by
    rcases h with h | ⟨i, h1, h2⟩
    · subst h; exact Or.inl rfl
    · exact Or.inr ⟨i + 1, by rw [List.length_cons]; omega, Sw.cons a h2⟩
theorem sw_front (y : Nat) (l2 : List Nat) : ∀ l1 : List Nat, Sw l1.length (l1 ++ y :: l2) (y :: (l1 ++ l2))
  | [] => rfl
  | a :: l1 => by
    have h := (sw_front y l2 l1).cons a
    have h2 : Sw 1 (a :: y :: (l1 ++ l2)) (y :: a :: (l1 ++ l2)) := Or.inr ⟨0, by rw [List.length_cons, List.length_cons]; omega, rfl⟩
    exact h.trans h2
def tri : Nat → Nat
  | 0 => 0
  | n + 1 => n + tri n
theorem bubble : ∀ (l' l : List Nat), l.length = l'.length → (∀ w, l.count w = l'.count w) → Sw (tri l'.length) l l'
  | [], l, hl, _ => by
    cases l with
    | nil => rfl
    | cons a t => cases hl
  | y :: t, l, hl, hc => by
    have hy : y ∈ l := by
      have h := hc y
      rw [List.count_cons_self] at h
      exact List.count_pos_iff.mp (by omega)
    obtain ⟨l1, l2, rfl⟩ := List.append_of_mem hy
    have hlen : (l1 ++ l2).length = t.length := by
      rw [List.length_append, List.length_cons, List.length_cons] at hl
      rw [List.length_append]; omega
    have h1 := sw_front y l2 l1
    have h2 := (bubble t (l1 ++ l2) hlen (fun w => by
      have h := hc w
      rw [List.count_append, List.count_cons, List.count_cons] at h
      rw [List.count_append]
      omega)).cons y
    refine Sw.mono ?_ (h1.trans h2)
    show l1.length + tri t.length ≤ t.length + tri t.length
    rw [List.length_append] at hlen
    omega
/-! rows of STACKS of a shape, out of one list -/
def cfL (L : List (List Nat)) : Cf := fun s => L.getD s []
def unf (h0 h1 h2 : Nat) (l : List Nat) : List (List Nat) := [l.take h0, (l.drop h0).take h1, (l.drop (h0 + h1)).take h2, l.drop (h0 + h1 + h2)]
theorem cfL_far (a b c d : List Nat) {s : Nat} (hs : 4 ≤ s) : cfL [a, b, c, d] s = [] := by
  unfold cfL
  rw [List.getD_eq_getElem?_getD, List.getElem?_eq_none (by simp; omega)]
  rfl
theorem mpc_unf (f : Nat → Nat) (h0 h1 h2 : Nat) (l : List Nat) : mpc f (cfL (unf h0 h1 h2 l)) = cfL (unf h0 h1 h2 (l.map f)) := by
  funext s
  show (cfL (unf h0 h1 h2 l) s).map f = cfL (unf h0 h1 h2 (l.map f)) s
  match s with
  | 0 => show (l.take h0).map f = (l.map f).take h0; rw [List.map_take]
  | 1 => show ((l.drop h0).take h1).map f = ((l.map f).drop h0).take h1; rw [List.map_take, List.map_drop]
  | 2 => show ((l.drop (h0 + h1)).take h2).map f = ((l.map f).drop (h0 + h1)).take h2; rw [List.map_take, List.map_drop]
  | 3 => show (l.drop (h0 + h1 + h2)).map f = (l.map f).drop (h0 + h1 + h2); rw [List.map_drop]
  | s + 4 => rw [show cfL (unf h0 h1 h2 l) (s + 4) = [] from cfL_far _ _ _ _ (by omega), show cfL (unf h0 h1 h2 (l.map f)) (s + 4) = [] from cfL_far _ _ _ _ (by omega)]; rfl
theorem unf_flat {X : Cf} (hX : ∀ s, 4 ≤ s → X s = []) : X = cfL (unf (X 0).length (X 1).length (X 2).length (Flat X)) := by
  have e : Flat X = X 0 ++ (X 1 ++ (X 2 ++ X 3)) := by unfold Flat; simp
  have d0 : (Flat X).drop (X 0).length = X 1 ++ (X 2 ++ X 3) := by rw [e, List.drop_left]
  have d1 : (Flat X).drop ((X 0).length + (X 1).length) = X 2 ++ X 3 := by rw [← List.drop_drop, d0, List.drop_left]
  have d2 : (Flat X).drop ((X 0).length + (X 1).length + (X 2).length) = X 3 := by rw [← List.drop_drop, d1, List.drop_left]
  funext s
  match s with
  | 0 => show X 0 = (Flat X).take (X 0).length; rw [e, List.take_left]
  | 1 => show X 1 = ((Flat X).drop (X 0).length).take (X 1).length; rw [d0, List.take_left]
  | 2 => show X 2 = ((Flat X).drop ((X 0).length + (X 1).length)).take (X 2).length; rw [d1, List.take_left]
  | 3 => show X 3 = (Flat X).drop ((X 0).length + (X 1).length + (X 2).length); rw [d2]
  | s + 4 => rw [hX _ (by omega)]; exact (cfL_far _ _ _ _ (by omega)).symm
/-! MOVES worked on lists -/
def rl (r : List Nat) : Nat → Nat := fun s => r.getD s 0
def stpL (R : Nat → Nat) (m : Nat × Nat × Nat) (L : List (List Nat)) : Option (List (List Nat)) :=
  if decide (m.1 < 4) && decide (m.2.1 < 4) && decide (m.1 ≠ m.2.1) && decide (1 ≤ m.2.2) && decide (m.2.2 ≤ (cfL L m.1).length) && decide ((cfL L m.2.1).length + m.2.2 ≤ R m.2.1) && decide (L.length = 4) then
    some [mvd m.1 m.2.1 m.2.2 (cfL L) 0, mvd m.1 m.2.1 m.2.2 (cfL L) 1, mvd m.1 m.2.1 m.2.2 (cfL L) 2, mvd m.1 m.2.1 m.2.2 (cfL L) 3] else none
def runL (R : Nat → Nat) : List (Nat × Nat × Nat) → List (List Nat) → Option (List (List Nat))
  | [], L => some L
  | m :: ms, L => match stpL R m L with
    | none => none
    | some L' => runL R ms L'
theorem stpL_ok {R : Nat → Nat} {m : Nat × Nat × Nat} {L L' : List (List Nat)} (h : stpL R m L = some L') : Mv R (cfL L) (cfL L') := by
  unfold stpL at h
  split at h
  · rename_i c
    simp only [Bool.and_eq_true, decide_eq_true_eq] at c
    obtain ⟨⟨⟨⟨⟨⟨c1, c2⟩, c3⟩, c4⟩, c5⟩, c6⟩, c7⟩ := c
    cases h
    refine ⟨m.1, m.2.1, m.2.2, c1, c2, c3, c4, c5, c6, funext fun s => ?_⟩
    match s with
    | 0 => rfl
    | 1 => rfl
    | 2 => rfl
    | 3 => rfl
    | s + 4 =>
      rw [cfL_far _ _ _ _ (by omega)]
      unfold mvd
      rw [if_neg (by omega), if_neg (by omega)]
      unfold cfL
      rw [List.getD_eq_getElem?_getD, List.getElem?_eq_none (by omega)]
      rfl
  · cases h
theorem runL_ok {R : Nat → Nat} : ∀ {ms : List (Nat × Nat × Nat)} {L L' : List (List Nat)}, runL R ms L = some L' → Rc R ms.length (cfL L) (cfL L')
  | [], L, L', h => by
    cases h; rfl
  | m :: ms, L, L', h => by
    unfold runL at h
    cases e : stpL R m L with
    | none => rw [e] at h; cases h
    | some V =>
      rw [e] at h
      exact Or.inr ⟨_, stpL_ok e, runL_ok h⟩
/-- in a shape of N WAGONS each two neighbours can change places in at most 4 MOVES -/
def Gd (N : Nat) (r : List Nat) (h0 h1 h2 : Nat) : Prop := ∀ i, i + 1 < N → ∃ ms : List (Nat × Nat × Nat), ms.length ≤ 4 ∧ runL (rl r) ms (unf h0 h1 h2 (List.range N)) = some (unf h0 h1 h2 (swp i (List.range N)))
theorem map_getD (l : List Nat) : (List.range l.length).map (fun i => l.getD i 0) = l := by
  apply List.ext_getElem?
  intro i
  by_cases hi : i < l.length
  · simp [hi]
  · rw [List.getElem?_eq_none (by simp; omega), List.getElem?_eq_none (by omega)]
theorem Gd.sw {N : Nat} {r : List Nat} {h0 h1 h2 : Nat} (g : Gd N r h0 h1 h2) : ∀ {k : Nat} {l l' : List Nat}, l.length = N → Sw k l l' → Rc (rl r) (4 * k) (cfL (unf h0 h1 h2 l)) (cfL (unf h0 h1 h2 l'))
  | 0, l, l', hl, h => by
    have h : l = l' := h
    subst h; rfl
  | k + 1, l, l', hl, h => by
    rcases h with h | ⟨i, hi, h2'⟩
    · subst h; exact Rc.refl _ _ _
    · obtain ⟨ms, hm, hr⟩ := g i (by omega)
      have a := Rc.map (fun i => l.getD i 0) (runL_ok hr)
      rw [mpc_unf, mpc_unf, swp_map, ← hl, map_getD] at a
      have b := Gd.sw g (by rw [swp_len]; exact hl) h2'
      exact Rc.mono (by omega) (a.trans b)
theorem gd_1_1111 : Gd 1 [1, 1, 1, 1] 0 0 0 := by
  intro i hi
  match i, hi with
  | i + 0, hi => omega
theorem gd_2_1111 : Gd 2 [1, 1, 1, 1] 0 0 1 := by
  intro i hi
  match i, hi with
  | 0, _ => exact ⟨[(2, 0, 1), (3, 2, 1), (0, 3, 1)], by decide, by decide⟩
  | i + 1, hi => omega
theorem gd_3_1111 : Gd 3 [1, 1, 1, 1] 0 1 1 := by
  intro i hi
  match i, hi with
  | 0, _ => exact ⟨[(1, 0, 1), (2, 1, 1), (0, 2, 1)], by decide, by decide⟩
  | 1, _ => exact ⟨[(2, 0, 1), (3, 2, 1), (0, 3, 1)], by decide, by decide⟩
  | i + 2, hi => omega
theorem gd_4_1122 : Gd 4 [1, 1, 2, 2] 1 1 1 := by
  intro i hi
  match i, hi with
  | 0, _ => exact ⟨[(0, 2, 1), (1, 0, 1), (2, 1, 1)], by decide, by decide⟩
  | 1, _ => exact ⟨[(1, 3, 1), (2, 1, 1), (3, 2, 1)], by decide, by decide⟩
  | 2, _ => exact ⟨[(2, 3, 1), (3, 2, 2), (2, 3, 1)], by decide, by decide⟩
  | i + 3, hi => omega
theorem gd_4_1212 : Gd 4 [1, 2, 1, 2] 1 1 1 := by
  intro i hi
  match i, hi with
  | 0, _ => exact ⟨[(0, 3, 1), (1, 0, 1), (3, 1, 1)], by decide, by decide⟩
  | 1, _ => exact ⟨[(1, 3, 1), (2, 1, 1), (3, 2, 1)], by decide, by decide⟩
  | 2, _ => exact ⟨[(2, 1, 1), (3, 2, 1), (1, 3, 1)], by decide, by decide⟩
  | i + 3, hi => omega
theorem gd_4_1221 : Gd 4 [1, 2, 2, 1] 1 1 1 := by
  intro i hi
  match i, hi with
  | 0, _ => exact ⟨[(0, 2, 1), (1, 0, 1), (2, 1, 1)], by decide, by decide⟩
  | 1, _ => exact ⟨[(1, 2, 1), (2, 1, 2), (1, 2, 1)], by decide, by decide⟩
  | 2, _ => exact ⟨[(2, 1, 1), (3, 2, 1), (1, 3, 1)], by decide, by decide⟩
  | i + 3, hi => omega
theorem gd_4_2112 : Gd 4 [2, 1, 1, 2] 1 1 1 := by
  intro i hi
  match i, hi with
  | 0, _ => exact ⟨[(0, 3, 1), (1, 0, 1), (3, 1, 1)], by decide, by decide⟩
  | 1, _ => exact ⟨[(1, 0, 1), (2, 1, 1), (0, 2, 1)], by decide, by decide⟩
  | 2, _ => exact ⟨[(2, 0, 1), (3, 2, 1), (0, 3, 1)], by decide, by decide⟩
  | i + 3, hi => omega
theorem gd_4_2121 : Gd 4 [2, 1, 2, 1] 1 1 1 := by
  intro i hi
  match i, hi with
  | 0, _ => exact ⟨[(0, 2, 1), (1, 0, 1), (2, 1, 1)], by decide, by decide⟩
  | 1, _ => exact ⟨[(1, 0, 1), (2, 1, 1), (0, 2, 1)], by decide, by decide⟩
  | 2, _ => exact ⟨[(2, 0, 1), (3, 2, 1), (0, 3, 1)], by decide, by decide⟩
  | i + 3, hi => omega
theorem gd_4_2211 : Gd 4 [2, 2, 1, 1] 0 2 1 := by
  intro i hi
  match i, hi with
  | 0, _ => exact ⟨[(1, 0, 1), (1, 0, 1), (0, 1, 2)], by decide, by decide⟩
  | 1, _ => exact ⟨[(1, 0, 1), (2, 1, 1), (0, 2, 1)], by decide, by decide⟩
  | 2, _ => exact ⟨[(2, 0, 1), (3, 2, 1), (0, 3, 1)], by decide, by decide⟩
  | i + 3, hi => omega
theorem gd_5_1222 : Gd 5 [1, 2, 2, 2] 0 2 1 := by
  intro i hi
  match i, hi with
  | 0, _ => exact ⟨[(1, 0, 1), (1, 2, 1), (0, 1, 1), (2, 1, 1)], by decide, by decide⟩
  | 1, _ => exact ⟨[(1, 0, 1), (2, 1, 1), (0, 2, 1)], by decide, by decide⟩
  | 2, _ => exact ⟨[(2, 0, 1), (3, 2, 2), (0, 3, 1), (2, 3, 1)], by decide, by decide⟩
  | 3, _ => exact ⟨[(3, 0, 1), (3, 2, 1), (0, 3, 1), (2, 3, 1)], by decide, by decide⟩
  | i + 4, hi => omega
theorem gd_5_2122 : Gd 5 [2, 1, 2, 2] 0 1 2 := by
  intro i hi
  match i, hi with
  | 0, _ => exact ⟨[(1, 0, 1), (2, 0, 1), (2, 1, 1), (0, 2, 2)], by decide, by decide⟩
  | 1, _ => exact ⟨[(2, 0, 1), (2, 0, 1), (0, 2, 2)], by decide, by decide⟩
  | 2, _ => exact ⟨[(2, 0, 1), (3, 0, 1), (3, 2, 1), (0, 3, 2)], by decide, by decide⟩
  | 3, _ => exact ⟨[(3, 0, 1), (3, 0, 1), (0, 3, 2)], by decide, by decide⟩
  | i + 4, hi => omega
theorem gd_5_2212 : Gd 5 [2, 2, 1, 2] 0 2 1 := by
  intro i hi
  match i, hi with
  | 0, _ => exact ⟨[(1, 0, 1), (1, 0, 1), (0, 1, 2)], by decide, by decide⟩
  | 1, _ => exact ⟨[(1, 0, 1), (2, 1, 1), (0, 2, 1)], by decide, by decide⟩
  | 2, _ => exact ⟨[(2, 0, 1), (3, 0, 1), (3, 2, 1), (0, 3, 2)], by decide, by decide⟩
  | 3, _ => exact ⟨[(3, 0, 1), (3, 0, 1), (0, 3, 2)], by decide, by decide⟩
  | i + 4, hi => omega
theorem gd_5_2221 : Gd 5 [2, 2, 2, 1] 0 2 2 := by
  intro i hi
  match i, hi with
  | 0, _ => exact ⟨[(1, 0, 1), (1, 0, 1), (0, 1, 2)], by decide, by decide⟩
  | 1, _ => exact ⟨[(1, 0, 1), (2, 0, 1), (2, 1, 1), (0, 2, 2)], by decide, by decide⟩
  | 2, _ => exact ⟨[(2, 0, 1), (2, 0, 1), (0, 2, 2)], by decide, by decide⟩
  | 3, _ => exact ⟨[(2, 0, 1), (3, 2, 1), (0, 3, 1)], by decide, by decide⟩
  | i + 4, hi => omega
theorem gd_5_1133 : Gd 5 [1, 1, 3, 3] 1 1 0 := by
  intro i hi
  match i, hi with
  | 0, _ => exact ⟨[(0, 2, 1), (1, 0, 1), (2, 1, 1)], by decide, by decide⟩
  | 1, _ => exact ⟨[(1, 2, 1), (3, 2, 2), (3, 1, 1), (2, 3, 3)], by decide, by decide⟩
  | 2, _ => exact ⟨[(3, 2, 2), (2, 3, 1), (3, 2, 2), (2, 3, 3)], by decide, by decide⟩
  | 3, _ => exact ⟨[(3, 2, 1), (3, 2, 1), (2, 3, 2)], by decide, by decide⟩
  | i + 4, hi => omega
theorem gd_5_1313 : Gd 5 [1, 3, 1, 3] 1 0 1 := by
  intro i hi
  match i, hi with
  | 0, _ => exact ⟨[(0, 1, 1), (2, 0, 1), (1, 2, 1)], by decide, by decide⟩
  | 1, _ => exact ⟨[(2, 1, 1), (3, 1, 2), (3, 2, 1), (1, 3, 3)], by decide, by decide⟩
  | 2, _ => exact ⟨[(3, 1, 2), (1, 3, 1), (3, 1, 2), (1, 3, 3)], by decide, by decide⟩
  | 3, _ => exact ⟨[(3, 1, 1), (3, 1, 1), (1, 3, 2)], by decide, by decide⟩
  | i + 4, hi => omega
theorem gd_5_1331 : Gd 5 [1, 3, 3, 1] 0 2 2 := by
  intro i hi
  match i, hi with
  | 0, _ => exact ⟨[(1, 0, 1), (1, 2, 1), (0, 1, 1), (2, 1, 1)], by decide, by decide⟩
  | 1, _ => exact ⟨[(1, 0, 1), (2, 1, 2), (0, 2, 1), (1, 2, 1)], by decide, by decide⟩
  | 2, _ => exact ⟨[(2, 0, 1), (2, 1, 1), (0, 2, 1), (1, 2, 1)], by decide, by decide⟩
  | 3, _ => exact ⟨[(2, 0, 1), (3, 2, 1), (0, 3, 1)], by decide, by decide⟩
  | i + 4, hi => omega
theorem gd_5_3113 : Gd 5 [3, 1, 1, 3] 2 1 1 := by
  intro i hi
  match i, hi with
  | 0, _ => exact ⟨[(0, 3, 1), (0, 3, 1), (3, 0, 2)], by decide, by decide⟩
  | 1, _ => exact ⟨[(0, 3, 1), (1, 0, 1), (3, 1, 1)], by decide, by decide⟩
  | 2, _ => exact ⟨[(1, 0, 1), (2, 1, 1), (0, 2, 1)], by decide, by decide⟩
  | 3, _ => exact ⟨[(2, 0, 1), (3, 2, 1), (0, 3, 1)], by decide, by decide⟩
  | i + 4, hi => omega
theorem gd_5_3131 : Gd 5 [3, 1, 3, 1] 2 1 1 := by
  intro i hi
  match i, hi with
  | 0, _ => exact ⟨[(0, 2, 1), (0, 2, 1), (2, 0, 2)], by decide, by decide⟩
  | 1, _ => exact ⟨[(0, 2, 1), (1, 0, 1), (2, 1, 1)], by decide, by decide⟩
  | 2, _ => exact ⟨[(1, 0, 1), (2, 1, 1), (0, 2, 1)], by decide, by decide⟩
  | 3, _ => exact ⟨[(2, 0, 1), (3, 2, 1), (0, 3, 1)], by decide, by decide⟩
  | i + 4, hi => omega
theorem gd_5_3311 : Gd 5 [3, 3, 1, 1] 2 1 1 := by
  intro i hi
  match i, hi with
  | 0, _ => exact ⟨[(0, 1, 1), (0, 1, 1), (1, 0, 2)], by decide, by decide⟩
  | 1, _ => exact ⟨[(0, 1, 1), (1, 0, 2), (0, 1, 1)], by decide, by decide⟩
  | 2, _ => exact ⟨[(1, 0, 1), (2, 1, 1), (0, 2, 1)], by decide, by decide⟩
  | 3, _ => exact ⟨[(2, 0, 1), (3, 2, 1), (0, 3, 1)], by decide, by decide⟩
  | i + 4, hi => omega
end
section
/-! ===== LEAST is at most 50 ===== -/
theorem no_move {R : Nat → Nat} {X Z : Cf} (hf : Fit R X) (h : R 0 + R 1 + R 2 + R 3 ≤ tot X) : ¬ Mv R X Z := by
  intro ⟨a, b, n, ha, hb, hab, h1, h2, h3, _⟩
  have f0 := hf 0 (by omega); have f1 := hf 1 (by omega); have f2 := hf 2 (by omega); have f3 := hf 3 (by omega)
  unfold tot at h
  rcases (show b = 0 ∨ b = 1 ∨ b = 2 ∨ b = 3 by omega) with rfl | rfl | rfl | rfl <;> omega
theorem flat_len (X : Cf) : (Flat X).length = tot X := by
  unfold Flat tot
  rw [List.length_append, List.length_append, List.length_append]
theorem shaped {X : Cf} {h0 h1 h2 h3 : Nat} (hf : Fit (rl [h0, h1, h2, h3]) X) (ht : tot X = h0 + h1 + h2 + h3) (hX : ∀ s, 4 ≤ s → X s = []) : X = cfL (unf h0 h1 h2 (Flat X)) := by
  have f0 : (X 0).length ≤ h0 := hf 0 (by omega)
  have f1 : (X 1).length ≤ h1 := hf 1 (by omega)
  have f2 : (X 2).length ≤ h2 := hf 2 (by omega)
  have f3 : (X 3).length ≤ h3 := hf 3 (by omega)
  unfold tot at ht
  have e0 : (X 0).length = h0 := by omega
  have e1 : (X 1).length = h1 := by omega
  have e2 : (X 2).length = h2 := by omega
  have := unf_flat hX
  rw [e0, e1, e2] at this
  exact this
theorem tri_5 {n : Nat} (h : n ≤ 5) : tri n ≤ 10 := by
  rcases (show n = 0 ∨ n = 1 ∨ n = 2 ∨ n = 3 ∨ n = 4 ∨ n = 5 by omega) with rfl | rfl | rfl | rfl | rfl | rfl <;> decide
theorem conn {N : Nat} {r : List Nat} {h0 h1 h2 : Nat} (h3 : Nat) (g : Gd N r h0 h1 h2) {R : Nat → Nat} (hR : ∀ s, s < 4 → rl r s ≤ R s) (hh : ∀ s, s < 4 → rl [h0, h1, h2, h3] s ≤ rl r s) (hN : h0 + h1 + h2 + h3 = N) (hN5 : N ≤ 5) {X Y : Cf} (fX : Fit R X) (fY : Fit R Y) (tX : tot X = N) (hc : ∀ w, (Flat Y).count w = (Flat X).count w) (zX : ∀ s, 4 ≤ s → X s = []) (zY : ∀ s, 4 ≤ s → Y s = []) (tY : tot Y = N) : Rc R 50 X Y := by
  have hRR : ∀ s, s < 4 → rl [h0, h1, h2, h3] s ≤ R s := fun s hs => Nat.le_trans (hh s hs) (hR s hs)
  have ex : ∀ V : Cf, tot V = N → exc (rl [h0, h1, h2, h3]) V ≤ 5 := fun V hV => by
    unfold exc; unfold tot at hV; omega
  obtain ⟨X1, p1, q1⟩ := to_base hRR 5 X (by rw [tX, ← hN]; exact Nat.le_refl _) (ex X tX)
  obtain ⟨Y1, p2, q2⟩ := to_base hRR 5 Y (by rw [tY, ← hN]; exact Nat.le_refl _) (ex Y tY)
  have t1 : tot X1 = N := (rc_tot p1).trans tX
  have t2 : tot Y1 = N := (rc_tot p2).trans tY
  have s1 := shaped q1 (t1.trans hN.symm) (fun s hs => (rc_far p1 hs).trans (zX s hs))
  have s2 := shaped q2 (t2.trans hN.symm) (fun s hs => (rc_far p2 hs).trans (zY s hs))
  have sw := bubble (Flat Y1) (Flat X1) (by rw [flat_len, flat_len, t1, t2]) (fun w => by rw [rc_count p1 w, rc_count p2 w, hc w])
  have m := g.sw (by rw [flat_len]; exact t1) sw
  rw [← s1, ← s2, flat_len, t2] at m
  have m' := Rc.le hR m
  have := tri_5 hN5
  exact Rc.mono (by omega) ((p1.trans m').trans (Rc.rev fY p2))
/-- ROOM within which the neighbours' changes are known -/
theorem base_ex {N : Nat} {R : Nat → Nat} (h1 : 1 ≤ N) (h5 : N ≤ 5) (hR : ∀ s, s < 4 → 1 ≤ R s) (hO : ∀ s, s < 4 → N ≤ oth s R) : ∃ (r : List Nat) (a b c d : Nat), Gd N r a b c ∧ (∀ s, s < 4 → rl r s ≤ R s) ∧ (∀ s, s < 4 → rl [a, b, c, d] s ≤ rl r s) ∧ a + b + c + d = N := by
  have r0 := hR 0 (by omega); have r1 := hR 1 (by omega); have r2 := hR 2 (by omega); have r3 := hR 3 (by omega)
  have o0 : N ≤ R 1 + R 2 + R 3 := by have := hO 0 (by omega); simpa [oth] using this
  have o1 : N ≤ R 0 + R 2 + R 3 := by have := hO 1 (by omega); simpa [oth] using this
  have o2 : N ≤ R 0 + R 1 + R 3 := by have := hO 2 (by omega); simpa [oth] using this
  have o3 : N ≤ R 0 + R 1 + R 2 := by have := hO 3 (by omega); simpa [oth] using this
  have four : ∀ {p q : Nat → Nat}, p 0 ≤ q 0 → p 1 ≤ q 1 → p 2 ≤ q 2 → p 3 ≤ q 3 → ∀ s, s < 4 → p s ≤ q s := fun a b c d s hs => by
    rcases (show s = 0 ∨ s = 1 ∨ s = 2 ∨ s = 3 by omega) with rfl | rfl | rfl | rfl <;> assumption
  rcases (show N = 1 ∨ N = 2 ∨ N = 3 ∨ N = 4 ∨ N = 5 by omega) with rfl | rfl | rfl | rfl | rfl
  · exact ⟨[1, 1, 1, 1], 0, 0, 0, 1, gd_1_1111, four (show 1 ≤ R 0 by omega) (show 1 ≤ R 1 by omega) (show 1 ≤ R 2 by omega) (show 1 ≤ R 3 by omega), four (by decide) (by decide) (by decide) (by decide), rfl⟩
  · exact ⟨[1, 1, 1, 1], 0, 0, 1, 1, gd_2_1111, four (show 1 ≤ R 0 by omega) (show 1 ≤ R 1 by omega) (show 1 ≤ R 2 by omega) (show 1 ≤ R 3 by omega), four (by decide) (by decide) (by decide) (by decide), rfl⟩
  · exact ⟨[1, 1, 1, 1], 0, 1, 1, 1, gd_3_1111, four (show 1 ≤ R 0 by omega) (show 1 ≤ R 1 by omega) (show 1 ≤ R 2 by omega) (show 1 ≤ R 3 by omega), four (by decide) (by decide) (by decide) (by decide), rfl⟩
  · by_cases c6 : 2 ≤ R 2 ∧ 2 ≤ R 3
    · exact ⟨[1, 1, 2, 2], 1, 1, 1, 1, gd_4_1122, four (show 1 ≤ R 0 by omega) (show 1 ≤ R 1 by omega) (show 2 ≤ R 2 by omega) (show 2 ≤ R 3 by omega), four (by decide) (by decide) (by decide) (by decide), rfl⟩
    · by_cases c5 : 2 ≤ R 1 ∧ 2 ≤ R 3
      · exact ⟨[1, 2, 1, 2], 1, 1, 1, 1, gd_4_1212, four (show 1 ≤ R 0 by omega) (show 2 ≤ R 1 by omega) (show 1 ≤ R 2 by omega) (show 2 ≤ R 3 by omega), four (by decide) (by decide) (by decide) (by decide), rfl⟩
      · by_cases c4 : 2 ≤ R 1 ∧ 2 ≤ R 2
        · exact ⟨[1, 2, 2, 1], 1, 1, 1, 1, gd_4_1221, four (show 1 ≤ R 0 by omega) (show 2 ≤ R 1 by omega) (show 2 ≤ R 2 by omega) (show 1 ≤ R 3 by omega), four (by decide) (by decide) (by decide) (by decide), rfl⟩
        · by_cases c3 : 2 ≤ R 0 ∧ 2 ≤ R 3
          · exact ⟨[2, 1, 1, 2], 1, 1, 1, 1, gd_4_2112, four (show 2 ≤ R 0 by omega) (show 1 ≤ R 1 by omega) (show 1 ≤ R 2 by omega) (show 2 ≤ R 3 by omega), four (by decide) (by decide) (by decide) (by decide), rfl⟩
          · by_cases c2 : 2 ≤ R 0 ∧ 2 ≤ R 2
            · exact ⟨[2, 1, 2, 1], 1, 1, 1, 1, gd_4_2121, four (show 2 ≤ R 0 by omega) (show 1 ≤ R 1 by omega) (show 2 ≤ R 2 by omega) (show 1 ≤ R 3 by omega), four (by decide) (by decide) (by decide) (by decide), rfl⟩
            · by_cases c1 : 2 ≤ R 0 ∧ 2 ≤ R 1
              · exact ⟨[2, 2, 1, 1], 0, 2, 1, 1, gd_4_2211, four (show 2 ≤ R 0 by omega) (show 2 ≤ R 1 by omega) (show 1 ≤ R 2 by omega) (show 1 ≤ R 3 by omega), four (by decide) (by decide) (by decide) (by decide), rfl⟩
              · omega
  · by_cases c10 : 2 ≤ R 1 ∧ 2 ≤ R 2 ∧ 2 ≤ R 3
    · exact ⟨[1, 2, 2, 2], 0, 2, 1, 2, gd_5_1222, four (show 1 ≤ R 0 by omega) (show 2 ≤ R 1 by omega) (show 2 ≤ R 2 by omega) (show 2 ≤ R 3 by omega), four (by decide) (by decide) (by decide) (by decide), rfl⟩
    · by_cases c9 : 2 ≤ R 0 ∧ 2 ≤ R 2 ∧ 2 ≤ R 3
      · exact ⟨[2, 1, 2, 2], 0, 1, 2, 2, gd_5_2122, four (show 2 ≤ R 0 by omega) (show 1 ≤ R 1 by omega) (show 2 ≤ R 2 by omega) (show 2 ≤ R 3 by omega), four (by decide) (by decide) (by decide) (by decide), rfl⟩
      · by_cases c8 : 2 ≤ R 0 ∧ 2 ≤ R 1 ∧ 2 ≤ R 3
        · exact ⟨[2, 2, 1, 2], 0, 2, 1, 2, gd_5_2212, four (show 2 ≤ R 0 by omega) (show 2 ≤ R 1 by omega) (show 1 ≤ R 2 by omega) (show 2 ≤ R 3 by omega), four (by decide) (by decide) (by decide) (by decide), rfl⟩
        · by_cases c7 : 2 ≤ R 0 ∧ 2 ≤ R 1 ∧ 2 ≤ R 2
          · exact ⟨[2, 2, 2, 1], 0, 2, 2, 1, gd_5_2221, four (show 2 ≤ R 0 by omega) (show 2 ≤ R 1 by omega) (show 2 ≤ R 2 by omega) (show 1 ≤ R 3 by omega), four (by decide) (by decide) (by decide) (by decide), rfl⟩
          · by_cases c6 : 3 ≤ R 2 ∧ 3 ≤ R 3
            · exact ⟨[1, 1, 3, 3], 1, 1, 0, 3, gd_5_1133, four (show 1 ≤ R 0 by omega) (show 1 ≤ R 1 by omega) (show 3 ≤ R 2 by omega) (show 3 ≤ R 3 by omega), four (by decide) (by decide) (by decide) (by decide), rfl⟩
            · by_cases c5 : 3 ≤ R 1 ∧ 3 ≤ R 3
              · exact ⟨[1, 3, 1, 3], 1, 0, 1, 3, gd_5_1313, four (show 1 ≤ R 0 by omega) (show 3 ≤ R 1 by omega) (show 1 ≤ R 2 by omega) (show 3 ≤ R 3 by omega), four (by decide) (by decide) (by decide) (by decide), rfl⟩
              · by_cases c4 : 3 ≤ R 1 ∧ 3 ≤ R 2
                · exact ⟨[1, 3, 3, 1], 0, 2, 2, 1, gd_5_1331, four (show 1 ≤ R 0 by omega) (show 3 ≤ R 1 by omega) (show 3 ≤ R 2 by omega) (show 1 ≤ R 3 by omega), four (by decide) (by decide) (by decide) (by decide), rfl⟩
                · by_cases c3 : 3 ≤ R 0 ∧ 3 ≤ R 3
                  · exact ⟨[3, 1, 1, 3], 2, 1, 1, 1, gd_5_3113, four (show 3 ≤ R 0 by omega) (show 1 ≤ R 1 by omega) (show 1 ≤ R 2 by omega) (show 3 ≤ R 3 by omega), four (by decide) (by decide) (by decide) (by decide), rfl⟩
                  · by_cases c2 : 3 ≤ R 0 ∧ 3 ≤ R 2
                    · exact ⟨[3, 1, 3, 1], 2, 1, 1, 1, gd_5_3131, four (show 3 ≤ R 0 by omega) (show 1 ≤ R 1 by omega) (show 3 ≤ R 2 by omega) (show 1 ≤ R 3 by omega), four (by decide) (by decide) (by decide) (by decide), rfl⟩
                    · by_cases c1 : 3 ≤ R 0 ∧ 3 ≤ R 1
                      · exact ⟨[3, 3, 1, 1], 2, 1, 1, 1, gd_5_3311, four (show 3 ≤ R 0 by omega) (show 3 ≤ R 1 by omega) (show 1 ≤ R 2 by omega) (show 1 ≤ R 3 by omega), four (by decide) (by decide) (by decide) (by decide), rfl⟩
                      · omega
/-- rows of STACKS that reach one another do so in at most 50 MOVES -/
theorem dm : ∀ (N : Nat) (R : Nat → Nat) (X Y : Cf) (k : Nat), N ≤ 5 → tot X = N → (∀ s, s < 4 → 1 ≤ R s) → Fit R X → (∀ s, 4 ≤ s → X s = []) → Rc R k X Y → Rc R 50 X Y
  | 0, R, X, Y, k, hN, ht, hR, hf, hz, h => by
    have tY := rc_tot h
    have e : X = Y := by
      funext s
      unfold tot at ht tY
      have nl : ∀ V : Cf, (V s).length = 0 → V s = [] := fun V hV => List.length_eq_zero_iff.mp hV
      by_cases c : 4 ≤ s
      · rw [rc_far h c]
      · rcases (show s = 0 ∨ s = 1 ∨ s = 2 ∨ s = 3 by omega) with rfl | rfl | rfl | rfl <;> rw [nl X (by omega), nl Y (by omega)]
    subst e; exact Rc.refl _ _ _
  | N + 1, R, X, Y, k, hN, ht, hR, hf, hz, h => by
    by_cases hF : R 0 + R 1 + R 2 + R 3 ≤ N + 1
    · have e : X = Y := by
        cases k with
        | zero => exact h
        | succ k =>
          rcases h with h | ⟨Z, h1, _⟩
          · exact h
          · exact absurd h1 (no_move hf (by omega))
      subst e; exact Rc.refl _ _ _
    · by_cases hs : ∃ s, s < 4 ∧ oth s R < N + 1
      · obtain ⟨s, hs4, hs⟩ := hs
        obtain ⟨w, xs, hx⟩ := oth_ne hs4 hf (by omega)
        have e := csC_of hx
        rw [e] at h hf ht hz ⊢
        generalize (fun t => if t = s then xs else X t) = X' at h hf ht hz ⊢
        obtain ⟨Y', rfl, h'⟩ := Rc.un hs4 hf (by omega) h
        have ht' : tot X' = N := by rw [tot_cs hs4] at ht; omega
        have hRs : 2 ≤ R s := by
          unfold oth at hs
          rcases (show s = 0 ∨ s = 1 ∨ s = 2 ∨ s = 3 by omega) with rfl | rfl | rfl | rfl <;> simp at hs <;> omega
        refine Rc.cs (by omega) (dm N (Rd s R) X' Y' k (by omega) ht' (fun t h4 => ?_) (hf.un hs4) (fun t h4 => ?_) h')
        · unfold Rd
          by_cases c : t = s
          · rw [if_pos c]; omega
          · rw [if_neg c]; exact hR t h4
        · have := hz t h4
          rw [csC_ne _ _ (by omega)] at this
          exact this
      · obtain ⟨r, a, b, c, d, g, g1, g2, g3⟩ := base_ex (N := N + 1) (by omega) hN hR (fun s h4 => by
          rcases Nat.lt_or_ge (oth s R) (N + 1) with q | q
          · exact absurd ⟨s, h4, q⟩ hs
          · exact q)
        exact conn d g g1 g2 g3 hN hf (Rc.fit hf h) ht (rc_count h) hz (fun s h4 => (rc_far h h4).trans (hz s h4)) ((rc_tot h).trans ht)
end
section
/-! ===== the reference's STACKS at work, as lists ===== -/
def wN (S : SS) (s i : Nat) : Nat := (S.1 57 (10 * s + i)).toNatClampNeg
def mN (S : SS) (s : Nat) : Nat := (S.1 58 s).toNatClampNeg
def cfS (S : SS) : Cf := fun s => if s < 4 then (List.range (mN S s)).map (wN S s) else []
theorem mN_le {S : SS} (hW : WR S) (s : Nat) : mN S s ≤ 10 ∧ S.1 58 s = nI (mN S s) := by
  obtain ⟨j, hj, h1, h2, h3⟩ := rg_ex (ro_58 hW s) (by omega)
  have e : mN S s = j := by unfold mN; rw [hj]; exact nI_clamp h3
  rw [e]
  exact ⟨by omega, hj⟩
theorem cfS_len {S : SS} {s : Nat} (hs : s < 4) : (cfS S s).length = mN S s := by
  unfold cfS
  rw [if_pos hs, List.length_map, List.length_range]
theorem cfS_get {S : SS} {s i : Nat} (hs : s < 4) (hi : i < mN S s) : (cfS S s)[i]? = some (wN S s i) := by
  unfold cfS
  rw [if_pos hs, List.getElem?_map, List.getElem?_range hi]
  rfl
theorem cfS_far (S : SS) {s : Nat} (hs : 4 ≤ s) : cfS S s = [] := by
  unfold cfS
  rw [if_neg (by omega)]
set_option maxHeartbeats 1000000 in
theorem shx_L3 {S0 S : SS} {a b n : Nat} (hW0 : WR S) (ha : a < 4) (hb : b < 4) (hab : a ≠ b) (hn : n ≤ mN S a) (hr : mN S b + n ≤ 10) (hF0 : Fr [57, 58] [] S0 S) : ∀ (N i : Nat) (T : SS), WR T → Fr [57] [] S T → (∀ j, T.1 57 j = if 10 * b + mN S b ≤ j ∧ j < 10 * b + mN S b + i then S.1 57 (10 * a + mN S a - n + (j - (10 * b + mN S b))) else S.1 57 j) → i ≤ n → n < N + i → Ew (f_M_shift_L3 N (nI a) (nI b) (nI n) (nI i) T) (fun U => WR U ∧ Fr [57, 58] [] S0 U ∧ (∀ s, mN U s = if s = a then mN S a - n else if s = b then mN S b + n else mN S s) ∧ ∀ j, U.1 57 j = if 10 * b + mN S b ≤ j ∧ j < 10 * b + mN S b + n then S.1 57 (10 * a + mN S a - n + (j - (10 * b + mN S b))) else S.1 57 j)
  | 0, i, T, hW, hF, hj, hi, hN => by omega
  | N + 1, i, T, hW, hF, hj, hi, hN => by
    obtain ⟨la, ea⟩ := mN_le hW0 a
    obtain ⟨lb, eb⟩ := mN_le hW0 b
    have ta : T.1 58 a = nI (mN S a) := (hF.1 58 a rfl).trans ea
    have tb : T.1 58 b = nI (mN S b) := (hF.1 58 b rfl).trans eb
    refine v_eq (f_M_shift_L3.eq_2 _ _ _ _ _ _) ?_
    rw [nI_clamp (n := a) (by omega), nI_clamp (n := b) (by omega), ta, tb]
    refine v_i (fun q => ?_) (fun q => ?_)
    · have hin : i = n := by
        rcases Nat.lt_or_ge i n with e | e
        · exact absurd q (nI_ge e (by omega))
        · omega
      subst hin
      have sa : nI (mN S a) - nI i = nI (mN S a - i) := by
        rw [← Int32.toInt_inj, Int32.toInt_sub, nI_toInt (by omega), nI_toInt (by omega), nI_toInt (by omega), bm (by omega) (by omega)]
        omega
      refine v_grd (inb_nI ha (by omega)) ?_
      refine v_grd (inb_nI ha (by omega)) ?_
      rw [sa]
      refine v_wrA (fun T1 e1 g1 v1 => ?_)
      have hW1 := wo_58 hW (rg_nI (j := mN S a - i) (by omega) (by omega) (by omega)) e1
      have tb1 : T1.1 58 b = nI (mN S b) := by
        rw [e1, st_at, if_pos rfl, if_neg (Ne.symm hab)]; exact tb
      rw [tb1, nI_add]
      refine v_grd (inb_nI hb (by omega)) ?_
      refine v_grd (inb_nI hb (by omega)) ?_
      refine v_wrA (fun U e2 g2 v2 => ?_)
      have hW2 := wo_58 hW1 (rg_nI (j := mN S b + i) (by omega) (by omega) (by omega)) e2
      refine v_some ⟨hW2, ((hF0.tr hF rfl).tr g1 rfl).tr g2 rfl, fun s => ?_, fun j => ?_⟩
      · show (U.1 58 s).toNatClampNeg = _
        rw [e2, st_at, if_pos rfl]
        by_cases c1 : s = b
        · rw [if_pos c1, if_neg (by omega), if_pos c1, nI_clamp (by omega)]
        · rw [if_neg c1, e1, st_at, if_pos rfl]
          by_cases c2 : s = a
          · rw [if_pos c2, if_pos c2, nI_clamp (by omega)]
          · rw [if_neg c2, if_neg c2, if_neg c1, hF.1 58 s rfl]; rfl
      · rw [g2.1 57 j rfl, g1.1 57 j rfl]; exact hj j
    · have hin : i < n := by
        rcases Nat.lt_or_ge i n with e | e
        · exact e
        · exact absurd (nI_le e (by omega)) q
      have i1 : (((10 : Int32) * nI a + nI (mN S a)) - nI n) + nI i = nI (10 * a + mN S a - n + i) := by
        rw [show (10 : Int32) * nI a = nI (10 * a) from nI_mul 10 a, nI_add]
        rw [← Int32.toInt_inj, Int32.toInt_add, Int32.toInt_sub, nI_toInt (by omega), nI_toInt (by omega), nI_toInt (by omega), nI_toInt (by omega), bm (z := ((10 * a + mN S a : Nat) : Int) - (n : Int)) (by omega) (by omega), bm (by omega) (by omega)]
        omega
      have i2 : ((10 : Int32) * nI b + nI (mN S b)) + nI i = nI (10 * b + mN S b + i) := by
        rw [show (10 : Int32) * nI b = nI (10 * b) from nI_mul 10 b, nI_add, nI_add]
      rw [i1, i2, nI_clamp (n := 10 * a + mN S a - n + i) (by omega), nI_clamp (n := 10 * b + mN S b + i) (by omega)]
      refine v_grd (inb_nI hb (by omega)) ?_
      refine v_grd (inb_nI ha (by omega)) ?_
      refine v_grd (inb_nI (by omega) (by omega)) ?_
      refine v_grd (inb_nI (by omega) (by omega)) ?_
      refine v_wrA (fun T1 e1 g1 v1 => ?_)
      have hW1 := WR.st (k := 57) hW trivial rfl e1
      refine v_nm ?_
      rw [nI_1]
      refine shx_L3 hW0 ha hb hab hn hr hF0 N (i + 1) T1 hW1 (hF.tr g1 rfl) (fun j => ?_) (by omega) (by omega)
      rw [e1, st_at, if_pos rfl]
      by_cases c : j = 10 * b + mN S b + i
      · rw [if_pos c, if_pos (by omega), hj, if_neg (by omega), c]
        exact congrArg (S.1 57) (by omega)
      · rw [if_neg c, hj]
        by_cases c2 : 10 * b + mN S b ≤ j ∧ j < 10 * b + mN S b + i
        · rw [if_pos c2, if_pos (by omega)]
        · rw [if_neg c2, if_neg (by omega)]
/-- a MOVE on the rows is a MOVE on the lists -/
theorem shx {S : SS} {a b n : Nat} (hW : WR S) (ha : a < 4) (hb : b < 4) (hab : a ≠ b) (hn : n ≤ mN S a) (hr : mN S b + n ≤ 10) : Ew (f_M_shift (nI a) (nI b) (nI n) S) (fun U => WR U ∧ Fr [57, 58] [] S U ∧ cfS U = mvd a b n (cfS S)) := by
  obtain ⟨la, ea⟩ := mN_le hW a
  obtain ⟨lb, eb⟩ := mN_le hW b
  refine v_eq (f_M_shift.eq_1 _ _ _ _) ?_
  refine v_mono (shx_L3 hW ha hb hab hn hr Fr.rf NF 0 S hW Fr.rf (fun j => by rw [if_neg (by omega)]) (by omega) (by have : NF = 100000 := rfl; omega)) (fun U hU => ?_)
  obtain ⟨h1, h2, h3, h4⟩ := hU
  refine ⟨h1, h2, funext fun s => ?_⟩
  by_cases hs : s < 4
  · have hlen : (cfS S a).length = mN S a := cfS_len ha
    apply List.ext_getElem?
    intro i
    have hm := h3 s
    have hw : ∀ i, i < 10 → wN U s i = if s = b ∧ mN S b ≤ i ∧ i < mN S b + n then wN S a (mN S a - n + (i - mN S b)) else wN S s i := fun i hi => by
      unfold wN
      rw [h4]
      by_cases c : s = b ∧ mN S b ≤ i ∧ i < mN S b + n
      · obtain ⟨c1, c2, c3⟩ := c
        subst c1
        rw [if_pos (by omega), if_pos ⟨rfl, c2, c3⟩]
        exact congrArg (fun q => (S.1 57 q).toNatClampNeg) (by omega)
      · rw [if_neg c, if_neg (fun k => c ⟨by omega, by omega, by omega⟩)]
    have ls := (mN_le hW s).1
    unfold mvd
    by_cases c1 : s = a
    · subst c1
      rw [if_pos rfl] at hm
      rw [if_pos rfl, hlen, List.getElem?_take]
      by_cases hi : i < mN S s - n
      · rw [if_pos hi, cfS_get hs (by omega), cfS_get hs (by omega), hw i (by omega), if_neg (by omega)]
      · rw [if_neg hi, List.getElem?_eq_none (by rw [cfS_len hs]; omega)]
    · rw [if_neg c1] at hm
      rw [if_neg c1]
      by_cases c2 : s = b
      · subst c2
        rw [if_pos rfl] at hm
        rw [if_pos rfl, hlen]
        by_cases hi : i < mN S s
        · rw [List.getElem?_append_left (by rw [cfS_len hs]; exact hi), cfS_get hs (by omega), cfS_get hs hi, hw i (by omega), if_neg (by omega)]
        · rw [List.getElem?_append_right (by rw [cfS_len hs]; omega), cfS_len hs, List.getElem?_drop]
          by_cases hi2 : i < mN S s + n
          · rw [cfS_get hs (by omega), cfS_get ha (by omega), hw i (by omega), if_pos ⟨rfl, by omega, hi2⟩]
          · rw [List.getElem?_eq_none (by rw [cfS_len hs]; omega), List.getElem?_eq_none (by rw [hlen]; omega)]
      · rw [if_neg c2] at hm
        rw [if_neg c2]
        by_cases hi : i < mN S s
        · rw [cfS_get hs (by omega), cfS_get hs hi, hw i (by omega), if_neg (fun k => c2 k.1)]
        · rw [List.getElem?_eq_none (by rw [cfS_len hs]; omega), List.getElem?_eq_none (by rw [cfS_len hs]; omega)]
  · rw [cfS_far U (by omega)]
    unfold mvd
    rw [if_neg (by omega), if_neg (by omega), cfS_far S (by omega)]
end
section
/-! ===== the reference's code of a row of STACKS ===== -/
theorem nI_sb {a b : Nat} (h : b ≤ a) (ha : a < 2 ^ 31) : nI a - nI b = nI (a - b) := by
  rw [← Int32.toInt_inj, Int32.toInt_sub, nI_toInt (by omega), nI_toInt (by omega), nI_toInt (by omega), bm (by omega) (by omega)]
  omega
theorem rk_L2 {S : SS} {w : Int32} {n k : Nat} (h81 : S.1 0 81 = nI n) (hn : n ≤ 10) (hk : k < n) (hw : S.1 54 k = w) (hd : ∀ j, j < k → S.1 54 j ≠ w) : ∀ (N i : Nat), i ≤ k → n < N + i → f_M_rankOf_L2 N w (nI i) S = some (nI k, S)
  | 0, i, hi, hN => by omega
  | N + 1, i, hi, hN => by
    rw [f_M_rankOf_L2.eq_2, h81, if_neg (nI_ge (by omega) (by omega)), inb_nI (by omega) (by omega), nI_clamp (n := i) (by omega)]
    show (if S.1 54 i = w then f_M_rankOf_j26 (nI i) S else nm (nI i + 1) _) = _
    by_cases c : i = k
    · subst c
      rw [if_pos hw, f_M_rankOf_j26.eq_1, h81, if_neg (nI_ge (by omega) (by omega))]
    · rw [if_neg (hd i (by omega))]
      show f_M_rankOf_L2 N w (nI i + 1) S = _
      rw [nI_1]
      exact rk_L2 h81 hn hk hw hd N (i + 1) (by omega) (by omega)
theorem rk {S : SS} {w : Int32} {n k : Nat} (h81 : S.1 0 81 = nI n) (hn : n ≤ 10) (hk : k < n) (hw : S.1 54 k = w) (hd : ∀ j, j < k → S.1 54 j ≠ w) : f_M_rankOf w S = some (nI k, S) := by
  rw [f_M_rankOf.eq_1]
  exact rk_L2 h81 hn hk hw hd NF 0 (by omega) (by have : NF = 100000 := rfl; omega)
/-- where STACK s begins in the one list -/
def off (S : SS) : Nat → Nat
  | 0 => 0
  | s + 1 => off S s + mN S s
/-- f tells the rank of each WAGON in the one list -/
def Rk (S : SS) (n : Nat) (f : Nat → Nat) : Prop := ∀ s i, s < 4 → i < mN S s → f (off S s + i) < n ∧ S.1 54 (f (off S s + i)) = S.1 57 (10 * s + i)
def PWd (S : SS) (n : Nat) : Prop := S.1 0 81 = nI n ∧ n ≤ 5 ∧ ∀ i j, i < n → j < n → S.1 54 i = S.1 54 j → i = j
theorem co_L28 {S : SS} {K : Int32 → Int32 → SS → Option (Int32 × SS)} {P : Int32 → SS → Prop} {n s : Nat} {f : Nat → Nat} (hW0 : WR S) (hp : PWd S n) (hf : Rk S n f) (hs : s < 4) (hoff : off S s + mN S s ≤ n) (hK : ∀ T, WR T → Fr [59] [] S T → (∀ j, j < off S s + mN S s → T.1 59 j = nI (f j)) → Ex2 (K (nI (off S s + mN S s)) (nI (s + 1)) T) P) : ∀ (N i : Nat) (T : SS), WR T → Fr [59] [] S T → (∀ j, j < off S s + i → T.1 59 j = nI (f j)) → i ≤ mN S s → mN S s < N + i → Ex2 (f_M_code_L28 K N (nI (off S s + i)) (nI s) (nI i) T) P
  | 0, i, T, hW, hF, hj, hi, hN => by omega
  | N + 1, i, T, hW, hF, hj, hi, hN => by
    obtain ⟨h81, hn5, hd⟩ := hp
    obtain ⟨lm, em⟩ := mN_le hW0 s
    refine e_eq (f_M_code_L28.eq_2 _ _ _ _ _ _) ?_
    rw [nI_clamp (n := s) (by omega), hF.1 58 s rfl, em]
    refine e_grd (inb_nI hs (by omega)) ?_
    refine e_i (fun q => ?_) (fun q => ?_)
    · have : i = mN S s := by
        rcases Nat.lt_or_ge i (mN S s) with e | e
        · exact absurd q (nI_ge e (by omega))
        · omega
      subst this
      refine e_nm ?_
      rw [nI_1]
      exact hK T hW hF hj
    · have him : i < mN S s := by
        rcases Nat.lt_or_ge i (mN S s) with e | e
        · exact e
        · exact absurd (nI_le e (by omega)) q
      obtain ⟨f1, f2⟩ := hf s i hs him
      have e : (10 : Int32) * nI s + nI i = nI (10 * s + i) := by
        rw [show (10 : Int32) * nI s = nI (10 * s) from nI_mul 10 s, nI_add]
      rw [e, nI_clamp (n := 10 * s + i) (by omega)]
      refine e_grd (inb_nI (by omega) (by omega)) ?_
      have hrk := rk (S := T) (w := T.1 57 (10 * s + i)) (n := n) (k := f (off S s + i)) ((hF.1 0 81 rfl).trans h81) (by omega) f1 (by rw [hF.1 54 _ rfl, hF.1 57 _ rfl]; exact f2) (fun j hj2 k => by
        rw [hF.1 54 _ rfl, hF.1 57 _ rfl, ← f2] at k
        have := hd j _ (by omega) f1 k
        omega)
      rw [hrk, bnd_r]
      refine e_grd (inb_nI (by omega) (by omega)) ?_
      rw [nI_clamp (n := off S s + i) (by omega)]
      refine e_wrA (fun U eU gU vU => ?_)
      have hW1 := WR.st (k := 59) hW trivial rfl eU
      refine e_grd (inb_nI (by omega) (by omega)) ?_
      rw [vU]
      refine e_f (nI_m4 (by omega)) ?_
      refine e_nm ?_
      refine e_nm ?_
      rw [nI_1, nI_1, show off S s + i + 1 = off S s + (i + 1) by omega]
      refine co_L28 hW0 ⟨h81, hn5, hd⟩ hf hs hoff hK N (i + 1) U hW1 (hF.tr gU rfl) (fun j hj2 => ?_) (by omega) (by omega)
      rw [eU, st_at, if_pos rfl]
      by_cases c : j = off S s + i
      · rw [if_pos c, c]
      · rw [if_neg c]; exact hj j (by omega)
/-- how many behind i are less -/
def lss (f : Nat → Nat) (i : Nat) : Nat → Nat → Nat
  | 0, _ => 0
  | d + 1, j => (if f j < f i then 1 else 0) + lss f i d (j + 1)
def leh (f : Nat → Nat) (n : Nat) : Nat → Nat → Nat → Nat
  | 0, _, c => c
  | d + 1, i, c => leh f n d (i + 1) (c * (n - i) + lss f i (n - (i + 1)) (i + 1))
theorem co_L105 {T : SS} {K : Int32 → Int32 → Int32 → SS → Option (Int32 × SS)} {P : Int32 → SS → Prop} {n i c : Nat} {f : Nat → Nat} (hn : n ≤ 5) (hi : i < n) (hf : ∀ j, j < n → T.1 59 j = nI (f j) ∧ f j < 10) : ∀ (d j less N : Nat), j + d = n → d < N → Ex2 (K (nI n) (nI (c * (n - i) + (less + lss f i d j))) (nI (i + 1)) T) P → Ex2 (f_M_code_L105 K N (nI n) (nI c) (nI i) (nI less) (nI j) T) P
  | d, j, less, 0, hj, hN, h => by omega
  | 0, j, less, N + 1, hj, hN, h => by
    refine e_eq (f_M_code_L105.eq_2 _ _ _ _ _ _ _ _) ?_
    refine e_t (nI_le (by omega) (by omega)) ?_
    refine e_nm ?_
    refine e_nm ?_
    rw [nI_sb (by omega) (by omega), nI_mul, nI_add, nI_1]
    exact h
  | d + 1, j, less, N + 1, hj, hN, h => by
    refine e_eq (f_M_code_L105.eq_2 _ _ _ _ _ _ _ _) ?_
    refine e_f (nI_ge (by omega) (by omega)) ?_
    refine e_grd (inb_nI (by omega) (by omega)) ?_
    refine e_grd (inb_nI (by omega) (by omega)) ?_
    have hfi := hf i hi
    have hfj := hf j (by omega)
    rw [nI_clamp (n := i) (by omega), nI_clamp (n := j) (by omega), hfi.1, hfj.1]
    refine e_i (fun q => ?_) (fun q => ?_)
    · refine e_eq (f_M_code_j134.eq_1 _ _ _ _ _ _ _ _) ?_
      refine e_nm ?_
      refine e_nm ?_
      rw [nI_1, show nI less + (0 : Int32) = nI less from nI_add less 0]
      refine co_L105 hn hi hf d (j + 1) less N (by omega) (by omega) ?_
      have : ¬ f j < f i := fun k => nI_ge k (by omega) q
      unfold lss at h
      rw [if_neg this, Nat.zero_add] at h
      exact h
    · refine e_eq (f_M_code_j134.eq_1 _ _ _ _ _ _ _ _) ?_
      refine e_nm ?_
      refine e_nm ?_
      rw [nI_1, nI_1]
      refine co_L105 hn hi hf d (j + 1) (less + 1) N (by omega) (by omega) ?_
      have : f j < f i := by
        rcases Nat.lt_or_ge (f j) (f i) with k | k
        · exact k
        · exact absurd (nI_le k (by omega)) q
      unfold lss at h
      rw [if_pos this, ← Nat.add_assoc less 1] at h
      exact h
/-- the code of a row of STACKS -/
def cdN (S : SS) (n : Nat) (f : Nat → Nat) : Nat := leh f n n 0 0 * 216 + mN S 0 * 36 + mN S 1 * 6 + mN S 2
theorem co_L92 {S0 S T : SS} {n : Nat} {f : Nat → Nat} (hW0 : WR S) (hn : n ≤ 5) (hW : WR T) (hF : Fr [59] [] S T) (hF0 : Fr [59] [] S0 S) (hf : ∀ j, j < n → T.1 59 j = nI (f j) ∧ f j < 10) : ∀ (d i c N : Nat), i + d = n → d < N → Ex2 (f_M_code_L92 N (nI n) (nI c) (nI i) T) (fun r U => WR U ∧ Fr [59] [] S0 U ∧ r = nI (leh f n d i c * 216 + mN S 0 * 36 + mN S 1 * 6 + mN S 2))
  | d, i, c, 0, hi, hN => by omega
  | 0, i, c, N + 1, hi, hN => by
    refine e_eq (f_M_code_L92.eq_2 _ _ _ _ _) ?_
    refine e_t (nI_le (by omega) (by omega)) ?_
    refine e_grd rfl ?_
    refine e_grd rfl ?_
    refine e_grd rfl ?_
    refine e_some ⟨hW, hF0.tr hF rfl, ?_⟩
    rw [show (0 : Int32).toNatClampNeg = 0 by decide, show (1 : Int32).toNatClampNeg = 1 by decide, show (2 : Int32).toNatClampNeg = 2 by decide, hF.1 58 0 rfl, hF.1 58 1 rfl, hF.1 58 2 rfl, (mN_le hW0 0).2, (mN_le hW0 1).2, (mN_le hW0 2).2, show nI c * (216 : Int32) = nI (c * 216) from nI_mul c 216, show nI (mN S 0) * (36 : Int32) = nI (mN S 0 * 36) from nI_mul _ 36, show nI (mN S 1) * (6 : Int32) = nI (mN S 1 * 6) from nI_mul _ 6, nI_add, nI_add, nI_add]
    rfl
  | d + 1, i, c, N + 1, hi, hN => by
    refine e_eq (f_M_code_L92.eq_2 _ _ _ _ _) ?_
    refine e_f (nI_ge (by omega) (by omega)) ?_
    refine e_nm ?_
    rw [nI_1]
    refine co_L105 hn (by omega) hf (n - (i + 1)) (i + 1) 0 NF (by omega) (by have : NF = 100000 := rfl; omega) ?_
    rw [Nat.zero_add]
    exact co_L92 hW0 hn hW hF hF0 hf d (i + 1) _ N (by omega) (by omega)
theorem off_4 (S : SS) : off S 4 = mN S 0 + mN S 1 + mN S 2 + mN S 3 := by
  show 0 + mN S 0 + mN S 1 + mN S 2 + mN S 3 = _
  omega
theorem off_le (S : SS) {s : Nat} (hs : s < 4) : off S s + mN S s ≤ off S 4 := by
  rw [off_4]
  rcases (show s = 0 ∨ s = 1 ∨ s = 2 ∨ s = 3 by omega) with rfl | rfl | rfl | rfl
  · show 0 + mN S 0 ≤ _; omega
  · show 0 + mN S 0 + mN S 1 ≤ _; omega
  · show 0 + mN S 0 + mN S 1 + mN S 2 ≤ _; omega
  · show 0 + mN S 0 + mN S 1 + mN S 2 + mN S 3 ≤ _; omega
theorem off_in (S : SS) {j : Nat} (hj : j < off S 4) : ∃ s i, s < 4 ∧ i < mN S s ∧ j = off S s + i := by
  rw [off_4] at hj
  by_cases c0 : j < mN S 0
  · exact ⟨0, j, by omega, c0, by show j = 0 + j; omega⟩
  · by_cases c1 : j < mN S 0 + mN S 1
    · exact ⟨1, j - mN S 0, by omega, by omega, by show j = 0 + mN S 0 + (j - mN S 0); omega⟩
    · by_cases c2 : j < mN S 0 + mN S 1 + mN S 2
      · exact ⟨2, j - (mN S 0 + mN S 1), by omega, by omega, by show j = 0 + mN S 0 + mN S 1 + (j - (mN S 0 + mN S 1)); omega⟩
      · exact ⟨3, j - (mN S 0 + mN S 1 + mN S 2), by omega, by omega, by show j = 0 + mN S 0 + mN S 1 + mN S 2 + (j - (mN S 0 + mN S 1 + mN S 2)); omega⟩
theorem co_L21 {S : SS} {n : Nat} {f : Nat → Nat} (hW0 : WR S) (hp : PWd S n) (hf : Rk S n f) (hoff : off S 4 = n) : ∀ (N s : Nat) (T : SS), WR T → Fr [59] [] S T → (∀ j, j < off S s → T.1 59 j = nI (f j)) → s ≤ 4 → 4 < N + s → Ex2 (f_M_code_L21 N (nI (off S s)) (nI s) T) (fun r U => WR U ∧ Fr [59] [] S U ∧ r = nI (cdN S n f))
  | 0, s, T, hW, hF, hj, hs, hN => by omega
  | N + 1, s, T, hW, hF, hj, hs, hN => by
    have hn5 := hp.2.1
    refine e_eq (f_M_code_L21.eq_2 _ _ _ _) ?_
    refine e_i (fun q => ?_) (fun q => ?_)
    · have : s = 4 := by
        rcases Nat.lt_or_ge s 4 with e | e
        · exact absurd q (nI_ge (b := 4) e (by omega))
        · omega
      subst this
      rw [hoff]
      refine co_L92 hW0 hn5 hW hF Fr.rf (fun j hjn => ⟨hj j (by omega), ?_⟩) n 0 0 NF (by omega) (by have : NF = 100000 := rfl; omega)
      obtain ⟨s, i, h1, h2, rfl⟩ := off_in S (j := j) (by omega)
      have := (hf s i h1 h2).1
      omega
    · have hs4 : s < 4 := by
        rcases Nat.lt_or_ge s 4 with e | e
        · exact e
        · exact absurd (nI_le (a := 4) e (by omega)) q
      have hle := off_le S hs4
      have lm := (mN_le hW0 s).1
      refine co_L28 hW0 hp hf hs4 (by omega) (fun T' hW' hF' hj' => ?_) NF 0 T hW hF hj (by omega) (by have : NF = 100000 := rfl; omega)
      exact co_L21 hW0 hp hf hoff N (s + 1) T' hW' hF' hj' (by omega) (by omega)
/-- code() tells the code -/
theorem cox {S : SS} {n : Nat} {f : Nat → Nat} (hW : WR S) (hp : PWd S n) (hf : Rk S n f) (hoff : off S 4 = n) : Ex2 (f_M_code S) (fun r U => WR U ∧ Fr [59] [] S U ∧ r = nI (cdN S n f)) := by
  have hn5 := hp.2.1
  refine e_eq (f_M_code.eq_1 _) ?_
  refine e_bnd ?_
  refine e_eq (f_M_sumOf_M_many.eq_1 _) ?_
  refine e_grd rfl ?_
  refine e_grd rfl ?_
  refine e_grd rfl ?_
  refine e_grd rfl ?_
  refine e_some ?_
  refine e_t ?_ ?_
  · rw [show (0 : Int32).toNatClampNeg = 0 by decide, show (1 : Int32).toNatClampNeg = 1 by decide, show (2 : Int32).toNatClampNeg = 2 by decide, show (3 : Int32).toNatClampNeg = 3 by decide, (mN_le hW 0).2, (mN_le hW 1).2, (mN_le hW 2).2, (mN_le hW 3).2, nI_add, nI_add, nI_add, hp.1, ← hoff, off_4]
  · exact co_L21 hW hp hf hoff NF 0 S hW Fr.rf (fun j hj => absurd hj (by show ¬ j < 0; omega)) (by omega) (by have : NF = 100000 := rfl; omega)
end
section
/-! ===== the reference's decode ===== -/
def bt (u k : Nat) : Bool := decide (u / 2 ^ k % 2 = 1)
theorem bt_c : ∀ u : Fin 32, ∀ k : Fin 6, ((((nI u.1) >>> ((nI k.1) &&& 31)) &&& (1 : Int32)) = 1) ↔ bt u.1 k.1 = true := by decide +kernel
theorem bt_o : ∀ u : Fin 32, ∀ k : Fin 5, (nI u.1) ||| ((1 : Int32) <<< ((nI k.1) &&& 31)) = nI (u.1 ||| 2 ^ k.1) := by decide +kernel
/-- the number of places left among those not used -/
def pk (u : Nat) : Nat → Nat → Nat → Option Nat
  | 0, _, _ => none
  | d + 1, left, k => if bt u k = true then pk u d left (k + 1) else if left = 0 then some k else pk u d (left - 1) (k + 1)
theorem de_L154 {S : SS} {K : Int32 → Int32 → Int32 → Int32 → SS → Option SS} {P : SS → Prop} {u r : Nat} {x5 x6 x7 : Int32} (hu : u < 32) (hr : r < 5) (hk : Ew (f_M_decode_L206 K NF (nI (u ||| 2 ^ r)) x5 x6 x7 (nI r) S) P) : ∀ (d left k N : Nat), d < N → k + d ≤ 5 → left ≤ 10 → pk u d left k = some r → Ew (f_M_decode_L154 K N (nI u) x5 x6 x7 (nI left) (nI k) S) P
  | d, left, k, 0, hN, hd, hl, h => by omega
  | 0, left, k, N + 1, hN, hd, hl, h => by cases h
  | d + 1, left, k, N + 1, hN, hd, hl, h => by
    have hb := bt_c ⟨u, hu⟩ ⟨k, by omega⟩
    refine v_eq (f_M_decode_L154.eq_2 _ _ _ _ _ _ _ _ _) ?_
    unfold pk at h
    by_cases c : bt u k = true
    · rw [if_pos c] at h
      refine v_t (hb.mpr c) ?_
      refine v_eq (f_M_decode_j170.eq_1 _ _ _ _ _ _ _ _) ?_
      refine v_t (hb.mpr c) ?_
      refine v_eq (f_M_decode_j188.eq_1 _ _ _ _ _ _ _ _ _) ?_
      refine v_nm ?_
      refine v_nm ?_
      rw [nI_1, show nI left - (0 : Int32) = nI left from Int32.sub_zero _]
      exact de_L154 hu hr hk d left (k + 1) N (by omega) (by omega) hl h
    · rw [if_neg c] at h
      refine v_f (fun q => c (hb.mp q)) ?_
      by_cases c2 : left = 0
      · rw [if_pos c2] at h
        subst c2
        cases h
        refine v_t (by decide) ?_
        refine v_nm ?_
        rw [bt_o ⟨u, hu⟩ ⟨r, hr⟩]
        exact hk
      · rw [if_neg c2] at h
        refine v_f (nI_nle (by omega) (by omega)) ?_
        refine v_eq (f_M_decode_j170.eq_1 _ _ _ _ _ _ _ _) ?_
        refine v_f (fun q => c (hb.mp q)) ?_
        refine v_eq (f_M_decode_j188.eq_1 _ _ _ _ _ _ _ _ _) ?_
        refine v_nm ?_
        refine v_nm ?_
        rw [nI_1, show nI left - (1 : Int32) = nI (left - 1) from nI_sb (b := 1) (by omega) (by omega)]
        exact de_L154 hu hr hk d (left - 1) (k + 1) N (by omega) (by omega) (by omega) h
/-- from a place of the one list to the STACK that has it -/
theorem de_L206 {S T : SS} {K : Int32 → Int32 → Int32 → Int32 → SS → Option SS} {P : SS → Prop} {u r i : Nat} (hW0 : WR S) (hW : WR T) (hF : Fr [57] [] S T) (hr : r < 5) (hi : i < off S 4) (hK : ∀ s at' U, s < 4 → at' < mN S s → i = off S s + at' → WR U → Fr [57] [] S U → (∀ j, U.1 57 j = if j = 10 * s + at' then S.1 54 r else T.1 57 j) → Ew (K (nI u) (nI s) (nI (at' + 1)) (nI (i + 1)) U) P) : ∀ (N s at' : Nat), s < 4 → at' ≤ mN S s → i = off S s + at' → 4 - s < N → Ew (f_M_decode_L206 K N (nI u) (nI s) (nI at') (nI i) (nI r) T) P
  | 0, s, at', hs, ha, he, hN => by omega
  | N + 1, s, at', hs, ha, he, hN => by
    obtain ⟨lm, em⟩ := mN_le hW0 s
    refine v_eq (f_M_decode_L206.eq_2 _ _ _ _ _ _ _ _) ?_
    rw [nI_clamp (n := s) (by omega), hF.1 58 s rfl, em]
    refine v_grd (inb_nI hs (by omega)) ?_
    refine v_i (fun q => ?_) (fun q => ?_)
    · have e : at' = mN S s := (nI_eq (by omega) (by omega)).mp q
      have hs3 : s < 3 := by
        rcases Nat.lt_or_ge s 3 with c | c
        · exact c
        · have : s = 3 := by omega
          subst this
          have : off S 4 = off S 3 + mN S 3 := rfl
          omega
      refine v_nm ?_
      rw [nI_1]
      exact de_L206 hW0 hW hF hr hi hK N (s + 1) 0 (by omega) (by omega) (by show i = off S s + mN S s + 0; omega) (by omega)
    · have hlt : at' < mN S s := by
        rcases Nat.lt_or_ge at' (mN S s) with c | c
        · exact c
        · exact absurd (by rw [show at' = mN S s by omega]) q
      have e : (10 : Int32) * nI s + nI at' = nI (10 * s + at') := by
        rw [show (10 : Int32) * nI s = nI (10 * s) from nI_mul 10 s, nI_add]
      refine v_grd (inb_nI (by omega) (by omega)) ?_
      rw [e, nI_clamp (n := 10 * s + at') (by omega), nI_clamp (n := r) (by omega)]
      refine v_grd (inb_nI (by omega) (by omega)) ?_
      refine v_wrA (fun U eU gU vU => ?_)
      have hW1 := WR.st (k := 57) hW trivial rfl eU
      refine v_nm ?_
      refine v_nm ?_
      rw [nI_1, nI_1]
      refine hK s at' U hs hlt he hW1 (hF.tr gU rfl) (fun j => ?_)
      rw [eU, st_at, if_pos rfl, hF.1 54 r rfl]
/-- all places: p tells which rank comes there, us what was used ahead of it -/
theorem de_L133 {S0 S : SS} {n : Nat} {fl p us : Nat → Nat} (hW0 : WR S) (hF0 : Fr [57, 58, 59] [] S0 S) (h81 : S.1 0 81 = nI n) (hn : n ≤ 5) (hoff : off S 4 = n) (hfl : ∀ i, i < n → S.1 59 i = nI (fl i) ∧ fl i ≤ 5) (hch : ∀ i, i < n → us i < 32 ∧ p i < 5 ∧ pk (us i) 5 (fl i) 0 = some (p i) ∧ us (i + 1) = us i ||| 2 ^ p i) : ∀ (N i s at' : Nat) (T : SS), WR T → Fr [57] [] S T → s < 4 → at' ≤ mN S s → i = off S s + at' → (∀ s' j, s' < 4 → j < mN S s' → off S s' + j < i → T.1 57 (10 * s' + j) = S.1 54 (p (off S s' + j))) → i ≤ n → n < N + i → Ew (f_M_decode_L133 N (nI (us i)) (nI s) (nI at') (nI i) T) (fun U => WR U ∧ Fr [57, 58, 59] [] S0 U ∧ Fr [57] [] S U ∧ ∀ s' j, s' < 4 → j < mN S s' → U.1 57 (10 * s' + j) = S.1 54 (p (off S s' + j)))
  | 0, i, s, at', T, hW, hF, hs, ha, he, hj, hi, hN => by omega
  | N + 1, i, s, at', T, hW, hF, hs, ha, he, hj, hi, hN => by
    refine v_eq (f_M_decode_L133.eq_2 _ _ _ _ _ _) ?_
    rw [hF.1 0 81 rfl, h81]
    refine v_i (fun q => ?_) (fun q => ?_)
    · have : i = n := by
        rcases Nat.lt_or_ge i n with c | c
        · exact absurd q (nI_ge c (by omega))
        · omega
      refine v_some ⟨hW, hF0.tr hF rfl, hF, fun s' j h1 h2 => hj s' j h1 h2 ?_⟩
      have := off_le S h1
      omega
    · have hin : i < n := by
        rcases Nat.lt_or_ge i n with c | c
        · exact c
        · exact absurd (nI_le c (by omega)) q
      obtain ⟨c1, c2, c3, c4⟩ := hch i hin
      refine v_grd (inb_nI (by omega) (by omega)) ?_
      refine v_nm ?_
      rw [nI_clamp (n := i) (by omega), hF.1 59 i rfl, (hfl i hin).1]
      refine de_L154 c1 c2 ?_ 5 (fl i) 0 NF (by have : NF = 100000 := rfl; omega) (by omega) (by have := (hfl i hin).2; omega) c3
      refine de_L206 hW0 hW hF c2 (by omega) (fun s2 at2 U h1 h2 h3 h4 h5 h6 => ?_) NF s at' hs ha he (by have : NF = 100000 := rfl; omega)
      rw [← c4]
      refine de_L133 hW0 hF0 h81 hn hoff hfl hch N (i + 1) s2 (at2 + 1) U h4 h5 h1 (by omega) (by omega) (fun s' j k1 k2 k3 => ?_) (by omega) (by omega)
      rw [h6]
      have l1 := (mN_le hW0 s').1
      have l2 := (mN_le hW0 s2).1
      by_cases c : 10 * s' + j = 10 * s2 + at2
      · have d1 : s' = s2 := by omega
        have d2 : j = at2 := by omega
        subst d1; subst d2
        rw [if_pos rfl, h3]
      · rw [if_neg c]
        refine hj s' j k1 k2 ?_
        rcases Nat.lt_or_ge (off S s' + j) i with d | d
        · exact d
        · exfalso
          have e3 : off S s' + j = off S s2 + at2 := by omega
          -- one place of the one list lies on one STACK
          have o0 : off S 0 = 0 := rfl
          have o1 : off S 1 = off S 0 + mN S 0 := rfl
          have o2 : off S 2 = off S 1 + mN S 1 := rfl
          have o3 : off S 3 = off S 2 + mN S 2 := rfl
          have d1 : s' = s2 := by
            rcases (show s' = 0 ∨ s' = 1 ∨ s' = 2 ∨ s' = 3 by omega) with rfl | rfl | rfl | rfl <;> rcases (show s2 = 0 ∨ s2 = 1 ∨ s2 = 2 ∨ s2 = 3 by omega) with rfl | rfl | rfl | rfl <;> first | rfl | (exfalso; omega)
          subst d1
          exact c (by omega)
end
section
/-! ===== decode's digits ===== -/
theorem nI_ti {a : Nat} (h : a < 2 ^ 31) : (nI a).toInt = (a : Int) := Int32.toInt_ofNat_of_lt h
theorem nI_div {a b : Nat} (ha : a < 2 ^ 31) (hb : b < 2 ^ 31) (h0 : 0 < b) : nI a / nI b = nI (a / b) := by
  apply Int32.toInt_inj.mp
  have h1 := nI_ti ha
  have h2 := nI_ti hb
  have h3 : a / b < 2 ^ 31 := Nat.lt_of_le_of_lt (Nat.div_le_self _ _) ha
  rw [dv_toInt h2 (by omega) (by rw [h1]; omega), h1, nI_ti h3]
  exact (Int.natCast_ediv a b).symm
theorem nI_rem {a b : Nat} (ha : a < 2 ^ 31) (hb : b < 2 ^ 31) (h0 : 0 < b) : nI a - nI a / nI b * nI b = nI (a % b) := by
  apply Int32.toInt_inj.mp
  have h1 := nI_ti ha
  have h2 := nI_ti hb
  have h3 : a % b < 2 ^ 31 := Nat.lt_trans (Nat.mod_lt _ h0) hb
  rw [rm_toInt h2 (by omega) (by rw [h1]; omega), h1, nI_ti h3]
  exact (Int.natCast_emod a b).symm
/-- what is left of a number of an order after j digits -/
def rsA (L : Nat) : Nat → Nat
  | 0 => L
  | j + 1 => rsA L j / (j + 1)
theorem rsA_le (L : Nat) : ∀ j, rsA L j ≤ L
  | 0 => Nat.le_refl _
  | j + 1 => Nat.le_trans (Nat.div_le_self _ _) (rsA_le L j)
/-- the digit of place i -/
def dgA (n L i : Nat) : Nat := rsA L (n - 1 - i) % (n - i)
theorem nI_nz {a : Nat} (ha : a < 2 ^ 31) (h0 : 0 < a) : (!(decide (nI a = 0))) = true := by
  have : ¬ nI a = nI 0 := fun q => by
    have := (nI_eq (a := a) (b := 0) (by omega) (by omega)).mp q
    omega
  rw [decide_eq_false (p := nI a = 0) this]
  rfl
theorem de_L84 {S : SS} {P : SS → Prop} {n L : Nat} (h81 : S.1 0 81 = nI n) (hn : n ≤ 5) (hL : L < 1000) (hk : ∀ U, WR U → Fr [59] [] S U → (∀ i, i < n → U.1 59 i = nI (dgA n L i)) → Ew (f_M_decode_L133 NF 0 0 0 0 U) P) : ∀ (N j : Nat) (x : Int32) (T : SS), WR T → Fr [59] [] S T → ((j = n ∧ x = -1) ∨ (j < n ∧ x = nI (n - 1 - j))) → (∀ i, n - j ≤ i → i < n → T.1 59 i = nI (dgA n L i)) → n < N + j → Ew (f_M_decode_L84 N (nI (rsA L j)) x T) P
  | 0, j, x, T, hW, hF, hx, hd, hN => by omega
  | N + 1, j, x, T, hW, hF, hx, hd, hN => by
    refine v_eq (f_M_decode_L84.eq_2 _ _ _ _) ?_
    rcases hx with ⟨e, rfl⟩ | ⟨e, rfl⟩
    · refine v_t (by decide) ?_
      exact hk T hW hF (fun i hi => hd i (by omega) hi)
    · have hl := rsA_le L j
      refine v_f (nI_pos (by omega)) ?_
      have e1 : T.1 0 81 - nI (n - 1 - j) = nI (j + 1) := by
        rw [hF.1 0 81 rfl, h81, nI_sb (by omega) (by omega)]
        exact congrArg nI (by omega)
      rw [e1]
      refine v_grd (nI_nz (by omega) (by omega)) ?_
      refine v_grd (inb_nI (by omega) (by omega)) ?_
      rw [nI_clamp (n := n - 1 - j) (by omega), nI_rem (a := rsA L j) (b := j + 1) (by omega) (by omega) (by omega)]
      refine v_wrA (fun U eU gU vU => ?_)
      have hW1 := WR.st (k := 59) hW trivial rfl eU
      have e2 : U.1 0 81 - nI (n - 1 - j) = nI (j + 1) := by rw [gU.1 0 81 rfl]; exact e1
      rw [e2]
      refine v_grd (nI_nz (by omega) (by omega)) ?_
      refine v_nm ?_
      refine v_nm ?_
      rw [nI_div (a := rsA L j) (b := j + 1) (by omega) (by omega) (by omega)]
      refine de_L84 h81 hn hL hk N (j + 1) _ U hW1 (hF.tr gU rfl) ?_ (fun i h1 h2 => ?_) (by omega)
      · by_cases c : j + 1 = n
        · refine Or.inl ⟨c, ?_⟩
          rw [show n - 1 - j = 0 by omega]
          decide
        · refine Or.inr ⟨by omega, ?_⟩
          have q : nI (n - 1 - j) - nI 1 = nI (n - 1 - j) + (-1 : Int32) := by
            rw [Int32.sub_eq_add_neg, show -(nI 1) = (-1 : Int32) by decide]
          rw [← q, nI_sb (by omega) (by omega)]
          exact congrArg nI (by omega)
      · rw [eU, st_at]
        by_cases c : i = n - 1 - j
        · rw [if_pos rfl, if_pos c]
          unfold dgA
          rw [show n - 1 - i = j by omega, show n - i = j + 1 by omega]
        · rw [if_pos rfl, if_neg c]
          exact hd i (by omega) h2
/-! ===== the numbers of the orders: pure ===== -/
/-- the ranks that decode lays, and what it has used ahead of each -/
def chU (n L : Nat) : Nat → Nat
  | 0 => 0
  | i + 1 => chU n L i ||| 2 ^ ((pk (chU n L i) 5 (dgA n L i) 0).getD 9)
def chP (n L i : Nat) : Nat := (pk (chU n L i) 5 (dgA n L i) 0).getD 9
def fcN : Nat → Nat
  | 0 => 1
  | n + 1 => (n + 1) * fcN n
def chOk (n L : Nat) : Bool := (List.range n).all (fun i => decide (chU n L i < 32) && decide (chP n L i < n) && decide (pk (chU n L i) 5 (dgA n L i) 0 = some (chP n L i)) && decide (dgA n L i ≤ 5)) && decide (leh (chP n L) n n 0 0 = L) && (List.range n).all (fun i => (List.range n).all (fun j => i == j || !(chP n L i == chP n L j)))
theorem chOk_all : ((List.range 6).all (fun n => (List.range (fcN n)).all (fun L => chOk n L))) = true := by decide +kernel
end
section
/-! ===== decode told exactly ===== -/
theorem ch_ok {n L : Nat} (hn : n ≤ 5) (hL : L < fcN n) : chOk n L = true := by
  have h := List.all_eq_true.mp chOk_all n (List.mem_range.mpr (by omega))
  exact List.all_eq_true.mp h L (List.mem_range.mpr hL)
theorem ch_i {n L : Nat} (hn : n ≤ 5) (hL : L < fcN n) : (∀ i, i < n → chU n L i < 32 ∧ chP n L i < n ∧ pk (chU n L i) 5 (dgA n L i) 0 = some (chP n L i) ∧ dgA n L i ≤ 5) ∧ leh (chP n L) n n 0 0 = L ∧ ∀ i j, i < n → j < n → chP n L i = chP n L j → i = j := by
  have h := ch_ok hn hL
  unfold chOk at h
  rw [Bool.and_eq_true, Bool.and_eq_true] at h
  obtain ⟨⟨h1, h2⟩, h3⟩ := h
  refine ⟨fun i hi => ?_, of_decide_eq_true h2, fun i j hi hj e => ?_⟩
  · have q := List.all_eq_true.mp h1 i (List.mem_range.mpr hi)
    rw [Bool.and_eq_true, Bool.and_eq_true, Bool.and_eq_true] at q
    exact ⟨of_decide_eq_true q.1.1.1, of_decide_eq_true q.1.1.2, of_decide_eq_true q.1.2, of_decide_eq_true q.2⟩
  · have q := List.all_eq_true.mp (List.all_eq_true.mp h3 i (List.mem_range.mpr hi)) j (List.mem_range.mpr hj)
    rw [e] at q
    simpa using q
theorem fcN_le {n : Nat} (hn : n ≤ 5) : fcN n ≤ 120 := by
  rcases (show n = 0 ∨ n = 1 ∨ n = 2 ∨ n = 3 ∨ n = 4 ∨ n = 5 by omega) with rfl | rfl | rfl | rfl | rfl | rfl <;> decide
theorem mN_of {S : SS} {s m : Nat} (h : S.1 58 s = nI m) (hm : m < 2 ^ 31) : mN S s = m := by
  unfold mN
  rw [h]
  exact nI_clamp hm
theorem off_fr {S U : SS} (h : ∀ s, U.1 58 s = S.1 58 s) : ∀ s, off U s = off S s
  | 0 => rfl
  | s + 1 => by
    show off U s + mN U s = off S s + mN S s
    rw [off_fr h s]
    unfold mN
    rw [h s]
theorem dex {S : SS} {n L m0 m1 m2 c : Nat} (hW : WR S) (h81 : S.1 0 81 = nI n) (hn : n ≤ 5) (hL : L < fcN n) (hm : m0 + m1 + m2 ≤ n) (hc : c = L * 216 + m0 * 36 + m1 * 6 + m2) : Ew (f_M_decode (nI c) S) (fun U => WR U ∧ Fr [57, 58, 59] [] S U ∧ mN U 0 = m0 ∧ mN U 1 = m1 ∧ mN U 2 = m2 ∧ mN U 3 = n - m0 - m1 - m2 ∧ ∀ s j, s < 4 → j < mN U s → U.1 57 (10 * s + j) = S.1 54 (chP n L (off U s + j))) := by
  have hf := fcN_le hn
  obtain ⟨g1, g2, g3⟩ := ch_i hn hL
  refine v_eq (f_M_decode.eq_1 _ _) ?_
  have a1 : nI c - nI c / (216 : Int32) * (216 : Int32) = nI (m0 * 36 + m1 * 6 + m2) := by
    refine (nI_rem (a := c) (b := 216) (by omega) (by omega) (by omega)).trans (congrArg nI (by omega))
  have a2 : nI c / (216 : Int32) = nI L := (nI_div (a := c) (b := 216) (by omega) (by omega) (by omega)).trans (congrArg nI (by omega))
  rw [a1, a2]
  refine v_nmG (fun z ez => ?_)
  have b0 : z / (36 : Int32) = nI m0 := by
    rw [ez]; exact (nI_div (b := 36) (by omega) (by omega) (by omega)).trans (congrArg nI (by omega))
  have b1' : z / (6 : Int32) = nI (m0 * 6 + m1) := by
    rw [ez]; exact (nI_div (b := 6) (by omega) (by omega) (by omega)).trans (congrArg nI (by omega))
  have b2 : z - z / (6 : Int32) * (6 : Int32) = nI m2 := by
    rw [ez]; exact (nI_rem (b := 6) (by omega) (by omega) (by omega)).trans (congrArg nI (by omega))
  have b1 : z / (6 : Int32) - z / (6 : Int32) / (6 : Int32) * (6 : Int32) = nI m1 := by
    rw [b1']; exact (nI_rem (b := 6) (by omega) (by omega) (by omega)).trans (congrArg nI (by omega))
  rw [b1, b2, b0]
  refine v_grd (by decide) ?_
  refine v_wrA (fun S2 e2 f2 w2 => ?_)
  have W2 := wo_58 hW (rg_nI (by omega) (by omega) (by omega)) e2
  refine v_grd (by decide) ?_
  refine v_wrA (fun S3 e3 f3 w3 => ?_)
  have W3 := wo_58 W2 (rg_nI (by omega) (by omega) (by omega)) e3
  refine v_grd (by decide) ?_
  refine v_wrA (fun S4 e4 f4 w4 => ?_)
  have W4 := wo_58 W3 (rg_nI (by omega) (by omega) (by omega)) e4
  have k0 : (0 : Int32).toNatClampNeg = 0 := by decide
  have k1 : (1 : Int32).toNatClampNeg = 1 := by decide
  have k2 : (2 : Int32).toNatClampNeg = 2 := by decide
  have k3 : (3 : Int32).toNatClampNeg = 3 := by decide
  rw [k0] at e2; rw [k1] at e3; rw [k2] at e4
  have c0 : S4.1 58 0 = nI m0 := by rw [e4, st_at, if_pos rfl, if_neg (by decide), e3, st_at, if_pos rfl, if_neg (by decide), e2, st_at, if_pos rfl, if_pos rfl]
  have c1 : S4.1 58 1 = nI m1 := by rw [e4, st_at, if_pos rfl, if_neg (by decide), e3, st_at, if_pos rfl, if_pos rfl]
  have c2 : S4.1 58 2 = nI m2 := by rw [e4, st_at, if_pos rfl, if_pos rfl]
  have F4 : Fr [58] [] S S4 := (f2.tr f3 rfl).tr f4 rfl
  have q81 : S4.1 0 81 = nI n := by rw [F4.1 0 81 rfl]; exact h81
  rw [k0, k1, k2, k3, c0, c1, c2, q81, nI_sb (a := n) (b := m0) (by omega) (by omega), nI_sb (a := n - m0) (b := m1) (by omega) (by omega), nI_sb (a := n - m0 - m1) (b := m2) (by omega) (by omega)]
  refine v_grd (by decide) ?_
  refine v_grd (by decide) ?_
  refine v_grd (by decide) ?_
  refine v_grd (by decide) ?_
  refine v_wrA (fun S5 e5 f5 w5 => ?_)
  have W5 := wo_58 W4 (rg_nI (by omega) (by omega) (by omega)) e5
  have F5 : Fr [58] [] S S5 := F4.tr f5 rfl
  have p81 : S5.1 0 81 = nI n := by rw [F5.1 0 81 rfl]; exact h81
  have d0 : mN S5 0 = m0 := mN_of (by rw [e5, st_at, if_pos rfl, if_neg (by decide)]; exact c0) (by omega)
  have d1 : mN S5 1 = m1 := mN_of (by rw [e5, st_at, if_pos rfl, if_neg (by decide)]; exact c1) (by omega)
  have d2 : mN S5 2 = m2 := mN_of (by rw [e5, st_at, if_pos rfl, if_neg (by decide)]; exact c2) (by omega)
  have d3 : mN S5 3 = n - m0 - m1 - m2 := mN_of (by rw [e5, st_at, if_pos rfl, if_pos rfl]) (by omega)
  refine v_nm ?_
  refine v_nm ?_
  rw [p81]
  refine de_L84 (L := L) p81 hn (by omega) (fun V hV hFV hd => ?_) NF 0 _ S5 W5 Fr.rf ?_ (fun i h1 h2 => by omega) (by have : NF = 100000 := rfl; omega)
  · have oV : ∀ s, V.1 58 s = S5.1 58 s := fun s => hFV.1 58 s rfl
    have mV : ∀ s, mN V s = mN S5 s := fun s => by unfold mN; rw [oV s]
    have o4 : off V 4 = n := by
      show 0 + mN V 0 + mN V 1 + mN V 2 + mN V 3 = n
      rw [mV, mV, mV, mV, d0, d1, d2, d3]
      omega
    have F54 : ∀ j, V.1 54 j = S.1 54 j := fun j => by rw [hFV.1 54 j rfl, F5.1 54 j rfl]
    have FV : Fr [57, 58, 59] [] S V := ((Fr.rf (L := [57, 58, 59]) (F := [])).tr F5 rfl).tr hFV rfl
    have r := de_L133 (S0 := S) (S := V) (n := n) (fl := dgA n L) (p := chP n L) (us := chU n L) hV FV (by rw [hFV.1 0 81 rfl]; exact p81) hn o4 (fun i hi => ⟨hd i hi, (g1 i hi).2.2.2⟩) (fun i hi => ⟨(g1 i hi).1, by have := (g1 i hi).2.1; omega, (g1 i hi).2.2.1, rfl⟩) NF 0 0 0 V hV Fr.rf (by omega) (by omega) rfl (fun s' j _ _ h => by omega) (by omega) (by have : NF = 100000 := rfl; omega)
    refine v_mono r (fun U hU => ?_)
    obtain ⟨u1, u2, u3, u4⟩ := hU
    have oU : ∀ s, U.1 58 s = V.1 58 s := fun s => u3.1 58 s rfl
    have mU : ∀ s, mN U s = mN V s := fun s => by unfold mN; rw [oU s]
    refine ⟨u1, u2, by rw [mU, mV, d0], by rw [mU, mV, d1], by rw [mU, mV, d2], by rw [mU, mV, d3], fun s j hs hj => ?_⟩
    rw [off_fr oU, u4 s j hs (by rw [← mU]; exact hj), F54]
  · by_cases c : n = 0
    · subst c
      exact Or.inl ⟨rfl, by decide⟩
    · exact Or.inr ⟨by omega, nI_sb (a := n) (b := 1) (by omega) (by omega)⟩
end
section
/-! ===== decode after code, code after decode ===== -/
theorem lss_cg {f g : Nat → Nat} {n i : Nat} (hi : f i = g i) (h : ∀ j, j < n → f j = g j) : ∀ d j, j + d ≤ n → lss f i d j = lss g i d j
  | 0, j, _ => rfl
  | d + 1, j, hj => by
    show (if f j < f i then 1 else 0) + lss f i d (j + 1) = (if g j < g i then 1 else 0) + lss g i d (j + 1)
    rw [lss_cg hi h d (j + 1) (by omega), hi, h j (by omega)]
theorem leh_cg {f g : Nat → Nat} {n : Nat} (h : ∀ j, j < n → f j = g j) : ∀ d i c, i + d = n → leh f n d i c = leh g n d i c
  | 0, i, c, _ => rfl
  | d + 1, i, c, hi => by
    show leh f n d (i + 1) (c * (n - i) + lss f i (n - (i + 1)) (i + 1)) = leh g n d (i + 1) (c * (n - i) + lss g i (n - (i + 1)) (i + 1))
    rw [lss_cg (h i (by omega)) h _ _ (by omega)]
    exact leh_cg h d (i + 1) _ (by omega)
def tup (a b c d e i : Nat) : Nat := if i = 0 then a else if i = 1 then b else if i = 2 then c else if i = 3 then d else e
def ordOk (n : Nat) (f : Nat → Nat) : Bool := (List.range n).all (fun i => decide (f i < n) && (List.range n).all (fun j => i == j || !(f i == f j)))
def lhOk (n : Nat) (f : Nat → Nat) : Bool := bif ordOk n f then (decide (leh f n n 0 0 < fcN n) && (List.range n).all (fun i => decide (chP n (leh f n n 0 0) i = f i))) else true
def rgI (n i : Nat) : Nat := if i < n then n else 1
theorem lhOk_all : ((List.range 6).all (fun n => (List.range (rgI n 0)).all (fun a => (List.range (rgI n 1)).all (fun b => (List.range (rgI n 2)).all (fun c => (List.range (rgI n 3)).all (fun d => (List.range (rgI n 4)).all (fun e => lhOk n (tup a b c d e)))))))) = true := by decide +kernel
theorem lhI {n : Nat} {f : Nat → Nat} (hn : n ≤ 5) (hf : ∀ i, i < n → f i < n) (inj : ∀ i j, i < n → j < n → f i = f j → i = j) : leh f n n 0 0 < fcN n ∧ ∀ i, i < n → chP n (leh f n n 0 0) i = f i := by
  let g : Nat → Nat := fun i => if i < n then f i else 0
  have gl : ∀ i, g i < rgI n i := fun i => by
    show (if i < n then f i else 0) < (if i < n then n else 1)
    by_cases c : i < n
    · rw [if_pos c, if_pos c]; exact hf i c
    · rw [if_neg c, if_neg c]; omega
  let t := tup (g 0) (g 1) (g 2) (g 3) (g 4)
  have et : ∀ j, j < n → t j = f j := fun j hj => by
    have e : g j = f j := if_pos hj
    rw [← e]
    rcases (show j = 0 ∨ j = 1 ∨ j = 2 ∨ j = 3 ∨ j = 4 by omega) with rfl | rfl | rfl | rfl | rfl <;> rfl
  have q := List.all_eq_true.mp lhOk_all n (List.mem_range.mpr (by omega))
  have q := List.all_eq_true.mp q (g 0) (List.mem_range.mpr (gl 0))
  have q := List.all_eq_true.mp q (g 1) (List.mem_range.mpr (gl 1))
  have q := List.all_eq_true.mp q (g 2) (List.mem_range.mpr (gl 2))
  have q := List.all_eq_true.mp q (g 3) (List.mem_range.mpr (gl 3))
  have q : lhOk n t = true := List.all_eq_true.mp q (g 4) (List.mem_range.mpr (gl 4))
  have o : ordOk n t = true := by
    unfold ordOk
    refine List.all_eq_true.mpr (fun i hi => ?_)
    have hi := List.mem_range.mp hi
    rw [Bool.and_eq_true]
    refine ⟨decide_eq_true (by rw [et i hi]; exact hf i hi), List.all_eq_true.mpr (fun j hj => ?_)⟩
    have hj := List.mem_range.mp hj
    rw [et i hi, et j hj]
    by_cases c : i = j
    · simp [c]
    · have : ¬ f i = f j := fun e => c (inj i j hi hj e)
      simp [c, this]
  unfold lhOk at q
  rw [o] at q
  have q : (decide (leh t n n 0 0 < fcN n) && (List.range n).all (fun i => decide (chP n (leh t n n 0 0) i = t i))) = true := q
  rw [Bool.and_eq_true, leh_cg et n 0 0 (by omega)] at q
  refine ⟨of_decide_eq_true q.1, fun i hi => ?_⟩
  have := of_decide_eq_true (List.all_eq_true.mp q.2 i (List.mem_range.mpr hi))
  rw [this, et i hi]
/-- decode after code: the same STACKS -/
theorem dco {S T : SS} {n : Nat} {f : Nat → Nat} (hp : PWd S n) (hf : Rk S n f) (hoff : off S 4 = n) (inj : ∀ i j, i < n → j < n → f i = f j → i = j) (hr : ∀ i, i < n → f i < n) (hW : WR T) (h81 : T.1 0 81 = S.1 0 81) (h54 : ∀ j, T.1 54 j = S.1 54 j) : Ew (f_M_decode (nI (cdN S n f)) T) (fun U => WR U ∧ Fr [57, 58, 59] [] T U ∧ (∀ s, s < 4 → mN U s = mN S s) ∧ (∀ s j, s < 4 → j < mN S s → U.1 57 (10 * s + j) = S.1 57 (10 * s + j)) ∧ cfS U = cfS S) := by
  obtain ⟨l1, l2⟩ := lhI hp.2.1 hr inj
  have o4 : 0 + mN S 0 + mN S 1 + mN S 2 + mN S 3 = n := hoff
  have r := dex (S := T) (n := n) (L := leh f n n 0 0) (m0 := mN S 0) (m1 := mN S 1) (m2 := mN S 2) (c := cdN S n f) hW (by rw [h81]; exact hp.1) hp.2.1 l1 (by omega) rfl
  refine v_mono r (fun U hU => ?_)
  obtain ⟨u1, u2, u3, u4, u5, u6, u7⟩ := hU
  have um : ∀ s, s < 4 → mN U s = mN S s := fun s hs => by
    rcases (show s = 0 ∨ s = 1 ∨ s = 2 ∨ s = 3 by omega) with rfl | rfl | rfl | rfl
    · exact u3
    · exact u4
    · exact u5
    · rw [u6]; omega
  have uo : ∀ s, s < 4 → off U s = off S s := fun s hs => by
    rcases (show s = 0 ∨ s = 1 ∨ s = 2 ∨ s = 3 by omega) with rfl | rfl | rfl | rfl
    · rfl
    · show 0 + mN U 0 = 0 + mN S 0
      rw [u3]
    · show 0 + mN U 0 + mN U 1 = 0 + mN S 0 + mN S 1
      rw [u3, u4]
    · show 0 + mN U 0 + mN U 1 + mN U 2 = 0 + mN S 0 + mN S 1 + mN S 2
      rw [u3, u4, u5]
  have uv : ∀ s j, s < 4 → j < mN S s → U.1 57 (10 * s + j) = S.1 57 (10 * s + j) := fun s j hs hj => by
    have hl := off_le S hs
    rw [u7 s j hs (by rw [um s hs]; exact hj), uo s hs, l2 _ (by omega), h54, (hf s j hs hj).2]
  refine ⟨u1, u2, um, uv, funext (fun s => ?_)⟩
  by_cases c : s < 4
  · unfold cfS
    rw [if_pos c, if_pos c, um s c]
    refine List.map_congr_left (fun j hj => ?_)
    unfold wN
    rw [uv s j c (List.mem_range.mp hj)]
  · rw [cfS_far U (by omega), cfS_far S (by omega)]
/-- code after decode: the same number -/
theorem cod {S : SS} {n L m0 m1 m2 c : Nat} (hW : WR S) (hp : PWd S n) (hL : L < fcN n) (hm : m0 + m1 + m2 ≤ n) (hc : c = L * 216 + m0 * 36 + m1 * 6 + m2) : Ew (f_M_decode (nI c) S) (fun U => WR U ∧ Fr [57, 58, 59] [] S U ∧ PWd U n ∧ Rk U n (chP n L) ∧ off U 4 = n ∧ cdN U n (chP n L) = c) := by
  obtain ⟨g1, g2, g3⟩ := ch_i hp.2.1 hL
  refine v_mono (dex hW hp.1 hp.2.1 hL hm hc) (fun U hU => ?_)
  obtain ⟨u1, u2, u3, u4, u5, u6, u7⟩ := hU
  have o4 : off U 4 = n := by
    show 0 + mN U 0 + mN U 1 + mN U 2 + mN U 3 = n
    omega
  have e54 : ∀ j, U.1 54 j = S.1 54 j := fun j => u2.1 54 j rfl
  refine ⟨u1, u2, ⟨by rw [u2.1 0 81 rfl]; exact hp.1, hp.2.1, fun i j h1 h2 h3 => hp.2.2 i j h1 h2 (by rw [← e54, ← e54]; exact h3)⟩, fun s i hs hi => ?_, o4, ?_⟩
  · have hl := off_le U hs
    exact ⟨(g1 _ (by omega)).2.1, by rw [e54, u7 s i hs hi]⟩
  · unfold cdN
    rw [g2, u3, u4, u5, hc]
end
section
/-! ===== measure: ahead of the spreading; how many numbers there are ===== -/
theorem me_L56 {S : SS} {P : SS → Prop} (hk : ∀ U N, WR U → Fr [55] [] S U → (∀ i, i < 25920 → U.1 55 i = -1) → Ew (f_M_measure_L56 (N + 1) (nI 25920) U) P) : ∀ (N x : Nat) (T : SS), WR T → Fr [55] [] S T → (∀ i, i < x → T.1 55 i = -1) → x ≤ 25920 → 25920 < N + x → Ew (f_M_measure_L56 N (nI x) T) P
  | 0, x, T, hW, hF, hj, hx, hN => by omega
  | N + 1, x, T, hW, hF, hj, hx, hN => by
    by_cases c : x = 25920
    · subst c
      exact hk T N hW hF hj
    · refine v_eq (f_M_measure_L56.eq_2 _ _ _) ?_
      refine v_f (nI_ge (a := x) (b := 25920) (by omega) (by omega)) ?_
      refine v_grd (inb_nI (by omega) (by omega)) ?_
      rw [nI_clamp (n := x) (by omega)]
      refine v_wrA (fun U eU gU vU => ?_)
      have hW1 := WR.st (k := 55) hW trivial rfl eU
      refine v_nm ?_
      rw [nI_1]
      refine me_L56 hk N (x + 1) U hW1 (hF.tr gU rfl) (fun i hi => ?_) (by omega) (by omega)
      rw [eU, st_at, if_pos rfl]
      by_cases d : i = x
      · rw [if_pos d]
      · rw [if_neg d]; exact hj i (by omega)
/-- the numbers of the ways to stand -/
def vm (n m : Nat) : Bool := decide (m / 36 + m / 6 % 6 + m % 6 ≤ n)
def vW (n : Nat) : List Nat := (List.range 216).filter (vm n)
def vC (n : Nat) : List Nat := (List.range (fcN n)).flatMap (fun L => (vW n).map (fun m => L * 216 + m))
theorem sum_k (k : Nat) : ∀ l : List Nat, (l.map (fun _ => k)).sum = l.length * k
  | [] => by simp
  | a :: l => by
    rw [List.map_cons, List.sum_cons, sum_k k l, List.length_cons, Nat.succ_mul]
    omega
theorem vC_len {n : Nat} (hn : n ≤ 5) : (vC n).length ≤ 6720 := by
  have e : (vC n).length = fcN n * (vW n).length := by
    unfold vC
    rw [List.length_flatMap, List.map_congr_left (g := fun _ => (vW n).length) (fun a _ => List.length_map _), sum_k, List.length_range]
  rw [e]
  rcases (show n = 0 ∨ n = 1 ∨ n = 2 ∨ n = 3 ∨ n = 4 ∨ n = 5 by omega) with rfl | rfl | rfl | rfl | rfl | rfl <;> decide +kernel
theorem vC_mem {n L m0 m1 m2 : Nat} (hn : n ≤ 5) (hL : L < fcN n) (hm : m0 + m1 + m2 ≤ n) : L * 216 + m0 * 36 + m1 * 6 + m2 ∈ vC n := by
  refine List.mem_flatMap.mpr ⟨L, List.mem_range.mpr hL, List.mem_map.mpr ⟨m0 * 36 + m1 * 6 + m2, List.mem_filter.mpr ⟨List.mem_range.mpr (by omega), decide_eq_true ?_⟩, by omega⟩⟩
  have a0 : (m0 * 36 + m1 * 6 + m2) / 36 = m0 := by omega
  have a1 : (m0 * 36 + m1 * 6 + m2) / 6 = m0 * 6 + m1 := by omega
  have a2 : (m0 * 36 + m1 * 6 + m2) % 6 = m2 := by omega
  have a3 : (m0 * 6 + m1) % 6 = m1 := by omega
  rw [a0, a1, a2, a3]
  exact hm
theorem vC_out {n c : Nat} (h : c ∈ vC n) : ∃ L m0 m1 m2, L < fcN n ∧ m0 + m1 + m2 ≤ n ∧ c = L * 216 + m0 * 36 + m1 * 6 + m2 := by
  obtain ⟨L, h1, h2⟩ := List.mem_flatMap.mp h
  obtain ⟨m, h3, h4⟩ := List.mem_map.mp h2
  obtain ⟨h5, h6⟩ := List.mem_filter.mp h3
  have h5 := List.mem_range.mp h5
  have h6 : m / 36 + m / 6 % 6 + m % 6 ≤ n := of_decide_eq_true h6
  exact ⟨L, m / 36, m / 6 % 6, m % 6, List.mem_range.mp h1, h6, by omega⟩
/-- no more different ones than there are -/
theorem php : ∀ (V : List Nat) (k : Nat) (q : Nat → Nat), (∀ i, i < k → q i ∈ V) → (∀ i j, i < k → j < k → q i = q j → i = j) → k ≤ V.length
  | [], k, q, h, _ => by
    rcases Nat.eq_zero_or_pos k with c | c
    · rw [c]; exact Nat.le_refl _
    · exact absurd (h 0 c) List.not_mem_nil
  | v :: V, k, q, h, hi => by
    by_cases c : ∃ a, a < k ∧ q a = v
    · obtain ⟨a, ha, ea⟩ := c
      have r := php V (k - 1) (fun i => if i < a then q i else q (i + 1)) (fun i h1 => ?_) (fun i j h1 h2 e => ?_)
      · rw [List.length_cons]; omega
      · show (if i < a then q i else q (i + 1)) ∈ V
        by_cases d : i < a
        · rw [if_pos d]
          rcases List.mem_cons.mp (h i (by omega)) with w | w
          · exact absurd (hi i a (by omega) ha (w.trans ea.symm)) (by omega)
          · exact w
        · rw [if_neg d]
          rcases List.mem_cons.mp (h (i + 1) (by omega)) with w | w
          · exact absurd (hi (i + 1) a (by omega) ha (w.trans ea.symm)) (by omega)
          · exact w
      · have e : (if i < a then q i else q (i + 1)) = (if j < a then q j else q (j + 1)) := e
        by_cases d1 : i < a <;> by_cases d2 : j < a
        · rw [if_pos d1, if_pos d2] at e; exact hi i j (by omega) (by omega) e
        · rw [if_pos d1, if_neg d2] at e
          have := hi i (j + 1) (by omega) (by omega) e
          omega
        · rw [if_neg d1, if_pos d2] at e
          have := hi (i + 1) j (by omega) (by omega) e
          omega
        · rw [if_neg d1, if_neg d2] at e
          have := hi (i + 1) (j + 1) (by omega) (by omega) e
          omega
    · have r := php V k q (fun i h1 => by
        rcases List.mem_cons.mp (h i h1) with w | w
        · exact absurd ⟨i, h1, w⟩ c
        · exact w) hi
      rw [List.length_cons]; omega
end
section
/-! ===== take told exactly ===== -/
def tkO (x : Int32) : Nat := if x = 0 then 48 else 50
def tkM (x : Int32) : Nat := if x = 0 then 47 else 49
theorem tk_L34 {S : SS} {K : Int32 → Int32 → SS → Option SS} {P : SS → Prop} {x1 : Int32} {s m : Nat} (hs : s < 4) (hm : m ≤ 10) (h58 : S.1 58 s = nI m) (hk : ∀ U, WR U → Fr [57] [] S U → (∀ j, U.1 57 j = if 10 * s ≤ j ∧ j < 10 * s + m then S.1 (tkO x1) j else S.1 57 j) → Ew (K x1 (nI (s + 1)) U) P) : ∀ (N i : Nat) (T : SS), WR T → Fr [57] [] S T → (∀ j, T.1 57 j = if 10 * s ≤ j ∧ j < 10 * s + i then S.1 (tkO x1) j else S.1 57 j) → i ≤ m → m < N + i → Ew (f_M_take_L34 K N x1 (nI s) (nI i) T) P
  | 0, i, T, hW, hF, hj, hi, hN => by omega
  | N + 1, i, T, hW, hF, hj, hi, hN => by
    refine v_eq (f_M_take_L34.eq_2 _ _ _ _ _ _) ?_
    rw [nI_clamp (n := s) (by omega), hF.1 58 s rfl, h58]
    refine v_grd (inb_nI hs (by omega)) ?_
    refine v_i (fun q => ?_) (fun q => ?_)
    · have : i = m := by
        rcases Nat.lt_or_ge i m with c | c
        · exact absurd q (nI_ge c (by omega))
        · omega
      subst this
      refine v_nm ?_
      rw [nI_1]
      exact hk T hW hF hj
    · have hlt : i < m := by
        rcases Nat.lt_or_ge i m with c | c
        · exact c
        · exact absurd (nI_le c (by omega)) q
      have e : (10 : Int32) * nI s + nI i = nI (10 * s + i) := by
        rw [show (10 : Int32) * nI s = nI (10 * s) from nI_mul 10 s, nI_add]
      have go : ∀ v, v = S.1 (tkO x1) (10 * s + i) → Ew (f_M_take_j83 (fun v0 v1 v2 S => f_M_take_L34 K N v0 v1 v2 S) x1 (nI s) (nI i) v (nI (10 * s + i)) T) P := fun v hv => by
        refine v_eq (f_M_take_j83.eq_1 _ _ _ _ _ _ _) ?_
        refine v_grd (inb_nI (by omega) (by omega)) ?_
        rw [nI_clamp (n := 10 * s + i) (by omega)]
        refine v_wrA (fun U eU gU vU => ?_)
        have hW1 := WR.st (k := 57) hW trivial rfl eU
        refine v_nm ?_
        rw [nI_1]
        refine tk_L34 hs hm h58 hk N (i + 1) U hW1 (hF.tr gU rfl) (fun j => ?_) (by omega) (by omega)
        rw [eU, st_at, if_pos rfl]
        by_cases c : j = 10 * s + i
        · rw [if_pos c, if_pos (by omega), hv, c]
        · rw [if_neg c, hj j]
          by_cases d : 10 * s ≤ j ∧ j < 10 * s + i
          · rw [if_pos d, if_pos (by omega)]
          · rw [if_neg d, if_neg (by omega)]
      rw [e, nI_clamp (n := 10 * s + i) (by omega)]
      refine v_i (fun q2 => ?_) (fun q2 => ?_)
      · refine v_grd (inb_nI (by omega) (by omega)) (go _ ?_)
        rw [hF.1 48 _ rfl]
        unfold tkO
        rw [if_pos q2]
      · refine v_grd (inb_nI (by omega) (by omega)) (go _ ?_)
        rw [hF.1 50 _ rfl]
        unfold tkO
        rw [if_neg q2]
theorem tkM_rg {S : SS} (hW : WR S) (x : Int32) (s : Nat) : ∃ m, S.1 (tkM x) s = nI m ∧ m ≤ 10 := by
  unfold tkM
  by_cases c : x = 0
  · rw [if_pos c]
    obtain ⟨j, hj, h1, h2, h3⟩ := rg_ex (ro_47 hW s) (by omega)
    exact ⟨j, hj, by omega⟩
  · rw [if_neg c]
    obtain ⟨j, hj, h1, h2, h3⟩ := rg_ex (ro_49 hW s) (by omega)
    exact ⟨j, hj, by omega⟩
theorem tk_L2 {S : SS} {x1 : Int32} (hW0 : WR S) : ∀ (N s : Nat) (T : SS), WR T → Fr [57, 58] [] S T → (∀ s', s' < s → T.1 58 s' = S.1 (tkM x1) s' ∧ ∀ j, j < (S.1 (tkM x1) s').toNatClampNeg → T.1 57 (10 * s' + j) = S.1 (tkO x1) (10 * s' + j)) → s ≤ 4 → 4 < N + s → Ew (f_M_take_L2 N x1 (nI s) T) (fun U => WR U ∧ Fr [57, 58] [] S U ∧ ∀ s', s' < 4 → U.1 58 s' = S.1 (tkM x1) s' ∧ ∀ j, j < (S.1 (tkM x1) s').toNatClampNeg → U.1 57 (10 * s' + j) = S.1 (tkO x1) (10 * s' + j))
  | 0, s, T, hW, hF, hj, hs, hN => by omega
  | N + 1, s, T, hW, hF, hj, hs, hN => by
    refine v_eq (f_M_take_L2.eq_2 _ _ _ _) ?_
    by_cases c4 : s = 4
    · subst c4
      refine v_t (by decide) ?_
      exact v_some ⟨hW, hF, hj⟩
    · refine v_f (nI_ge (a := s) (b := 4) (by omega) (by omega)) ?_
      obtain ⟨m, em, lm⟩ := tkM_rg hW0 x1 s
      have go : ∀ v, v = nI m → Ew (f_M_take_j31 (fun v0 v1 S => f_M_take_L2 N v0 v1 S) x1 (nI s) v (nI s) T) (fun U => WR U ∧ Fr [57, 58] [] S U ∧ ∀ s', s' < 4 → U.1 58 s' = S.1 (tkM x1) s' ∧ ∀ j, j < (S.1 (tkM x1) s').toNatClampNeg → U.1 57 (10 * s' + j) = S.1 (tkO x1) (10 * s' + j)) := fun v hv => by
        subst hv
        refine v_eq (f_M_take_j31.eq_1 _ _ _ _ _ _) ?_
        refine v_grd (inb_nI (by omega) (by omega)) ?_
        rw [nI_clamp (n := s) (by omega)]
        refine v_wrA (fun V eV gV vV => ?_)
        have hW1 := wo_58 hW (rg_nI (by omega) (by omega) (by omega)) eV
        have oV : ∀ j, V.1 (tkO x1) j = S.1 (tkO x1) j := fun j => by
          unfold tkO
          by_cases c : x1 = 0
          · rw [if_pos c, gV.1 48 j rfl, hF.1 48 j rfl]
          · rw [if_neg c, gV.1 50 j rfl, hF.1 50 j rfl]
        refine tk_L34 (S := V) (s := s) (m := m) (by omega) lm vV (fun U hU fU aU => ?_) NF 0 V hW1 Fr.rf (fun j => by rw [if_neg (by omega)]) (by omega) (by have : NF = 100000 := rfl; omega)
        refine tk_L2 hW0 N (s + 1) U hU ((hF.tr gV rfl).tr fU rfl) (fun s' h1 => ?_) (by omega) (by omega)
        obtain ⟨m', em', lm'⟩ := tkM_rg hW0 x1 s'
        have cl : (S.1 (tkM x1) s').toNatClampNeg = m' := by rw [em']; exact nI_clamp (by omega)
        by_cases c : s' = s
        · subst c
          refine ⟨by rw [fU.1 58 s' rfl, vV, em], fun j h2 => ?_⟩
          have mm : m' = m := (nI_eq (by omega) (by omega)).mp (em'.symm.trans em)
          rw [cl, mm] at h2
          rw [aU, if_pos (by omega), oV]
        · obtain ⟨p1, p2⟩ := hj s' (by omega)
          refine ⟨by rw [fU.1 58 s' rfl, eV, st_at, if_pos rfl, if_neg c]; exact p1, fun j h2 => ?_⟩
          have h3 := h2
          rw [cl] at h3
          rw [aU, if_neg (by omega), gV.1 57 _ rfl]
          exact p2 j h2
      rw [nI_clamp (n := s) (by omega)]
      refine v_i (fun q2 => ?_) (fun q2 => ?_)
      · refine v_grd (inb_nI (by omega) (by omega)) (go _ ?_)
        rw [hF.1 47 _ rfl, ← em]
        unfold tkM
        rw [if_pos q2]
      · refine v_grd (inb_nI (by omega) (by omega)) (go _ ?_)
        rw [hF.1 49 _ rfl, ← em]
        unfold tkM
        rw [if_neg q2]
theorem tkx {S : SS} {x1 : Int32} (hW : WR S) : Ew (f_M_take x1 S) (fun U => WR U ∧ Fr [57, 58] [] S U ∧ ∀ s, s < 4 → U.1 58 s = S.1 (tkM x1) s ∧ ∀ j, j < (S.1 (tkM x1) s).toNatClampNeg → U.1 57 (10 * s + j) = S.1 (tkO x1) (10 * s + j)) := by
  refine v_eq (f_M_take.eq_1 _ _) ?_
  exact tk_L2 hW NF 0 S hW Fr.rf (fun s' h => by omega) (by omega) (by have : NF = 100000 := rfl; omega)
end
section
/-! ===== mayMove told exactly ===== -/
theorem nI_ltJ {a b : Nat} (ha : a < 2 ^ 31) (hb : b < 2 ^ 31) : nI a < nI b ↔ a < b := by
  rw [Int32.lt_iff_toInt_lt, nI_toInt ha, nI_toInt hb]
  omega
def rmN (S : SS) (s : Nat) : Nat := (S.1 46 s).toNatClampNeg
theorem rmN_le {S : SS} (hW : WR S) (s : Nat) : rmN S s ≤ 10 ∧ S.1 46 s = nI (rmN S s) := by
  obtain ⟨j, hj, h1, h2, h3⟩ := rg_ex (ro_46 hW s) (by omega)
  have e : rmN S s = j := by unfold rmN; rw [hj]; exact nI_clamp h3
  rw [e]
  exact ⟨by omega, hj⟩
theorem mmx {S : SS} {a b n : Nat} (hW : WR S) (ha : a < 4) (hb : b < 4) (hn : n ≤ 10) : Ex2 (f_M_mayMove (nI a) (nI b) (nI n) S) (fun r U => U = S ∧ ((r = 0 ∧ ¬ (a ≠ b ∧ 1 ≤ n ∧ n ≤ mN S a ∧ mN S b + n ≤ rmN S b)) ∨ (r = 1 ∧ (a ≠ b ∧ 1 ≤ n ∧ n ≤ mN S a ∧ mN S b + n ≤ rmN S b)))) := by
  obtain ⟨la, ea⟩ := mN_le hW a
  obtain ⟨lb, eb⟩ := mN_le hW b
  obtain ⟨lr, er⟩ := rmN_le hW b
  refine e_eq (f_M_mayMove.eq_1 _ _ _ _) ?_
  rw [nI_clamp (n := a) (by omega), nI_clamp (n := b) (by omega), ea, eb, er, nI_add]
  refine e_i (fun q => ?_) (fun q => ?_)
  · have := (nI_eq (by omega) (by omega)).mp q
    exact ⟨_, _, rfl, rfl, Or.inl ⟨rfl, fun h => h.1 this⟩⟩
  · have hab : a ≠ b := fun e => q (by rw [e])
    refine e_i (fun q1 => ?_) (fun q1 => ?_)
    · have := (nI_ltJ (a := n) (b := 1) (by omega) (by omega)).mp q1
      exact ⟨_, _, rfl, rfl, Or.inl ⟨rfl, fun h => by omega⟩⟩
    · have h1 : ¬ n < 1 := fun w => q1 ((nI_ltJ (a := n) (b := 1) (by omega) (by omega)).mpr w)
      refine e_grd (inb_nI (by omega) (by omega)) ?_
      refine e_i (fun q2 => ?_) (fun q2 => ?_)
      · have := (nI_ltJ (by omega) (by omega)).mp q2
        exact ⟨_, _, rfl, rfl, Or.inl ⟨rfl, fun h => by omega⟩⟩
      · have h2 : ¬ mN S a < n := fun w => q2 ((nI_ltJ (by omega) (by omega)).mpr w)
        refine e_grd (inb_nI (by omega) (by omega)) ?_
        refine e_grd (inb_nI (by omega) (by omega)) ?_
        refine e_i (fun q3 => ?_) (fun q3 => ?_)
        · have := (nI_ltJ (by omega) (by omega)).mp q3
          exact ⟨_, _, rfl, rfl, Or.inl ⟨rfl, fun h => by omega⟩⟩
        · have h3 : ¬ rmN S b < mN S b + n := fun w => q3 ((nI_ltJ (by omega) (by omega)).mpr w)
          exact ⟨_, _, rfl, rfl, Or.inr ⟨rfl, hab, by omega, by omega, by omega⟩⟩
end
section
/-! ===== measure: the ranks ===== -/
def RkI (S T : SS) (x : Nat) : Prop := ∃ (k : Nat) (g : Nat → Nat), k ≤ x ∧ T.1 0 81 = nI k ∧ (∀ j, j < k → g j < x ∧ T.1 54 j = nI (g j) ∧ Bef (S.1 49) (S.1 50) (nI (g j)) 4 0) ∧ (∀ i j, i < j → j < k → g i < g j) ∧ ∀ w, w < x → Bef (S.1 49) (S.1 50) (nI w) 4 0 → ∃ j, j < k ∧ g j = w
theorem me_L7 {S : SS} {P : SS → Prop} (hk : ∀ U N, WR U → Fr [54] [(0, 81)] S U → RkI S U 10 → Ew (f_M_measure_L7 (N + 1) (nI 10) U) P) : ∀ (N x : Nat) (T : SS), WR T → Fr [54] [(0, 81)] S T → RkI S T x → x ≤ 10 → 10 < N + x → Ew (f_M_measure_L7 N (nI x) T) P
  | 0, x, T, hW, hF, hj, hx, hN => by omega
  | N + 1, x, T, hW, hF, hj, hx, hN => by
    by_cases c : x = 10
    · subst c
      exact hk T N hW hF hj
    · refine v_eq (f_M_measure_L7.eq_2 _ _ _) ?_
      refine v_f (nI_ge (a := x) (b := 10) (by omega) (by omega)) ?_
      have e49 : T.1 49 = S.1 49 := funext (fun j => hF.1 49 j rfl)
      have e50 : T.1 50 = S.1 50 := funext (fun j => hF.1 50 j rfl)
      obtain ⟨k, g, h1, h2, h3, h4, h5⟩ := hj
      obtain ⟨r, V, ev, hV, b, hr, hb⟩ := u_has_g (w := nI x) hW
      subst hV
      rw [e49, e50] at hb
      rw [ev]
      show Ew (if r = 0 then _ else _) P
      cases b with
      | false =>
        have hr : r = 0 := hr
        subst hr
        refine v_t rfl ?_
        refine v_eq (f_M_measure_j48.eq_1 _ _ _) ?_
        refine v_nm ?_
        rw [nI_1]
        refine me_L7 hk N (x + 1) V hW hF ⟨k, g, by omega, h2, fun j hj => ⟨by have := (h3 j hj).1; omega, (h3 j hj).2⟩, h4, fun w hw hB => ?_⟩ (by omega) (by omega)
        by_cases d : w = x
        · subst d
          exact absurd (hb.mpr hB) (by decide)
        · exact h5 w (by omega) hB
      | true =>
        have hr : r = 1 := hr
        subst hr
        refine v_f (by decide) ?_
        rw [h2]
        refine v_grd (inb_nI (by omega) (by omega)) ?_
        rw [nI_clamp (n := k) (by omega)]
        refine v_wrA (fun T1 e1 g1 w1 => ?_)
        have W1 := WR.st (k := 54) hW trivial rfl e1
        rw [g1.1 0 81 rfl, h2, nI_1]
        refine v_wrO (fun T2 e2 g2 w2 => ?_)
        have W2 : WR T2 := WR.st (k := 0) (i := 81) W1 (show rg (nI (k + 1)) 0 10 from rg_nI (by omega) (by omega) (by omega)) rfl e2
        refine v_eq (f_M_measure_j48.eq_1 _ _ _) ?_
        refine v_nm ?_
        rw [nI_1]
        refine me_L7 hk N (x + 1) T2 W2 ((hF.tr g1 rfl).tr g2 rfl) ⟨k + 1, fun j => if j = k then x else g j, by omega, w2, fun j hj => ?_, fun i j hij hj => ?_, fun w hw hB => ?_⟩ (by omega) (by omega)
        · show (if j = k then x else g j) < x + 1 ∧ T2.1 54 j = nI (if j = k then x else g j) ∧ Bef (S.1 49) (S.1 50) (nI (if j = k then x else g j)) 4 0
          rw [g2.1 54 j rfl, e1, st_at, if_pos rfl]
          by_cases d : j = k
          · rw [if_pos d, if_pos d]
            exact ⟨by omega, rfl, hb.mp rfl⟩
          · rw [if_neg d, if_neg d]
            have := h3 j (by omega)
            exact ⟨by omega, this.2⟩
        · show (if i = k then x else g i) < (if j = k then x else g j)
          rw [if_neg (by omega)]
          by_cases d : j = k
          · rw [if_pos d]; exact (h3 i (by omega)).1
          · rw [if_neg d]; exact h4 i j hij (by omega)
        · by_cases d : w = x
          · exact ⟨k, by omega, by show (if k = k then x else g k) = w; rw [if_pos rfl, d]⟩
          · obtain ⟨j, q1, q2⟩ := h5 w (by omega) hB
            exact ⟨j, by omega, by show (if j = k then x else g j) = w; rw [if_neg (by omega), q2]⟩
end
section
/-! ===== the one list of all STACKS ===== -/
theorem fl_at {S : SS} {s i : Nat} (hs : s < 4) (hi : i < mN S s) : (Flat (cfS S))[off S s + i]? = some (wN S s i) := by
  have l0 := cfS_len (S := S) (s := 0) (by omega)
  have l1 := cfS_len (S := S) (s := 1) (by omega)
  have l2 := cfS_len (S := S) (s := 2) (by omega)
  have o1 : off S 1 = mN S 0 := by show 0 + mN S 0 = mN S 0; omega
  have o2 : off S 2 = mN S 0 + mN S 1 := by show 0 + mN S 0 + mN S 1 = _; omega
  have o3 : off S 3 = mN S 0 + mN S 1 + mN S 2 := by show 0 + mN S 0 + mN S 1 + mN S 2 = _; omega
  have n1 : (cfS S 0 ++ cfS S 1).length = mN S 0 + mN S 1 := by rw [List.length_append, l0, l1]
  have n2 : (cfS S 0 ++ cfS S 1 ++ cfS S 2).length = mN S 0 + mN S 1 + mN S 2 := by rw [List.length_append, n1, l2]
  have g := cfS_get (S := S) hs hi
  unfold Flat
  rcases (show s = 0 ∨ s = 1 ∨ s = 2 ∨ s = 3 by omega) with rfl | rfl | rfl | rfl
  · rw [show off S 0 + i = i by show 0 + i = i; omega, List.getElem?_append, if_pos (by omega), List.getElem?_append, if_pos (by omega), List.getElem?_append, if_pos (by omega)]
    exact g
  · rw [o1, List.getElem?_append, if_pos (by omega), List.getElem?_append, if_pos (by omega), List.getElem?_append, if_neg (by omega), l0, show mN S 0 + i - mN S 0 = i by omega]
    exact g
  · rw [o2, List.getElem?_append, if_pos (by omega), List.getElem?_append, if_neg (by omega), n1, show mN S 0 + mN S 1 + i - (mN S 0 + mN S 1) = i by omega]
    exact g
  · rw [o3, List.getElem?_append, if_neg (by omega), n2, show mN S 0 + mN S 1 + mN S 2 + i - (mN S 0 + mN S 1 + mN S 2) = i by omega]
    exact g
end
section
/-! ===== the number of a way to stand, out of the lists alone ===== -/
def rkN (S : SS) (n w : Nat) : Nat := ((List.range n).find? (fun r => (S.1 54 r).toNatClampNeg == w)).getD 0
def fX (S : SS) (n : Nat) (X : Cf) (j : Nat) : Nat := rkN S n ((Flat X).getD j 0)
def cdX (S : SS) (n : Nat) (X : Cf) : Nat := leh (fX S n X) n n 0 0 * 216 + (X 0).length * 36 + (X 1).length * 6 + (X 2).length
theorem rkN_ok {S : SS} {n w r : Nat} (hr : r < n) (h : (S.1 54 r).toNatClampNeg = w) : rkN S n w < n ∧ (S.1 54 (rkN S n w)).toNatClampNeg = w := by
  unfold rkN
  cases e : (List.range n).find? (fun r => (S.1 54 r).toNatClampNeg == w) with
  | none =>
    have := List.find?_eq_none.mp e r (List.mem_range.mpr hr)
    exact absurd (beq_iff_eq.mpr h) this
  | some a =>
    have h1 := List.mem_range.mp (List.mem_of_find?_eq_some e)
    have h2 := List.find?_some e
    exact ⟨h1, beq_iff_eq.mp h2⟩
theorem cdX_eq (S : SS) (n : Nat) : cdN S n (fX S n (cfS S)) = cdX S n (cfS S) := by
  unfold cdN cdX
  rw [cfS_len (by omega), cfS_len (by omega), cfS_len (by omega)]
theorem rk_fX {S : SS} {n : Nat} (h54 : ∀ r, r < n → ∃ w, w < 10 ∧ S.1 54 r = nI w) (hin : ∀ s i, s < 4 → i < mN S s → ∃ r, r < n ∧ S.1 54 r = S.1 57 (10 * s + i)) : Rk S n (fX S n (cfS S)) := fun s i hs hi => by
  obtain ⟨r, hr, e⟩ := hin s i hs hi
  obtain ⟨w, hw, ew⟩ := h54 r hr
  have q : fX S n (cfS S) (off S s + i) = rkN S n (wN S s i) := by
    unfold fX
    rw [List.getD_eq_getElem?_getD, fl_at hs hi]
    rfl
  have k := rkN_ok (w := wN S s i) hr (by unfold wN; rw [e])
  rw [q]
  refine ⟨k.1, ?_⟩
  obtain ⟨w', hw', ew'⟩ := h54 _ k.1
  have k2 := k.2
  rw [ew', nI_clamp (by omega)] at k2
  unfold wN at k2
  rw [← e, ew, nI_clamp (by omega)] at k2
  rw [← e, ew, ew', k2]
end
section
/-! ===== the cells of the used places are WAGONS ===== -/
def NN (S : SS) : Prop := ∀ s i, s < 4 → i < mN S s → ∃ w, w < 10 ∧ S.1 57 (10 * s + i) = nI w
theorem v_and {v : Option SS} {V V' : SS → Prop} (h : Ew v V) (k : Ew v V') : Ew v (fun S => V S ∧ V' S) := by
  obtain ⟨S, e, h⟩ := h
  obtain ⟨T, e', k⟩ := k
  have : S = T := Option.some.inj (e.symm.trans e')
  subst this
  exact ⟨S, e, h, k⟩
theorem shn {S : SS} {a b n : Nat} (hW : WR S) (hN : NN S) (ha : a < 4) (hb : b < 4) (hab : a ≠ b) (hn : n ≤ mN S a) (hr : mN S b + n ≤ 10) : Ew (f_M_shift (nI a) (nI b) (nI n) S) (fun U => (WR U ∧ Fr [57, 58] [] S U ∧ cfS U = mvd a b n (cfS S)) ∧ NN U) := by
  refine v_and (shx hW ha hb hab hn hr) ?_
  obtain ⟨la, ea⟩ := mN_le hW a
  refine v_eq (f_M_shift.eq_1 _ _ _ _) ?_
  refine v_mono (shx_L3 hW ha hb hab hn hr Fr.rf NF 0 S hW Fr.rf (fun j => by rw [if_neg (by omega)]) (by omega) (by have : NF = 100000 := rfl; omega)) (fun U hU => ?_)
  obtain ⟨h1, h2, h3, h4⟩ := hU
  intro s i hs hi
  have hm := h3 s
  have ls := (mN_le hW s).1
  have lu := (mN_le h1 s).1
  rw [h4]
  by_cases c : 10 * b + mN S b ≤ 10 * s + i ∧ 10 * s + i < 10 * b + mN S b + n
  · rw [if_pos c, show 10 * a + mN S a - n + (10 * s + i - (10 * b + mN S b)) = 10 * a + (mN S a - n + (10 * s + i - (10 * b + mN S b))) by omega]
    exact hN a _ ha (by omega)
  · rw [if_neg c]
    refine hN s i hs ?_
    by_cases c1 : s = a
    · rw [if_pos c1] at hm
      rw [c1] at hi hm ⊢
      omega
    · rw [if_neg c1] at hm
      by_cases c2 : s = b
      · rw [if_pos c2] at hm
        rw [c2] at hi hm c ⊢
        omega
      · rw [if_neg c2] at hm
        omega
end
section
/-! ===== what the ways to stand have in common ===== -/
def CX (S : SS) (n : Nat) (X : Cf) : Prop := tot X = n ∧ (∀ w, (Flat X).count w ≤ 1) ∧ ∀ w, 0 < (Flat X).count w → w < 10 ∧ ∃ r, r < n ∧ S.1 54 r = nI w
theorem cx_mv {S : SS} {n : Nat} {R : Nat → Nat} {X Z : Cf} (h : CX S n X) (m : Mv R X Z) : CX S n Z := ⟨by rw [mv_tot m]; exact h.1, fun w => by rw [mv_count m]; exact h.2.1 w, fun w hw => h.2.2 w (by rw [← mv_count m]; exact hw)⟩
theorem cx_in {S : SS} {n : Nat} (hN : NN S) (h : CX S n (cfS S)) : ∀ s i, s < 4 → i < mN S s → ∃ r, r < n ∧ S.1 54 r = S.1 57 (10 * s + i) := fun s i hs hi => by
  obtain ⟨w, hw, ew⟩ := hN s i hs hi
  have e : wN S s i = w := by unfold wN; rw [ew]; exact nI_clamp (by omega)
  have m : w ∈ Flat (cfS S) := by rw [← e]; exact List.mem_of_getElem? (fl_at hs hi)
  obtain ⟨_, r, hr, er⟩ := h.2.2 w (List.count_pos_iff.mpr m)
  exact ⟨r, hr, by rw [er, ew]⟩
theorem cx_off {S : SS} {n : Nat} (h : CX S n (cfS S)) : off S 4 = n := by
  have q := h.1
  unfold tot at q
  rw [cfS_len (by omega), cfS_len (by omega), cfS_len (by omega), cfS_len (by omega)] at q
  show 0 + mN S 0 + mN S 1 + mN S 2 + mN S 3 = n
  omega
end
