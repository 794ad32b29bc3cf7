/-! ===== track: both answer alike ===== -/
theorem st_no {S : SS} {k i a b : Nat} {v : Int32} (h : ¬ (a = k ∧ b = i)) : (st S k i v).1 a b = S.1 a b := by
  rw [st_at]
  by_cases ha : a = k
  · by_cases hb : b = i
    · exact absurd ⟨ha, hb⟩ h
    · rw [if_pos ha, if_neg hb]
  · rw [if_neg ha]
theorem yt_x {a r : Int32} {S U : SS} (h : f_Yard_track a S = some (r, U)) : ((a = 0 ∨ ¬ a ≤ 24) ∧ r = -1 ∧ U.1 66 7 = S.1 66 7) ∨ (¬ a = 0 ∧ a ≤ 24 ∧ ((¬ S.1 66 7 < 24 ∧ r = -3 ∧ U.1 66 7 = S.1 66 7) ∨ (S.1 66 7 < 24 ∧ 0 ≤ a ∧ r = (S.1 66 7 + 1) - 1 ∧ U.1 66 7 = S.1 66 7 + 1) ∨ (S.1 66 7 < 24 ∧ ¬ 0 ≤ a ∧ r = -2 ∧ U.1 66 7 = S.1 66 7))) := by
  rw [f_Yard_track.eq_1] at h
  by_cases q1 : a = 0
  · rw [if_pos q1] at h
    injection h with h; injection h with h1 h2
    subst h1 h2
    exact Or.inl ⟨Or.inl q1, rfl, rfl⟩
  rw [if_neg q1] at h
  by_cases q2 : a ≤ 24
  · rw [if_pos q2] at h
    refine Or.inr ⟨q1, q2, ?_⟩
    by_cases q3 : S.1 66 7 < 24
    · rw [if_pos q3] at h
      refine Or.inr ?_
      have hb : f_Report_begin S = some (st (st (st (st (st S 62 2 0) 62 3 0) 62 4 (-4)) 62 5 0) 62 6 (-4)) := rfl
      rw [hb] at h
      have e66 : (st (st (st (st (st S 62 2 0) 62 3 0) 62 4 (-4)) 62 5 0) 62 6 (-4)).1 66 7 = S.1 66 7 := by
        rw [st_no (by omega), st_no (by omega), st_no (by omega), st_no (by omega), st_no (by omega)]
      generalize (st (st (st (st (st S 62 2 0) 62 3 0) 62 4 (-4)) 62 5 0) 62 6 (-4)) = S1 at h e66
      have h : (if 0 ≤ a then bndv (f_History_forget S1) (fun S2 => bnd (f_Layout_addTrack a S2) (fun r4 S3 => some (r4, S3))) else bnd (f_Report_found (5 : Int32) S1) (fun r6 S5 => some (r6, S5))) = some (r, U) := h
      by_cases q4 : 0 ≤ a
      · rw [if_pos q4] at h
        refine Or.inl ⟨q3, q4, ?_⟩
        have hf : f_History_forget S1 = some (st (st S1 64 6 0) 64 7 0) := rfl
        rw [hf] at h
        have e2 : (st (st S1 64 6 0) 64 7 0).1 66 7 = S.1 66 7 := by
          rw [st_no (by omega), st_no (by omega), e66]
        generalize (st (st S1 64 6 0) 64 7 0) = S2 at h e2
        have h : bnd (f_Layout_addTrack a S2) (fun r4 S3 => some (r4, S3)) = some (r, U) := h
        obtain ⟨r4, S3, h4, h⟩ := bnd_t h
        injection h with h; injection h with h1 h2
        subst h1 h2
        rw [f_Layout_addTrack.eq_1, e2, if_pos q3] at h4
        obtain ⟨-, h4⟩ := grd_t h4
        have h4 : some ((st (st S2 93 (S.1 66 7).toNatClampNeg a) 66 7 ((st S2 93 (S.1 66 7).toNatClampNeg a).1 66 7 + 1)).1 66 7 - 1, st (st S2 93 (S.1 66 7).toNatClampNeg a) 66 7 ((st S2 93 (S.1 66 7).toNatClampNeg a).1 66 7 + 1)) = some (r4, S3) := h4
        injection h4 with h4; injection h4 with h1 h2
        subst h1 h2
        rw [st_here, st_no (by omega), e2]
        exact ⟨rfl, rfl⟩
      · rw [if_neg q4] at h
        refine Or.inr ⟨q3, q4, ?_⟩
        obtain ⟨r6, S5, h6, h⟩ := bnd_t h
        injection h with h; injection h with h1 h2
        subst h1 h2
        rw [f_Report_found.eq_1] at h6
        obtain ⟨T, eT, h6⟩ := wr_t h6
        have h6 : (if (5 : Int32) ≤ 0 then some ((-2 : Int32), T) else if (17 : Int32) < 5 then some ((-2 : Int32), T) else grd (inb (5 : Int32) 18) (grd (inb (5 : Int32) 18) (wr T 77 (5 : Int32).toNatClampNeg ((T.1 77 (5 : Int32).toNatClampNeg) + (1 : Int32)) (fun S2 => some ((-2 : Int32), S2))))) = some (r6, S5) := h6
        rw [if_neg (by decide), if_neg (by decide)] at h6
        obtain ⟨-, h6⟩ := grd_t h6
        obtain ⟨-, h6⟩ := grd_t h6
        obtain ⟨T2, eT2, h6⟩ := wr_t h6
        injection h6 with h6; injection h6 with h1 h2
        subst h1 h2
        refine ⟨rfl, ?_⟩
        rw [eT2, st_no (by omega), eT, st_no (by omega), e66]
    · rw [if_neg q3] at h
      injection h with h; injection h with h1 h2
      subst h1 h2
      exact Or.inl ⟨q3, rfl, rfl⟩
  · rw [if_neg q2] at h
    injection h with h; injection h with h1 h2
    subst h1 h2
    exact Or.inl ⟨Or.inr q2, rfl, rfl⟩
theorem mt_x {a r : Int32} {S U : SS} (h : f_M_track a S = some (r, U)) : ((a = 0 ∨ ¬ a ≤ 24) ∧ r = -1 ∧ U.1 0 7 = S.1 0 7) ∨ (¬ a = 0 ∧ a ≤ 24 ∧ ((S.1 0 7 = 24 ∧ r = -3 ∧ U.1 0 7 = S.1 0 7) ∨ (¬ S.1 0 7 = 24 ∧ 0 ≤ a ∧ r = (S.1 0 7 + 1) - 1 ∧ U.1 0 7 = S.1 0 7 + 1) ∨ (¬ S.1 0 7 = 24 ∧ ¬ 0 ≤ a ∧ r = -2 ∧ U.1 0 7 = S.1 0 7))) := by
  rw [f_M_track.eq_1] at h
  by_cases q1 : a = 0
  · rw [if_pos q1] at h
    injection h with h; injection h with h1 h2
    subst h1 h2
    exact Or.inl ⟨Or.inl q1, rfl, rfl⟩
  rw [if_neg q1] at h
  by_cases q2 : a ≤ 24
  · rw [if_pos q2] at h
    refine Or.inr ⟨q1, q2, ?_⟩
    by_cases q3 : S.1 0 7 = 24
    · rw [if_pos q3] at h
      injection h with h; injection h with h1 h2
      subst h1 h2
      exact Or.inl ⟨q3, rfl, rfl⟩
    · rw [if_neg q3] at h
      refine Or.inr ?_
      have hb : f_M_begin S = some (st (st (st (st (st S 0 0 0) 0 1 (-4)) 0 2 0) 0 3 (-4)) 0 5 0) := rfl
      rw [hb] at h
      have e7 : (st (st (st (st (st S 0 0 0) 0 1 (-4)) 0 2 0) 0 3 (-4)) 0 5 0).1 0 7 = S.1 0 7 := by
        rw [st_no (by omega), st_no (by omega), st_no (by omega), st_no (by omega), st_no (by omega)]
      generalize (st (st (st (st (st S 0 0 0) 0 1 (-4)) 0 2 0) 0 3 (-4)) 0 5 0) = S1 at h e7
      have h : (if 0 ≤ a then grd (inb (S1.1 0 7) 24) (wr S1 3 (S1.1 0 7).toNatClampNeg a (fun S2 => wr S2 0 7 ((S2.1 0 7) + (1 : Int32)) (fun S3 => bndv (f_M_forget S3) (fun S4 => some ((S4.1 0 7) - (1 : Int32), S4))))) else bnd (f_M_found (5 : Int32) S1) (fun r6 S5 => some (r6, S5))) = some (r, U) := h
      by_cases q4 : 0 ≤ a
      · rw [if_pos q4] at h
        refine Or.inl ⟨q3, q4, ?_⟩
        obtain ⟨-, h⟩ := grd_t h
        obtain ⟨S2, e2, h⟩ := wr_t h
        obtain ⟨S3, e3, h⟩ := wr_t h
        obtain ⟨S4, h4, h⟩ := bndv_t h
        injection h with h; injection h with h1 h2
        subst h1 h2
        have hf : f_M_forget S3 = some (st (st S3 0 60 0) 0 61 0) := rfl
        rw [hf] at h4
        injection h4 with h4
        subst h4
        have e37 : S3.1 0 7 = S.1 0 7 + 1 := by
          rw [e3, st_here, e2, st_no (by omega), e7]
        rw [st_no (by omega), st_no (by omega), e37]
        exact ⟨rfl, rfl⟩
      · rw [if_neg q4] at h
        refine Or.inr ⟨q3, q4, ?_⟩
        obtain ⟨r6, S5, h6, h⟩ := bnd_t h
        injection h with h; injection h with h1 h2
        subst h1 h2
        rw [f_M_found.eq_1] at h6
        obtain ⟨T, eT, h6⟩ := wr_t h6
        obtain ⟨-, h6⟩ := grd_t h6
        obtain ⟨-, h6⟩ := grd_t h6
        obtain ⟨T2, eT2, h6⟩ := wr_t h6
        injection h6 with h6; injection h6 with h1 h2
        subst h1 h2
        refine ⟨rfl, ?_⟩
        rw [eT2, st_no (by omega), eT, st_no (by omega), e7]
  · rw [if_neg q2] at h
    injection h with h; injection h with h1 h2
    subst h1 h2
    exact Or.inl ⟨Or.inr q2, rfl, rfl⟩
theorem track_eq {a r1 r2 : Int32} {S S1 S2 : SS} (hW : WR S) (h : S.1 66 7 = S.1 0 7) (e1 : f_Yard_track a S = some (r1, S1)) (e2 : f_M_track a S1 = some (r2, S2)) (k : S1.1 0 7 = S.1 0 7) (k2 : S2.1 66 7 = S1.1 66 7) : r1 = r2 ∧ S2.1 66 7 = S2.1 0 7 := by
  have iff : S.1 66 7 < 24 ↔ ¬ S1.1 0 7 = 24 := by
    rw [k, ← h]
    obtain ⟨j, ej, j1, j2, j3⟩ := rg_ex (ro_66_7 hW) (by omega)
    rw [ej]
    constructor
    · intro q e
      rw [e] at q
      exact absurd q (by decide)
    · intro q
      have hj : j < 24 := by
        rcases Nat.lt_or_ge j 24 with c | c
        · exact c
        · have : j = 24 := by omega
          subst this
          exact absurd rfl q
      exact (nI_ltJ (b := 24) (by omega) (by omega)).mpr hj
  rw [k2]
  rcases yt_x e1 with ⟨p, p1, p2⟩ | ⟨z1, z2, p⟩
  · rcases mt_x e2 with ⟨-, m1, m2⟩ | ⟨y1, y2, -⟩
    · exact ⟨by rw [p1, m1], by rw [p2, m2, k]; exact h⟩
    · rcases p with p | p
      · exact absurd p y1
      · exact absurd y2 p
  · rcases mt_x e2 with ⟨m, -⟩ | ⟨-, -, m⟩
    · rcases m with m | m
      · exact absurd m z1
      · exact absurd z2 m
    · rcases p with ⟨q, p1, p2⟩ | ⟨q, q', p1, p2⟩ | ⟨q, q', p1, p2⟩
      · rcases m with ⟨m, m1, m2⟩ | ⟨m, -⟩ | ⟨m, -⟩
        · exact ⟨by rw [p1, m1], by rw [p2, m2, k]; exact h⟩
        · exact absurd (iff.mpr m) q
        · exact absurd (iff.mpr m) q
      · rcases m with ⟨m, -⟩ | ⟨m, m', m1, m2⟩ | ⟨m, m', -⟩
        · exact absurd m (iff.mp q)
        · exact ⟨by rw [p1, m1, k, h], by rw [p2, m2, k, h]⟩
        · exact absurd q' m'
      · rcases m with ⟨m, -⟩ | ⟨m, m', -⟩ | ⟨m, m', m1, m2⟩
        · exact absurd m (iff.mp q)
        · exact absurd m' q'
        · exact ⟨by rw [p1, m1], by rw [p2, m2, k]; exact h⟩
