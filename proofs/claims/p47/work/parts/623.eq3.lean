/-! ===== point ===== -/
theorem pa_n {k : Nat} (S : SS) (hk : k < 48) : f_Layout_pointAt (nI k) S = some (S.1 94 k, S) := by
  rw [f_Layout_pointAt.eq_1, if_neg (nI_nn (by omega)), if_neg (show ¬ ((48 : Int32) ≤ nI k) from nI_ge (b := 48) hk (by omega)), inb_nI hk (by omega), nI_clamp (by omega)]
  rfl
theorem sp_f {a b c : Int32} {S U : SS} (h : f_State_setPoint a b c S = some U) : F1 [79] [] S U := by
  rw [f_State_setPoint.eq_1] at h
  rcases ite_or h with h | h
  · injection h with h
    rw [← h]
    exact F1.rf
  · rcases ite_or h with h | h
    · injection h with h
      rw [← h]
      exact F1.rf
    · replace h := (grd_t h).2
      replace h := wr_t h
      obtain ⟨T, eT, h⟩ := h
      replace h := (grd_t h).2
      replace h := wr_t h
      obtain ⟨T2, eT2, h⟩ := h
      injection h with h
      rw [← h, eT2, eT]
      exact F1.tr (F1.tr F1.rf (fr_stA _ _ _ _).f1 rfl) (fr_stA _ _ _ _).f1 rfl
theorem point_eq {a b r1 r2 : Int32} {S S1 S2 : SS} (hW : WR S) (ht : S.1 66 7 = S.1 0 7) (hp : S.1 66 8 = S.1 0 15) (h : ∀ i, S.1 94 i = S.1 5 i) (e1 : f_Yard_point a b S = some (r1, S1)) (e2 : f_M_point a b S1 = some (r2, S2)) (k7 : S1.1 0 7 = S.1 0 7) (k15 : S1.1 0 15 = S.1 0 15) (k : ∀ i, S1.1 5 i = S.1 5 i) (k8 : S2.1 66 8 = S1.1 66 8) (k2 : ∀ i, S2.1 94 i = S1.1 94 i) : r1 = r2 ∧ S2.1 66 8 = S2.1 0 15 ∧ ∀ i, S2.1 94 i = S2.1 5 i := by
  have iff : S.1 66 8 < 40 ↔ ¬ S1.1 0 15 = 40 := by
    rw [k15, ← hp]
    obtain ⟨j, ej, j1, j2, j3⟩ := rg_ex (ro_66_8 hW) (by omega)
    rw [ej]
    constructor
    · intro q e
      rw [e] at q
      exact absurd q (by decide)
    · intro q
      have hj : j < 40 := by
        rcases Nat.lt_or_ge j 40 with c | c
        · exact c
        · have : j = 40 := by omega
          subst this
          exact absurd rfl q
      exact (nI_ltJ (b := 40) (by omega) (by omega)).mpr hj
  rw [f_Yard_point.eq_1] at e1
  rw [f_M_point.eq_1] at e2
  replace e1 := bnd_s e1 (in_v _ _ _ _)
  replace e2 := bnd_s e2 (sd_v _ _)
  by_cases q : inV b 0 1 = 0
  · rw [if_pos q] at e1
    rw [if_neg (sd_in.mp q)] at e2
    by_cases q8 : S.1 66 8 < 40
    · rw [if_pos q8] at e1
      rw [if_neg (iff.mp q8)] at e2
      replace e1 := bndv_t e1
      obtain ⟨T, hT, e1⟩ := e1
      have gT := rb_t hT
      replace e1 := bnd_s e1 (tf_v _ _)
      replace e2 := bndv_t e2
      obtain ⟨V, hV, e2⟩ := e2
      have gV := mb_t hV
      replace e2 := bnd_s e2 (ms_v _ _)
      rw [gT 66 7 rfl, ht] at e1
      rw [gV 0 7 rfl, k7] at e2
      have no : ∀ {x : Int32} {T' : SS}, ¬ x = 0 → F1 [62] [] S T' → f_Yard_point_j66 a b x T' = some (r1, S1) → r1 = -2 ∧ S1.1 66 8 = S.1 66 8 ∧ ∀ i, S1.1 94 i = S.1 94 i := fun {x T'} hx gx hj => by
        rw [f_Yard_point_j66.eq_1, if_neg hx] at hj
        replace hj := bnd_t hj
        obtain ⟨v, T9, h9, hj⟩ := hj
        obtain ⟨p1, p2⟩ := rf_t h9
        injection hj with hj; injection hj with b1 b2
        rw [← b1, ← b2]
        exact ⟨p1, (p2 66 8 rfl).trans (gx 66 8 rfl), fun i => (p2 94 i rfl).trans (gx 94 i rfl)⟩
      by_cases qt : tfV (S.1 0 7) a = 0
      · rw [if_pos qt] at e1
        rw [qt] at e2
        replace e2 := bnd_s e2 (en_0 _)
        rw [if_pos rfl] at e2
        obtain ⟨t, t1, rfl⟩ := tf0 qt
        obtain ⟨s, s1, rfl⟩ := in01 q
        rw [idx_n] at e1 e2
        replace e1 := bnd_s e1 (pa_n T (by omega))
        replace e2 := (grd_t e2).2
        rw [nI_clamp (n := 2 * t + s) (by omega)] at e2
        have c94 : T.1 94 (2 * t + s) = V.1 5 (2 * t + s) := by rw [gT 94 _ rfl, h, gV 5 _ rfl, k]
        by_cases qc : T.1 94 (2 * t + s) = -4
        · rw [if_pos qc] at e1
          rw [if_pos (c94 ▸ qc)] at e2
          rw [qt, f_Yard_point_j66.eq_1, if_pos rfl] at e1
          replace e1 := bndv_t e1
          obtain ⟨T2, hT2, e1⟩ := e1
          have gT2 := hf_t hT2
          replace e1 := bnd_t e1
          obtain ⟨r8, T3, h3, e1⟩ := e1
          injection e1 with e1; injection e1 with b1 b2
          have n8 : T2.1 66 8 = S.1 66 8 := by rw [gT2 66 8 rfl, gT 66 8 rfl]
          rw [f_Layout_addPoint.eq_1, n8, if_neg (fun z => le_nlt.mp z q8), idx_n] at h3
          replace h3 := bnd_s h3 (ie_n _ (by omega))
          rw [if_neg (by decide)] at h3
          replace h3 := (grd_t h3).2
          replace h3 := wr_t h3
          obtain ⟨T4, e4, h3⟩ := h3
          replace h3 := (grd_t h3).2
          replace h3 := wr_t h3
          obtain ⟨T5, e5, h3⟩ := h3
          replace h3 := bndv_t h3
          obtain ⟨T6, h6, h3⟩ := h3
          have g6 := sp_f h6
          replace h3 := wr_t h3
          obtain ⟨T7, e7, h3⟩ := h3
          injection h3 with h3; injection h3 with c1 c2
          have v7 : T7.1 66 8 = S.1 66 8 + 1 := by
            rw [e7, st_here, g6 66 8 rfl, e5, st_at, if_neg (by decide), e4, st_at, if_neg (by decide), n8]
          rw [nI_clamp (n := 2 * t + s) (by omega)] at e4
          have w7 : ∀ i, T7.1 94 i = if i = 2 * t + s then S.1 66 8 else S.1 94 i := fun i => by
            rw [e7, st_at, if_neg (by decide), g6 94 i rfl, e5, st_at, if_neg (by decide), e4, st_at, if_pos rfl, n8, gT2 94 i rfl, gT 94 i rfl]
          have n15 : V.1 0 15 = S.1 0 15 := by rw [gV 0 15 rfl, k15]
          replace e2 := (grd_t e2).2
          replace e2 := wr_t e2
          obtain ⟨V1, f1, e2⟩ := e2
          replace e2 := (grd_t e2).2
          replace e2 := wr_t e2
          obtain ⟨V2, f2, e2⟩ := e2
          replace e2 := (grd_t e2).2
          replace e2 := wr_t e2
          obtain ⟨V3, f3, e2⟩ := e2
          replace e2 := (grd_t e2).2
          replace e2 := wr_t e2
          obtain ⟨V4, f4, e2⟩ := e2
          replace e2 := wr_t e2
          obtain ⟨V5, f5, e2⟩ := e2
          replace e2 := bndv_t e2
          obtain ⟨V6, h6', e2⟩ := e2
          have gV6 := mf_t h6'
          injection e2 with e2; injection e2 with d1 d2
          have v6 : V6.1 0 15 = S.1 0 15 + 1 := by
            rw [gV6 0 15 rfl, f5, st_here, f4, st_at, if_neg (by decide), f3, st_at, if_neg (by decide), f2, st_at, if_neg (by decide), f1, st_at, if_neg (by decide), n15]
          have w6 : ∀ i, V6.1 5 i = if i = 2 * t + s then S.1 0 15 else S.1 5 i := fun i => by
            rw [gV6 5 i rfl, f5, st_at, if_neg (by decide), f4, st_at, if_neg (by decide), f3, st_at, if_neg (by decide), f2, st_at, if_neg (by decide), f1, st_at, if_pos rfl, n15, gV 5 i rfl, k]
          refine ⟨?_, ?_, fun i => ?_⟩
          · rw [← b1, ← c1, ← d1, v7, v6, hp]
          · rw [k8, ← d2, v6, ← b2, ← c2, v7, hp]
          · rw [k2, ← d2, w6, ← b2, ← c2, w7, hp, h]
        · rw [if_neg qc] at e1
          rw [if_neg (fun z => qc (c94.trans z))] at e2
          obtain ⟨p1, p2, p3⟩ := no (by decide) gT e1
          replace e2 := bnd_t e2
          obtain ⟨v, U, hU, e2⟩ := e2
          obtain ⟨u1, u2⟩ := mo_t hU
          injection e2 with e2; injection e2 with d1 d2
          refine ⟨?_, ?_, fun i => ?_⟩
          · rw [p1, ← d1, u1]
          · rw [k8, p2, ← d2, u2 0 15 rfl, gV 0 15 rfl, k15, hp]
          · rw [k2, p3, ← d2, u2 5 i rfl, gV 5 i rfl, k, h]
      · rw [if_neg qt] at e1
        obtain ⟨p1, p2, p3⟩ := no qt gT e1
        replace e2 := bnd_t e2
        obtain ⟨v, U, hU, e2⟩ := e2
        obtain ⟨u1, u2⟩ := en_1 qt hU
        rw [if_neg (by rw [u1]; decide)] at e2
        injection e2 with e2; injection e2 with d1 d2
        refine ⟨?_, ?_, fun i => ?_⟩
        · rw [p1, ← d1]
        · rw [k8, p2, ← d2, u2 0 15 rfl, gV 0 15 rfl, k15, hp]
        · rw [k2, p3, ← d2, u2 5 i rfl, gV 5 i rfl, k, h]
    · rw [if_neg q8] at e1
      rw [if_pos (Classical.byContradiction (fun c => q8 (iff.mpr c)))] at e2
      injection e1 with e1; injection e1 with b1 b2
      injection e2 with e2; injection e2 with c1 c2
      refine ⟨by rw [← b1, ← c1], ?_, fun i => ?_⟩
      · rw [k8, ← b2, ← c2, k15, hp]
      · rw [k2, ← b2, ← c2, k, h]
  · rw [if_neg q] at e1
    rw [if_pos (Classical.byContradiction (fun c => q (sd_in.mpr c)))] at e2
    injection e1 with e1; injection e1 with b1 b2
    injection e2 with e2; injection e2 with c1 c2
    refine ⟨by rw [← b1, ← c1], ?_, fun i => ?_⟩
    · rw [k8, ← b2, ← c2, k15, hp]
    · rw [k2, ← b2, ← c2, k, h]
/-! ===== bar ===== -/
theorem bar_eq {a b c r1 r2 : Int32} {S S1 S2 : SS} (h : ∀ i, S.1 105 i = S.1 16 i) (e1 : f_Yard_bar a b c S = some (r1, S1)) (e2 : f_M_bar a b c S1 = some (r2, S2)) (k : ∀ i, S1.1 16 i = S.1 16 i) (k2 : ∀ i, S2.1 105 i = S1.1 105 i) : r1 = r2 ∧ ∀ i, S2.1 105 i = S2.1 16 i := by
  rw [f_Yard_bar.eq_1] at e1
  rw [f_M_bar.eq_1] at e2
  replace e1 := bnd_s e1 (in_v _ _ _ _)
  by_cases p1 : inV a 0 9 = 0
  · rw [if_pos p1] at e1
    obtain ⟨z1, z2⟩ := inV0.mp p1
    rw [if_neg z1, if_neg (le_nlt.mp z2)] at e2
    replace e1 := bnd_s e1 (in_v _ _ _ _)
    by_cases p2 : inV b 0 9 = 0
    · rw [if_pos p2] at e1
      obtain ⟨y1, y2⟩ := inV0.mp p2
      rw [if_neg y1, if_pos y2] at e2
      replace e1 := bndv_t e1
      obtain ⟨T, hT, e1⟩ := e1
      have gT := hf_t hT
      replace e1 := bnd_t e1
      obtain ⟨r7, T2, h7, e1⟩ := e1
      rw [f_Bodies_setBarred.eq_1] at h7
      replace h7 := bnd_t h7
      obtain ⟨rb, T3, hb, h7⟩ := h7
      rw [f_Bodies_isBarred.eq_1] at hb
      replace hb := bnd_s hb (in_v _ _ _ _)
      rw [if_pos p1] at hb
      replace hb := bnd_s hb (in_v _ _ _ _)
      rw [if_pos p2] at hb
      replace hb := (grd_t hb).2
      have hb2 : T3 = T ∧ ((T.1 105 ((10 : Int32) * a + b).toNatClampNeg = 0 ∧ rb = 0) ∨ (¬ T.1 105 ((10 : Int32) * a + b).toNatClampNeg = 0 ∧ rb = 1)) := by
        by_cases c0 : T.1 105 ((10 : Int32) * a + b).toNatClampNeg = 0
        · rw [if_pos c0] at hb
          injection hb with hb; injection hb with b1 b2
          exact ⟨b2.symm, Or.inl ⟨c0, b1.symm⟩⟩
        · rw [if_neg c0] at hb
          injection hb with hb; injection hb with b1 b2
          exact ⟨b2.symm, Or.inr ⟨c0, b1.symm⟩⟩
      obtain ⟨e3, hb2⟩ := hb2
      replace h7 := bnd_s h7 (in_v _ _ _ _)
      rw [if_pos p1] at h7
      replace h7 := bnd_s h7 (in_v _ _ _ _)
      rw [if_pos p2] at h7
      replace h7 := (grd_t h7).2
      replace h7 := wr_t h7
      obtain ⟨T4, e4, h7⟩ := h7
      replace h7 := (grd_t h7).2
      replace h7 := wr_t h7
      obtain ⟨T5, e5, h7⟩ := h7
      replace h7 := (grd_t h7).2
      injection h7 with h7; injection h7 with c1 c2
      replace e2 := (grd_t e2).2
      have e105 : ∀ i, S1.1 105 i = T5.1 105 i := fun i => by
        rcases ite_or e1 with e | e <;> (injection e with e; injection e with d1 d2; rw [← d2, ← c2])
      have cell : T.1 105 ((10 : Int32) * a + b).toNatClampNeg = S1.1 16 ((10 : Int32) * a + b).toNatClampNeg := by rw [gT 105 _ rfl, h, k]
      have key : ∀ y : Int32, f_M_bar_j41 a b c y S1 = some (r2, S2) → r2 = y ∧ ∀ i, S2.1 105 i = S2.1 16 i := fun y hy => by
        rw [f_M_bar_j41.eq_1] at hy
        replace hy := (grd_t hy).2
        replace hy := wr_t hy
        obtain ⟨U1, u1, hy⟩ := hy
        replace hy := (grd_t hy).2
        replace hy := wr_t hy
        obtain ⟨U2, u2, hy⟩ := hy
        replace hy := bndv_t hy
        obtain ⟨U3, hU3, hy⟩ := hy
        have g3 := mf_t hU3
        injection hy with hy; injection hy with d1 d2
        refine ⟨d1.symm, fun i => ?_⟩
        rw [k2, e105, e5, st_at, if_pos rfl, e4, st_at, if_pos rfl, ← d2, g3 16 i rfl, u2, st_at, if_pos rfl, u1, st_at, if_pos rfl, e3, gT 105 i rfl, h, k]
      rcases hb2 with ⟨c0, r0⟩ | ⟨c0, r0⟩
      · rw [if_pos (cell ▸ c0)] at e2
        obtain ⟨p3, p4⟩ := key 0 e2
        rw [if_pos (by rw [← c1, r0])] at e1
        injection e1 with e1; injection e1 with d1 d2
        exact ⟨by rw [← d1, p3], p4⟩
      · rw [if_neg (fun z => c0 (cell.trans z))] at e2
        obtain ⟨p3, p4⟩ := key 1 e2
        rw [if_neg (by rw [← c1, r0]; decide)] at e1
        injection e1 with e1; injection e1 with d1 d2
        exact ⟨by rw [← d1, p3], p4⟩
    · rw [if_neg p2] at e1
      have e3 : some ((-1 : Int32), S1) = some (r2, S2) := by
        by_cases c : b < 0
        · rw [if_pos c] at e2; exact e2
        · rw [if_neg c, if_neg (fun q => p2 (inV0.mpr ⟨c, q⟩))] at e2; exact e2
      injection e1 with e1; injection e1 with a1 a2
      injection e3 with e3; injection e3 with b1 b2
      exact ⟨by rw [← a1, ← b1], fun i => by rw [k2, ← b2, ← a2, h]⟩
  · rw [if_neg p1] at e1
    have e3 : some ((-1 : Int32), S1) = some (r2, S2) := by
      by_cases c : a < 0
      · rw [if_pos c] at e2; exact e2
      · rw [if_neg c, if_pos (Classical.byContradiction (fun q => p1 (inV0.mpr ⟨c, le_nlt.mpr q⟩)))] at e2
        exact e2
    injection e1 with e1; injection e1 with a1 a2
    injection e3 with e3; injection e3 with b1 b2
    exact ⟨by rw [← a1, ← b1], fun i => by rw [k2, ← b2, ← a2, h]⟩
