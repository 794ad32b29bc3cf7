/-! ===== small questions, told as values ===== -/
def sdV (a : Int32) : Int32 := if a = 0 then 1 else if a = 1 then 1 else 0
theorem sd_v (a : Int32) (S : SS) : f_M_isSide a S = some (sdV a, S) := by
  rw [f_M_isSide.eq_1]
  unfold sdV
  by_cases q1 : a = 0
  · rw [if_pos q1, if_pos q1]
  · rw [if_neg q1, if_neg q1]
    by_cases q2 : a = 1
    · rw [if_pos q2, if_pos q2]
    · rw [if_neg q2, if_neg q2]
def tfV (n a : Int32) : Int32 := if a < 0 then 3 else if a < 24 then (if a < n then 0 else 1) else 3
theorem tf_v (a : Int32) (S : SS) : f_Layout_trackFinding a S = some (tfV (S.1 66 7) a, S) := by
  rw [f_Layout_trackFinding.eq_1]
  unfold tfV
  by_cases q1 : a < 0
  · rw [if_pos q1, if_pos q1]
  · rw [if_neg q1, if_neg q1]
    by_cases q2 : a < 24
    · rw [if_pos q2, if_pos q2]
      by_cases q3 : a < S.1 66 7
      · rw [if_pos q3, if_neg]
        intro k
        rw [Int32.lt_iff_toInt_lt] at q3
        rw [Int32.le_iff_toInt_le] at k
        omega
      · rw [if_neg q3, if_pos]
        rw [Int32.lt_iff_toInt_lt] at q3
        rw [Int32.le_iff_toInt_le]
        omega
    · rw [if_neg q2, if_neg q2]
theorem ms_v (a : Int32) (S : SS) : f_M_missTrack a S = some (tfV (S.1 0 7) a, S) := by
  rw [f_M_missTrack.eq_1]
  unfold tfV
  by_cases q1 : a < 0
  · rw [if_pos q1, if_pos q1]
  · rw [if_neg q1, if_neg q1]
    by_cases q2 : a < 24
    · rw [if_pos q2, if_pos q2]
      by_cases q3 : a < S.1 0 7
      · rw [if_pos q3, if_pos q3]
      · rw [if_neg q3, if_neg q3]
    · rw [if_neg q2, if_neg q2]
theorem sd_in {a : Int32} : inV a 0 1 = 0 ↔ ¬ sdV a = 0 := by
  unfold inV sdV
  constructor
  · intro h k
    by_cases q1 : a < 0
    · rw [if_pos q1] at h; exact absurd h (by decide)
    · rw [if_neg q1] at h
      by_cases q2 : a ≤ 1
      · obtain ⟨j, rfl, j1, j2, j3⟩ := rg_ex (le_l (nlt_l (rgt a) (rgl 0 0 0 rfl) q1) (rgl 1 1 1 rfl) q2) (by omega)
        rcases (show j = 0 ∨ j = 1 by omega) with rfl | rfl
        · exact absurd k (by decide)
        · exact absurd k (by decide)
      · rw [if_neg q2] at h; exact absurd h (by decide)
  · intro h
    by_cases q1 : a = 0
    · subst q1; rfl
    · rw [if_neg q1] at h
      by_cases q2 : a = 1
      · subst q2; rfl
      · rw [if_neg q2] at h; exact absurd rfl h
theorem in01 {a : Int32} (h : inV a 0 1 = 0) : ∃ s, s < 2 ∧ a = nI s := by
  unfold inV at h
  by_cases q1 : a < 0
  · rw [if_pos q1] at h; exact absurd h (by decide)
  · rw [if_neg q1] at h
    by_cases q2 : a ≤ 1
    · obtain ⟨j, rfl, j1, j2, j3⟩ := rg_ex (le_l (nlt_l (rgt a) (rgl 0 0 0 rfl) q1) (rgl 1 1 1 rfl) q2) (by omega)
      exact ⟨j, by omega, rfl⟩
    · rw [if_neg q2] at h; exact absurd h (by decide)
theorem tf0 {n a : Int32} (h : tfV n a = 0) : ∃ t, t < 24 ∧ a = nI t := by
  unfold tfV at h
  by_cases q1 : a < 0
  · rw [if_pos q1] at h; exact absurd h (by decide)
  · rw [if_neg q1] at h
    by_cases q2 : a < 24
    · obtain ⟨j, rfl, j1, j2, j3⟩ := rg_ex (nlt_l (rgt a) (rgl 0 0 0 rfl) q1) (by omega)
      exact ⟨j, (nI_ltJ (b := 24) j3 (by omega)).mp q2, rfl⟩
    · rw [if_neg q2] at h; exact absurd h (by decide)
theorem en_0 (S : SS) : f_M_ends 0 S = some (0, S) := by
  rw [f_M_ends.eq_1, if_pos rfl, f_M_ends_j10.eq_1, if_pos rfl]
theorem en_1 {r v : Int32} {S U : SS} (hr : ¬ r = 0) (h : f_M_ends r S = some (v, U)) : v = 1 ∧ F1 [1] [(0, 0)] S U := by
  rw [f_M_ends.eq_1, if_neg hr] at h
  replace h := bnd_t h
  obtain ⟨w, T, h1, h⟩ := h
  rw [f_M_ends_j10.eq_1, if_neg hr] at h
  injection h with h; injection h with a1 a2
  subst a1 a2
  exact ⟨rfl, (mo_t h1).2⟩
theorem ie_n {k : Nat} (S : SS) (hk : k < 48) : f_Layout_isEnd (nI k) S = some (1, S) := by
  rw [f_Layout_isEnd.eq_1, if_neg (nI_nn (by omega)), if_neg (show ¬ ((48 : Int32) ≤ nI k) from nI_ge (b := 48) hk (by omega))]
theorem idx_n {t s : Nat} : (2 : Int32) * nI t + nI s = nI (2 * t + s) := by
  rw [show (2 : Int32) * nI t = nI (2 * t) from nI_mul 2 t, nI_add]
/-! ===== exit ===== -/
theorem exit_eq {a b c r1 r2 : Int32} {S S1 S2 : SS} (ht : S.1 66 7 = S.1 0 7) (h : ∀ i, S.1 98 i = S.1 4 i) (e1 : f_Yard_exit a b c S = some (r1, S1)) (e2 : f_M_exit a b c S1 = some (r2, S2)) (k7 : S1.1 0 7 = S.1 0 7) (k : ∀ i, S1.1 4 i = S.1 4 i) (k2 : ∀ i, S2.1 98 i = S1.1 98 i) : r1 = r2 ∧ ∀ i, S2.1 98 i = S2.1 4 i := by
  rw [f_Yard_exit.eq_1] at e1
  rw [f_M_exit.eq_1] at e2
  replace e1 := bnd_s e1 (in_v _ _ _ _)
  replace e2 := bnd_s e2 (sd_v _ _)
  by_cases q : inV b 0 1 = 0
  · rw [if_pos q] at e1
    rw [if_neg (sd_in.mp q)] at e2
    replace e1 := bndv_t e1
    obtain ⟨T, hT, e1⟩ := e1
    have gT := rb_t hT
    replace e1 := bnd_s e1 (tf_v _ _)
    replace e2 := bndv_t e2
    obtain ⟨V, hV, e2⟩ := e2
    have gV := mb_t hV
    replace e2 := bnd_s e2 (ms_v _ _)
    rw [gT 66 7 rfl, ht] at e1
    rw [gV 0 7 rfl, k7] at e2
    by_cases qt : tfV (S.1 0 7) a = 0
    · rw [if_pos qt] at e1
      rw [qt] at e2
      replace e2 := bnd_s e2 (en_0 _)
      rw [if_pos rfl] at e2
      obtain ⟨t, t1, rfl⟩ := tf0 qt
      obtain ⟨s, s1, rfl⟩ := in01 q
      rw [idx_n] at e1 e2
      replace e1 := bndv_t e1
      obtain ⟨T2, hT2, e1⟩ := e1
      have gT2 := hf_t hT2
      replace e1 := bnd_t e1
      obtain ⟨r8, T3, h3, e1⟩ := e1
      rw [f_Layout_setExit.eq_1] at h3
      replace h3 := bnd_s h3 (ie_n _ (by omega))
      rw [if_neg (by decide)] at h3
      replace h3 := grd_t h3
      obtain ⟨-, h3⟩ := h3
      replace h3 := nm_q h3
      obtain ⟨z, ez, h3⟩ := h3
      replace h3 := grd_t h3
      obtain ⟨-, h3⟩ := h3
      replace h3 := wr_t h3
      obtain ⟨T4, e4, h3⟩ := h3
      replace h3 := grd_t h3
      obtain ⟨-, h3⟩ := h3
      injection h3 with h3; injection h3 with a1 a2
      subst a1 a2
      rw [nI_clamp (n := 2 * t + s) (by omega)] at ez e4 e2
      replace e2 := grd_t e2
      obtain ⟨-, e2⟩ := e2
      have c98 : z = V.1 4 (2 * t + s) := by rw [ez, gT2 98 _ rfl, gT 98 _ rfl, h, gV 4 _ rfl, k]
      have key : ∀ y : Int32, f_M_exit_j46 (nI t) (nI s) c y V = some (r2, S2) → r2 = y ∧ ∀ i, S2.1 98 i = S2.1 4 i := fun y hy => by
        rw [f_M_exit_j46.eq_1, idx_n] at hy
        replace hy := grd_t hy
        obtain ⟨-, hy⟩ := hy
        replace hy := wr_t hy
        obtain ⟨U1, u1, hy⟩ := hy
        replace hy := bndv_t hy
        obtain ⟨U2, hU2, hy⟩ := hy
        have g2 := mf_t hU2
        injection hy with hy; injection hy with b1 b2
        subst b1 b2
        refine ⟨rfl, fun i => ?_⟩
        rw [nI_clamp (n := 2 * t + s) (by omega)] at u1
        rw [k2, g2 4 i rfl, u1, st_at, if_pos rfl]
        have e98 : S1.1 98 i = T4.1 98 i := by
          rcases ite_or e1 with e | e <;> (injection e with e; injection e with b1 b2; rw [← b2])
        rw [e98, e4, st_at, if_pos rfl]
        by_cases ci : i = 2 * t + s
        · rw [if_pos ci, if_pos ci]
        · rw [if_neg ci, if_neg ci, gT2 98 i rfl, gT 98 i rfl, h, gV 4 i rfl, k]
      by_cases qz : z = 0
      · rw [if_pos qz] at e1
        rw [if_pos (c98 ▸ qz)] at e2
        obtain ⟨p1, p2⟩ := key 0 e2
        injection e1 with e1; injection e1 with b1 b2
        exact ⟨by rw [← b1, p1], p2⟩
      · rw [if_neg qz] at e1
        rw [if_neg (fun k => qz (c98.trans k))] at e2
        obtain ⟨p1, p2⟩ := key 1 e2
        injection e1 with e1; injection e1 with b1 b2
        exact ⟨by rw [← b1, p1], p2⟩
    · rw [if_neg qt] at e1
      replace e1 := bnd_t e1
      obtain ⟨r10, T9, h9, e1⟩ := e1
      obtain ⟨p1, p2⟩ := rf_t h9
      injection e1 with e1; injection e1 with b1 b2
      subst b1 b2
      replace e2 := bnd_t e2
      obtain ⟨v, U, hU, e2⟩ := e2
      obtain ⟨u1, u2⟩ := en_1 qt hU
      rw [if_neg (by rw [u1]; decide)] at e2
      injection e2 with e2; injection e2 with b1 b2
      subst b1 b2
      refine ⟨p1, fun i => ?_⟩
      rw [k2, p2 98 i rfl, gT 98 i rfl, h, u2 4 i rfl, gV 4 i rfl, k]
  · rw [if_neg q] at e1
    rw [if_pos (Classical.byContradiction (fun c => q (sd_in.mpr c)))] at e2
    injection e1 with e1; injection e1 with b1 b2
    injection e2 with e2; injection e2 with c1 c2
    subst b1 b2 c1 c2
    exact ⟨rfl, h⟩
