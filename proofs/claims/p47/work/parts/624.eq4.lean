/-! ===== raise, room ===== -/
theorem raise_eq {a r1 r2 : Int32} {S S1 S2 : SS} (hW : WR S) (w1 : WR S1) (e1 : f_Yard_raise a S = some (r1, S1)) (e2 : f_M_raise a S1 = some (r2, S2)) : r1 = r2 := by
  obtain ⟨ra, Ua, ea, -, -, ha⟩ := t_Yard_raise (a1 := a) hW
  obtain ⟨rb, Ub, eb, -, -, hb⟩ := t_M_raise (a1 := a) w1
  rw [ea] at e1
  rw [eb] at e2
  injection e1 with e1; injection e1 with c1 c2
  injection e2 with e2; injection e2 with d1 d2
  rw [← c1, ← d1]
  exact d_eq ha hb rfl
theorem hs_n {k : Nat} (S : SS) (hk : k < 4) : f_Stacks_height_start (nI k) S = some (S.1 123 k, S) := by
  rw [f_Stacks_height_start.eq_1, if_neg (nI_nn (by omega)), if_neg (show ¬ ((4 : Int32) ≤ nI k) from nI_ge (b := 4) hk (by omega)), inb_nI hk (by omega), nI_clamp (by omega)]
  rfl
theorem hg_n {k : Nat} (S : SS) (hk : k < 4) : f_Stacks_height_goal (nI k) S = some (S.1 125 k, S) := by
  rw [f_Stacks_height_goal.eq_1, if_neg (nI_nn (by omega)), if_neg (show ¬ ((4 : Int32) ≤ nI k) from nI_ge (b := 4) hk (by omega)), inb_nI hk (by omega), nI_clamp (by omega)]
  rfl
theorem in_n {a lo hi : Int32} {l h : Nat} (hl : lo = nI l) (hh : hi = nI h) (hb : h < 2 ^ 31) (hl2 : l < 2 ^ 31) (k : inV a lo hi = 0) : ∃ j, l ≤ j ∧ j ≤ h ∧ a = nI j := by
  obtain ⟨k1, k2⟩ := inV0.mp k
  rw [Int32.lt_iff_toInt_lt, hl, nI_ti hl2] at k1
  rw [Int32.le_iff_toInt_le, hh, nI_ti hb] at k2
  obtain ⟨j, rfl, j1, j2, j3⟩ := rg_ex (x := a) (a := 0) (b := h) ⟨by omega, by omega⟩ (by omega)
  rw [nI_ti j3] at k1 k2
  exact ⟨j, by omega, by omega, rfl⟩
theorem room_eq {a b r1 r2 : Int32} {S S1 S2 : SS} (hr : ∀ i, S.1 106 i = S.1 46 i) (hs : ∀ i, S.1 123 i = S.1 47 i) (hg : ∀ i, S.1 125 i = S.1 49 i) (e1 : f_Yard_room a b S = some (r1, S1)) (e2 : f_M_room a b S1 = some (r2, S2)) (k46 : ∀ i, S1.1 46 i = S.1 46 i) (k47 : ∀ i, S1.1 47 i = S.1 47 i) (k49 : ∀ i, S1.1 49 i = S.1 49 i) (k2 : ∀ i, S2.1 106 i = S1.1 106 i) : r1 = r2 ∧ ∀ i, S2.1 106 i = S2.1 46 i := by
  rw [f_Yard_room.eq_1] at e1
  rw [f_M_room.eq_1] at e2
  have stay : some ((-1 : Int32), S) = some (r1, S1) → some ((-1 : Int32), S1) = some (r2, S2) → r1 = r2 ∧ ∀ i, S2.1 106 i = S2.1 46 i := fun a b => by
    injection a with a; injection a with a1 a2
    injection b with b; injection b with b1 b2
    exact ⟨by rw [← a1, ← b1], fun i => by rw [← b2, ← a2, hr]⟩
  replace e1 := bnd_s e1 (in_v _ _ _ _)
  by_cases p1 : inV a 0 3 = 0
  · rw [if_pos p1] at e1
    obtain ⟨s, s0, s1, rfl⟩ := in_n (l := 0) (h := 3) rfl rfl (by omega) (by omega) p1
    rw [if_neg (nI_nn (by omega)), if_neg (show ¬ ((4 : Int32) ≤ nI s) from nI_ge (b := 4) (by omega) (by omega))] at e2
    replace e1 := bnd_s e1 (in_v _ _ _ _)
    by_cases p2 : inV b 1 10 = 0
    · rw [if_pos p2] at e1
      obtain ⟨z1, z2⟩ := inV0.mp p2
      rw [if_neg z1, if_neg (le_nlt.mp z2)] at e2
      replace e2 := (grd_t e2).2
      rw [nI_clamp (n := s) (by omega), k47] at e2
      replace e1 := bnd_t e1
      obtain ⟨r6, T, h6, e1⟩ := e1
      injection e1 with e1; injection e1 with a1 a2
      rw [f_Plans_setRoom.eq_1, if_neg (nI_nn (by omega)), if_neg (show ¬ ((4 : Int32) ≤ nI s) from nI_ge (b := 4) (by omega) (by omega))] at h6
      replace h6 := bnd_s h6 (hs_n _ (by omega))
      by_cases q1 : b < S.1 47 s
      · rw [hs, if_pos q1] at h6
        rw [if_pos q1] at e2
        injection h6 with h6; injection h6 with c1 c2
        exact stay (by rw [← a1, ← a2, ← c1, ← c2]) e2
      · rw [hs, if_neg q1] at h6
        rw [if_neg q1] at e2
        replace h6 := bnd_s h6 (hg_n _ (by omega))
        replace e2 := (grd_t e2).2
        rw [k49] at e2
        by_cases q2 : S.1 49 s ≤ b
        · rw [hg, if_pos q2] at h6
          rw [if_pos q2] at e2
          replace h6 := (grd_t h6).2
          replace h6 := nm_q h6
          obtain ⟨z, ez, h6⟩ := h6
          replace h6 := (grd_t h6).2
          replace h6 := wr_t h6
          obtain ⟨T2, t2, h6⟩ := h6
          injection h6 with h6; injection h6 with c1 c2
          replace e2 := (grd_t e2).2
          replace e2 := nm_q e2
          obtain ⟨y, ey, e2⟩ := e2
          replace e2 := (grd_t e2).2
          replace e2 := wr_t e2
          obtain ⟨U2, u2, e2⟩ := e2
          injection e2 with e2; injection e2 with d1 d2
          rw [nI_clamp (n := s) (by omega)] at ez t2
          refine ⟨?_, fun i => ?_⟩
          · rw [← a1, ← c1, ← d1, ez, ey, k46, hr]
          · rw [k2, ← a2, ← c2, ← d2, t2, u2, st_at, if_pos rfl, st_at, if_pos rfl]
            by_cases ci : i = s
            · rw [if_pos ci, if_pos ci]
            · rw [if_neg ci, if_neg ci, k46, hr]
        · rw [hg, if_neg q2] at h6
          rw [if_neg q2] at e2
          injection h6 with h6; injection h6 with c1 c2
          exact stay (by rw [← a1, ← a2, ← c1, ← c2]) e2
    · rw [if_neg p2] at e1
      refine stay e1 ?_
      by_cases c : b < 1
      · rw [if_pos c] at e2; exact e2
      · rw [if_neg c, if_pos (Classical.byContradiction (fun q => p2 (inV0.mpr ⟨c, le_nlt.mpr q⟩)))] at e2; exact e2
  · rw [if_neg p1] at e1
    refine stay e1 ?_
    by_cases c : a < 0
    · rw [if_pos c] at e2; exact e2
    · rw [if_neg c, if_pos] at e2
      · exact e2
      · apply Classical.byContradiction
        intro q
        refine p1 (inV0.mpr ⟨c, ?_⟩)
        rw [Int32.le_iff_toInt_le] at q ⊢
        have e3 : (3 : Int32).toInt = 3 := by decide
        have e4 : (4 : Int32).toInt = 4 := by decide
        omega
