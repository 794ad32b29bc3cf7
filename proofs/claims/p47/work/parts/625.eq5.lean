/-! ===== lay ===== -/
theorem wa_start {s i h : Nat} {S : SS} (hs : s < 4) (hh : S.1 123 s = nI h) (h10 : h ≤ 10) (hi : i < h) : f_Stacks_wagonAt_start (nI s) (nI i) S = some (S.1 122 (10 * s + i), S) := by
  rw [f_Stacks_wagonAt_start.eq_1, if_neg (nI_nn (by omega)), if_neg (show ¬ ((4 : Int32) ≤ nI s) from nI_ge (b := 4) hs (by omega)), if_neg (nI_nn (by omega)), inb_nI hs (by omega), nI_clamp (n := s) (by omega), hh]
  show (if nI h ≤ nI i then f_Stacks_wagonAt_start_j27 (nI s) (nI i) S else f_Stacks_wagonAt_start_j28 (nI s) (nI i) 1 S) = _
  rw [if_neg (nI_ge hi (by omega)), f_Stacks_wagonAt_start_j28.eq_1, if_neg (by decide), show (10 : Int32) * nI s + nI i = nI (10 * s + i) by rw [show (10 : Int32) * nI s = nI (10 * s) from nI_mul 10 s, nI_add], inb_nI (by omega) (by omega), nI_clamp (n := 10 * s + i) (by omega)]
  rfl
theorem po_start {s h : Nat} {S : SS} {w : Int32} (hs : s < 4) (hh : S.1 123 s = nI h) (h10 : h ≤ 10) : ∀ (N i : Nat), i ≤ h → h < N + i → ∃ r, f_Stacks_placeOn_start_L2 N (nI s) w (nI i) S = some (r, S) ∧ ((r = -4 ∧ ∀ j, i ≤ j → j < h → ¬ S.1 122 (10 * s + j) = w) ∨ (¬ r = -4 ∧ ∃ j, i ≤ j ∧ j < h ∧ S.1 122 (10 * s + j) = w))
  | 0, i, hi, hN => by omega
  | N + 1, i, hi, hN => by
    rw [f_Stacks_placeOn_start_L2.eq_2, hs_n _ hs, bnd_r, hh]
    by_cases c : i = h
    · rw [if_pos (nI_le (by omega) (by omega))]
      exact ⟨-4, rfl, Or.inl ⟨rfl, fun j a b => by omega⟩⟩
    · have hi' : i < h := by omega
      rw [if_neg (nI_ge hi' (by omega)), wa_start hs hh h10 hi', bnd_r]
      by_cases q : S.1 122 (10 * s + i) = w
      · rw [if_pos q]
        exact ⟨nI i, rfl, Or.inr ⟨nI_m4 (by omega), i, Nat.le_refl _, hi', q⟩⟩
      · rw [if_neg q]
        obtain ⟨r, e, p⟩ := po_start (w := w) hs hh h10 N (i + 1) (by omega) (by omega)
        refine ⟨r, ?_, ?_⟩
        · show f_Stacks_placeOn_start_L2 N (nI s) w (nI i + 1) S = _
          rw [nI_1]; exact e
        · rcases p with ⟨p1, p2⟩ | ⟨p1, j, p2, p3, p4⟩
          · refine Or.inl ⟨p1, fun j a b => ?_⟩
            by_cases cj : j = i
            · rw [cj]; exact q
            · exact p2 j (by omega) b
          · exact Or.inr ⟨p1, j, by omega, p3, p4⟩
theorem sk_start {S : SS} {w : Int32} (hW : WR S) : ∀ (N s : Nat), s ≤ 4 → 4 < N + s → (∀ s', s' < s → ∀ j : Nat, (j : Int) < (S.1 123 s').toInt → ¬ S.1 122 (10 * s' + j) = w) → ∃ r, f_Stacks_stackOf_start_L2 N w (nI s) S = some (r, S) ∧ ((r = -4 ∧ ¬ Bef (S.1 123) (S.1 122) w 4 0) ∨ (¬ r = -4 ∧ Bef (S.1 123) (S.1 122) w 4 0))
  | 0, s, hs, hN, hp => by omega
  | N + 1, s, hs, hN, hp => by
    rw [f_Stacks_stackOf_start_L2.eq_2]
    by_cases c : s = 4
    · subst c
      rw [if_pos (show (4 : Int32) ≤ nI 4 from nI_le (a := 4) (by omega) (by omega))]
      refine ⟨-4, rfl, Or.inl ⟨rfl, fun k => ?_⟩⟩
      obtain ⟨s', j, -, a2, a3, a4⟩ := k
      exact hp s' a2 j a3 a4
    · have hs4 : s < 4 := by omega
      rw [if_neg (show ¬ ((4 : Int32) ≤ nI s) from nI_ge (b := 4) hs4 (by omega))]
      obtain ⟨h, eh, h1, h2, h3⟩ := rg_ex (ro_123 hW s) (by omega)
      obtain ⟨r, e, p⟩ := po_start (w := w) hs4 eh (by omega) NF 0 (by omega) (by have : NF = 100000 := rfl; omega)
      have e : f_Stacks_placeOn_start (nI s) w S = some (r, S) := e
      rw [e, bnd_r]
      have th : (S.1 123 s).toInt = (h : Int) := by rw [eh, nI_ti (by omega)]
      rcases p with ⟨p1, p2⟩ | ⟨p1, j, p2, p3, p4⟩
      · rw [if_pos p1]
        obtain ⟨r', e', p'⟩ := sk_start hW N (s + 1) (by omega) (by omega) (fun s' hs' j hj => by
          by_cases cs : s' = s
          · subst cs
            exact p2 j (by omega) (by omega)
          · exact hp s' (by omega) j hj)
        refine ⟨r', ?_, p'⟩
        show f_Stacks_stackOf_start_L2 N w (nI s + 1) S = _
        rw [nI_1]; exact e'
      · rw [if_neg p1]
        exact ⟨nI s, rfl, Or.inr ⟨nI_m4 (by omega), s, j, Or.inl hs4, hs4, by omega, p4⟩⟩
theorem skx_start {S : SS} {w : Int32} (hW : WR S) : ∃ r, f_Stacks_stackOf_start w S = some (r, S) ∧ ((r = -4 ∧ ¬ Bef (S.1 123) (S.1 122) w 4 0) ∨ (¬ r = -4 ∧ Bef (S.1 123) (S.1 122) w 4 0)) := by
  rw [f_Stacks_stackOf_start.eq_1]
  exact sk_start hW NF 0 (by omega) (by have : NF = 100000 := rfl; omega) (fun s' hs' => by omega)
set_option maxHeartbeats 1000000 in
theorem lay_start {s w : Nat} {r1 r2 : Int32} {S S1 S2 : SS} (hW : WR S) (w1 : WR S1) (hP : PL S) (hs : s < 4) (hw : w < 10) (hr : ∀ i, S.1 106 i = S.1 46 i) (hO : ∀ i, S.1 122 i = S.1 48 i) (hH : ∀ i, S.1 123 i = S.1 47 i) (e1 : f_Plans_put_j15 (nI s) (nI w) S = some (r1, S1)) (e2 : f_M_laid_M_startMany_M_startOn (nI s) (nI w) S1 = some (r2, S2)) (k46 : ∀ i, S1.1 46 i = S.1 46 i) (kO : ∀ i, S1.1 48 i = S.1 48 i) (kM : ∀ i, S1.1 47 i = S.1 47 i) (k2 : ∀ i, S2.1 122 i = S1.1 122 i) (k3 : ∀ i, S2.1 123 i = S1.1 123 i) : r1 = r2 ∧ (∀ i, S2.1 122 i = S2.1 48 i) ∧ ∀ i, S2.1 123 i = S2.1 47 i := by
  have stay : some ((-1 : Int32), S) = some (r1, S1) → some ((-1 : Int32), S1) = some (r2, S2) → r1 = r2 ∧ (∀ i, S2.1 122 i = S2.1 48 i) ∧ ∀ i, S2.1 123 i = S2.1 47 i := fun a b => by
    injection a with a; injection a with a1 a2
    injection b with b; injection b with b1 b2
    exact ⟨by rw [← a1, ← b1], fun i => by rw [← b2, ← a2, hO], fun i => by rw [← b2, ← a2, hH]⟩
  obtain ⟨h, eh, h1, h2, h3⟩ := rg_ex (ro_123 hW s) (by omega)
  obtain ⟨m, em, m1, m2, m3⟩ := rg_ex (ro_46 hW s) (by omega)
  have hle : h ≤ m := by
    have := hP.1 s hs
    have q := this.1
    rw [← hH, eh, em, nI_ti h3, nI_ti m3] at q
    omega
  rw [f_Plans_put_j15.eq_1, if_neg (nI_nn (by omega)), if_neg (show ¬ ((4 : Int32) ≤ nI s) from nI_ge (b := 4) hs (by omega))] at e1
  replace e1 := bnd_s e1 (hs_n _ hs)
  replace e1 := (grd_t e1).2
  rw [nI_clamp (n := s) (by omega), hr, em, eh] at e1
  rw [f_M_laid_M_startMany_M_startOn.eq_1, if_neg (nI_nn (by omega)), if_neg (show ¬ ((4 : Int32) ≤ nI s) from nI_ge (b := 4) hs (by omega)), if_neg (nI_nn (by omega)), if_neg (show ¬ ((10 : Int32) ≤ nI w) from nI_ge (b := 10) hw (by omega))] at e2
  obtain ⟨rh, Uh, ehh, eU, bb, eb, hb⟩ := u_has_s (w := nI w) w1
  subst eU
  replace e2 := bnd_s e2 ehh
  have hbS : bb = true ↔ Bef (S.1 123) (S.1 122) (nI w) 4 0 := by
    rw [hb, show Uh.1 47 = S.1 123 from funext fun i => by rw [kM, hH], show Uh.1 48 = S.1 122 from funext fun i => by rw [kO, hO]]
  obtain ⟨rs, es, ps⟩ := skx_start (w := nI w) hW
  by_cases full : m ≤ h
  · rw [if_pos (nI_le full (by omega))] at e1
    refine stay e1 ?_
    by_cases q : rh = 0
    · rw [if_pos q] at e2
      replace e2 := (grd_t e2).2
      replace e2 := (grd_t e2).2
      rw [nI_clamp (n := s) (by omega), kM, k46, ← hH, eh, em, if_pos (by rw [show h = m by omega])] at e2
      exact e2
    · rw [if_neg q] at e2
      exact e2
  · rw [if_neg (nI_ge (by omega) (by omega))] at e1
    replace e1 := bnd_s e1 es
    rcases ps with ⟨p1, p2⟩ | ⟨p1, p2⟩
    · have bf : bb = false := by
        cases hbb : bb with
        | false => rfl
        | true => exact absurd (hbS.mp hbb) p2
      rw [if_pos p1] at e1
      rw [if_pos (by rw [eb, bf]; rfl)] at e2
      replace e2 := (grd_t e2).2
      replace e2 := (grd_t e2).2
      rw [nI_clamp (n := s) (by omega), kM, k46, ← hH, eh, em, if_neg (fun z => full (by have := nI_inj (by omega) (by omega) z; omega))] at e2
      replace e2 := (grd_t e2).2
      rw [show (10 : Int32) * nI s + nI h = nI (10 * s + h) by rw [show (10 : Int32) * nI s = nI (10 * s) from nI_mul 10 s, nI_add], nI_clamp (n := 10 * s + h) (by omega)] at e2
      replace e2 := (grd_t e2).2
      replace e2 := wr_t e2
      obtain ⟨V1, v1, e2⟩ := e2
      replace e2 := (grd_t e2).2
      replace e2 := (grd_t e2).2
      replace e2 := wr_t e2
      obtain ⟨V2, v2, e2⟩ := e2
      replace e2 := (grd_t e2).2
      injection e2 with e2; injection e2 with d1 d2
      replace e1 := bndv_t e1
      obtain ⟨T5, h5, e1⟩ := e1
      replace e1 := bnd_s e1 (hs_n _ hs)
      injection e1 with e1; injection e1 with a1 a2
      rw [f_Stacks_put_start.eq_1, if_neg (nI_nn (by omega)), if_neg (show ¬ ((4 : Int32) ≤ nI s) from nI_ge (b := 4) hs (by omega))] at h5
      replace h5 := (grd_t h5).2
      rw [nI_clamp (n := s) (by omega), eh, if_neg (show ¬ ((10 : Int32) ≤ nI h) from nI_ge (b := 10) (by omega) (by omega))] at h5
      replace h5 := (grd_t h5).2
      rw [show (10 : Int32) * nI s + nI h = nI (10 * s + h) by rw [show (10 : Int32) * nI s = nI (10 * s) from nI_mul 10 s, nI_add], nI_clamp (n := 10 * s + h) (by omega)] at h5
      replace h5 := (grd_t h5).2
      replace h5 := wr_t h5
      obtain ⟨T1, t1, h5⟩ := h5
      replace h5 := (grd_t h5).2
      replace h5 := (grd_t h5).2
      replace h5 := wr_t h5
      obtain ⟨T2, t2, h5⟩ := h5
      injection h5 with h5
      have hT1 : T1.1 123 s = nI h := by rw [t1, st_at, if_neg (by decide), eh]
      have hV1 : V1.1 47 s = nI h := by rw [v1, st_at, if_neg (by decide), kM, ← hH, eh]
      have c1 : ∀ i, T5.1 123 i = if i = s then nI h + 1 else S.1 123 i := fun i => by
        rw [← h5, t2, st_at, if_pos rfl, hT1, show T1.1 123 i = S.1 123 i by rw [t1, st_at, if_neg (by decide)]]
      have c2 : ∀ i, V2.1 47 i = if i = s then nI h + 1 else S.1 47 i := fun i => by
        rw [v2, st_at, if_pos rfl, hV1, show V1.1 47 i = S.1 47 i by rw [v1, st_at, if_neg (by decide), kM]]
      have c3 : ∀ i, T5.1 122 i = if i = 10 * s + h then nI w else S.1 122 i := fun i => by
        rw [← h5, t2, st_at, if_neg (by decide), t1, st_at, if_pos rfl]
      have c4 : ∀ i, V2.1 48 i = if i = 10 * s + h then nI w else S.1 48 i := fun i => by
        rw [v2, st_at, if_neg (by decide), v1, st_at, if_pos rfl, kO]
      refine ⟨?_, fun i => ?_, fun i => ?_⟩
      · rw [← a1, ← d1, c1, c2, if_pos rfl, if_pos rfl]
      · rw [k2, ← a2, ← d2, c3, c4, hO]
      · rw [k3, ← a2, ← d2, c1, c2, hH]
    · have bt : bb = true := hbS.mpr p2
      rw [if_neg p1] at e1
      rw [if_neg (by rw [eb, bt]; decide)] at e2
      exact stay e1 e2
theorem wa_goal {s i h : Nat} {S : SS} (hs : s < 4) (hh : S.1 125 s = nI h) (h10 : h ≤ 10) (hi : i < h) : f_Stacks_wagonAt_goal (nI s) (nI i) S = some (S.1 124 (10 * s + i), S) := by
  rw [f_Stacks_wagonAt_goal.eq_1, if_neg (nI_nn (by omega)), if_neg (show ¬ ((4 : Int32) ≤ nI s) from nI_ge (b := 4) hs (by omega)), if_neg (nI_nn (by omega)), inb_nI hs (by omega), nI_clamp (n := s) (by omega), hh]
  show (if nI h ≤ nI i then f_Stacks_wagonAt_goal_j27 (nI s) (nI i) S else f_Stacks_wagonAt_goal_j28 (nI s) (nI i) 1 S) = _
  rw [if_neg (nI_ge hi (by omega)), f_Stacks_wagonAt_goal_j28.eq_1, if_neg (by decide), show (10 : Int32) * nI s + nI i = nI (10 * s + i) by rw [show (10 : Int32) * nI s = nI (10 * s) from nI_mul 10 s, nI_add], inb_nI (by omega) (by omega), nI_clamp (n := 10 * s + i) (by omega)]
  rfl
theorem po_goal {s h : Nat} {S : SS} {w : Int32} (hs : s < 4) (hh : S.1 125 s = nI h) (h10 : h ≤ 10) : ∀ (N i : Nat), i ≤ h → h < N + i → ∃ r, f_Stacks_placeOn_goal_L2 N (nI s) w (nI i) S = some (r, S) ∧ ((r = -4 ∧ ∀ j, i ≤ j → j < h → ¬ S.1 124 (10 * s + j) = w) ∨ (¬ r = -4 ∧ ∃ j, i ≤ j ∧ j < h ∧ S.1 124 (10 * s + j) = w))
  | 0, i, hi, hN => by omega
  | N + 1, i, hi, hN => by
    rw [f_Stacks_placeOn_goal_L2.eq_2, hg_n _ hs, bnd_r, hh]
    by_cases c : i = h
    · rw [if_pos (nI_le (by omega) (by omega))]
      exact ⟨-4, rfl, Or.inl ⟨rfl, fun j a b => by omega⟩⟩
    · have hi' : i < h := by omega
      rw [if_neg (nI_ge hi' (by omega)), wa_goal hs hh h10 hi', bnd_r]
      by_cases q : S.1 124 (10 * s + i) = w
      · rw [if_pos q]
        exact ⟨nI i, rfl, Or.inr ⟨nI_m4 (by omega), i, Nat.le_refl _, hi', q⟩⟩
      · rw [if_neg q]
        obtain ⟨r, e, p⟩ := po_goal (w := w) hs hh h10 N (i + 1) (by omega) (by omega)
        refine ⟨r, ?_, ?_⟩
        · show f_Stacks_placeOn_goal_L2 N (nI s) w (nI i + 1) S = _
          rw [nI_1]; exact e
        · rcases p with ⟨p1, p2⟩ | ⟨p1, j, p2, p3, p4⟩
          · refine Or.inl ⟨p1, fun j a b => ?_⟩
            by_cases cj : j = i
            · rw [cj]; exact q
            · exact p2 j (by omega) b
          · exact Or.inr ⟨p1, j, by omega, p3, p4⟩
theorem sk_goal {S : SS} {w : Int32} (hW : WR S) : ∀ (N s : Nat), s ≤ 4 → 4 < N + s → (∀ s', s' < s → ∀ j : Nat, (j : Int) < (S.1 125 s').toInt → ¬ S.1 124 (10 * s' + j) = w) → ∃ r, f_Stacks_stackOf_goal_L2 N w (nI s) S = some (r, S) ∧ ((r = -4 ∧ ¬ Bef (S.1 125) (S.1 124) w 4 0) ∨ (¬ r = -4 ∧ Bef (S.1 125) (S.1 124) w 4 0))
  | 0, s, hs, hN, hp => by omega
  | N + 1, s, hs, hN, hp => by
    rw [f_Stacks_stackOf_goal_L2.eq_2]
    by_cases c : s = 4
    · subst c
      rw [if_pos (show (4 : Int32) ≤ nI 4 from nI_le (a := 4) (by omega) (by omega))]
      refine ⟨-4, rfl, Or.inl ⟨rfl, fun k => ?_⟩⟩
      obtain ⟨s', j, -, a2, a3, a4⟩ := k
      exact hp s' a2 j a3 a4
    · have hs4 : s < 4 := by omega
      rw [if_neg (show ¬ ((4 : Int32) ≤ nI s) from nI_ge (b := 4) hs4 (by omega))]
      obtain ⟨h, eh, h1, h2, h3⟩ := rg_ex (ro_125 hW s) (by omega)
      obtain ⟨r, e, p⟩ := po_goal (w := w) hs4 eh (by omega) NF 0 (by omega) (by have : NF = 100000 := rfl; omega)
      have e : f_Stacks_placeOn_goal (nI s) w S = some (r, S) := e
      rw [e, bnd_r]
      have th : (S.1 125 s).toInt = (h : Int) := by rw [eh, nI_ti (by omega)]
      rcases p with ⟨p1, p2⟩ | ⟨p1, j, p2, p3, p4⟩
      · rw [if_pos p1]
        obtain ⟨r', e', p'⟩ := sk_goal hW N (s + 1) (by omega) (by omega) (fun s' hs' j hj => by
          by_cases cs : s' = s
          · subst cs
            exact p2 j (by omega) (by omega)
          · exact hp s' (by omega) j hj)
        refine ⟨r', ?_, p'⟩
        show f_Stacks_stackOf_goal_L2 N w (nI s + 1) S = _
        rw [nI_1]; exact e'
      · rw [if_neg p1]
        exact ⟨nI s, rfl, Or.inr ⟨nI_m4 (by omega), s, j, Or.inl hs4, hs4, by omega, p4⟩⟩
theorem skx_goal {S : SS} {w : Int32} (hW : WR S) : ∃ r, f_Stacks_stackOf_goal w S = some (r, S) ∧ ((r = -4 ∧ ¬ Bef (S.1 125) (S.1 124) w 4 0) ∨ (¬ r = -4 ∧ Bef (S.1 125) (S.1 124) w 4 0)) := by
  rw [f_Stacks_stackOf_goal.eq_1]
  exact sk_goal hW NF 0 (by omega) (by have : NF = 100000 := rfl; omega) (fun s' hs' => by omega)
set_option maxHeartbeats 1000000 in
theorem lay_goal {s w : Nat} {r1 r2 : Int32} {S S1 S2 : SS} (hW : WR S) (w1 : WR S1) (hP : PL S) (hs : s < 4) (hw : w < 10) (hr : ∀ i, S.1 106 i = S.1 46 i) (hO : ∀ i, S.1 124 i = S.1 50 i) (hH : ∀ i, S.1 125 i = S.1 49 i) (e1 : f_Plans_put_j15_1 (nI s) (nI w) S = some (r1, S1)) (e2 : f_M_laid_M_goalMany_M_goalOn (nI s) (nI w) S1 = some (r2, S2)) (k46 : ∀ i, S1.1 46 i = S.1 46 i) (kO : ∀ i, S1.1 50 i = S.1 50 i) (kM : ∀ i, S1.1 49 i = S.1 49 i) (k2 : ∀ i, S2.1 124 i = S1.1 124 i) (k3 : ∀ i, S2.1 125 i = S1.1 125 i) : r1 = r2 ∧ (∀ i, S2.1 124 i = S2.1 50 i) ∧ ∀ i, S2.1 125 i = S2.1 49 i := by
  have stay : some ((-1 : Int32), S) = some (r1, S1) → some ((-1 : Int32), S1) = some (r2, S2) → r1 = r2 ∧ (∀ i, S2.1 124 i = S2.1 50 i) ∧ ∀ i, S2.1 125 i = S2.1 49 i := fun a b => by
    injection a with a; injection a with a1 a2
    injection b with b; injection b with b1 b2
    exact ⟨by rw [← a1, ← b1], fun i => by rw [← b2, ← a2, hO], fun i => by rw [← b2, ← a2, hH]⟩
  obtain ⟨h, eh, h1, h2, h3⟩ := rg_ex (ro_125 hW s) (by omega)
  obtain ⟨m, em, m1, m2, m3⟩ := rg_ex (ro_46 hW s) (by omega)
  have hle : h ≤ m := by
    have := hP.1 s hs
    have q := this.2
    rw [← hH, eh, em, nI_ti h3, nI_ti m3] at q
    omega
  rw [f_Plans_put_j15_1.eq_1, if_neg (nI_nn (by omega)), if_neg (show ¬ ((4 : Int32) ≤ nI s) from nI_ge (b := 4) hs (by omega))] at e1
  replace e1 := bnd_s e1 (hg_n _ hs)
  replace e1 := (grd_t e1).2
  rw [nI_clamp (n := s) (by omega), hr, em, eh] at e1
  rw [f_M_laid_M_goalMany_M_goalOn.eq_1, if_neg (nI_nn (by omega)), if_neg (show ¬ ((4 : Int32) ≤ nI s) from nI_ge (b := 4) hs (by omega)), if_neg (nI_nn (by omega)), if_neg (show ¬ ((10 : Int32) ≤ nI w) from nI_ge (b := 10) hw (by omega))] at e2
  obtain ⟨rh, Uh, ehh, eU, bb, eb, hb⟩ := u_has_g (w := nI w) w1
  subst eU
  replace e2 := bnd_s e2 ehh
  have hbS : bb = true ↔ Bef (S.1 125) (S.1 124) (nI w) 4 0 := by
    rw [hb, show Uh.1 49 = S.1 125 from funext fun i => by rw [kM, hH], show Uh.1 50 = S.1 124 from funext fun i => by rw [kO, hO]]
  obtain ⟨rs, es, ps⟩ := skx_goal (w := nI w) hW
  by_cases full : m ≤ h
  · rw [if_pos (nI_le full (by omega))] at e1
    refine stay e1 ?_
    by_cases q : rh = 0
    · rw [if_pos q] at e2
      replace e2 := (grd_t e2).2
      replace e2 := (grd_t e2).2
      rw [nI_clamp (n := s) (by omega), kM, k46, ← hH, eh, em, if_pos (by rw [show h = m by omega])] at e2
      exact e2
    · rw [if_neg q] at e2
      exact e2
  · rw [if_neg (nI_ge (by omega) (by omega))] at e1
    replace e1 := bnd_s e1 es
    rcases ps with ⟨p1, p2⟩ | ⟨p1, p2⟩
    · have bf : bb = false := by
        cases hbb : bb with
        | false => rfl
        | true => exact absurd (hbS.mp hbb) p2
      rw [if_pos p1] at e1
      rw [if_pos (by rw [eb, bf]; rfl)] at e2
      replace e2 := (grd_t e2).2
      replace e2 := (grd_t e2).2
      rw [nI_clamp (n := s) (by omega), kM, k46, ← hH, eh, em, if_neg (fun z => full (by have := nI_inj (by omega) (by omega) z; omega))] at e2
      replace e2 := (grd_t e2).2
      rw [show (10 : Int32) * nI s + nI h = nI (10 * s + h) by rw [show (10 : Int32) * nI s = nI (10 * s) from nI_mul 10 s, nI_add], nI_clamp (n := 10 * s + h) (by omega)] at e2
      replace e2 := (grd_t e2).2
      replace e2 := wr_t e2
      obtain ⟨V1, v1, e2⟩ := e2
      replace e2 := (grd_t e2).2
      replace e2 := (grd_t e2).2
      replace e2 := wr_t e2
      obtain ⟨V2, v2, e2⟩ := e2
      replace e2 := (grd_t e2).2
      injection e2 with e2; injection e2 with d1 d2
      replace e1 := bndv_t e1
      obtain ⟨T5, h5, e1⟩ := e1
      replace e1 := bnd_s e1 (hg_n _ hs)
      injection e1 with e1; injection e1 with a1 a2
      rw [f_Stacks_put_goal.eq_1, if_neg (nI_nn (by omega)), if_neg (show ¬ ((4 : Int32) ≤ nI s) from nI_ge (b := 4) hs (by omega))] at h5
      replace h5 := (grd_t h5).2
      rw [nI_clamp (n := s) (by omega), eh, if_neg (show ¬ ((10 : Int32) ≤ nI h) from nI_ge (b := 10) (by omega) (by omega))] at h5
      replace h5 := (grd_t h5).2
      rw [show (10 : Int32) * nI s + nI h = nI (10 * s + h) by rw [show (10 : Int32) * nI s = nI (10 * s) from nI_mul 10 s, nI_add], nI_clamp (n := 10 * s + h) (by omega)] at h5
      replace h5 := (grd_t h5).2
      replace h5 := wr_t h5
      obtain ⟨T1, t1, h5⟩ := h5
      replace h5 := (grd_t h5).2
      replace h5 := (grd_t h5).2
      replace h5 := wr_t h5
      obtain ⟨T2, t2, h5⟩ := h5
      injection h5 with h5
      have hT1 : T1.1 125 s = nI h := by rw [t1, st_at, if_neg (by decide), eh]
      have hV1 : V1.1 49 s = nI h := by rw [v1, st_at, if_neg (by decide), kM, ← hH, eh]
      have c1 : ∀ i, T5.1 125 i = if i = s then nI h + 1 else S.1 125 i := fun i => by
        rw [← h5, t2, st_at, if_pos rfl, hT1, show T1.1 125 i = S.1 125 i by rw [t1, st_at, if_neg (by decide)]]
      have c2 : ∀ i, V2.1 49 i = if i = s then nI h + 1 else S.1 49 i := fun i => by
        rw [v2, st_at, if_pos rfl, hV1, show V1.1 49 i = S.1 49 i by rw [v1, st_at, if_neg (by decide), kM]]
      have c3 : ∀ i, T5.1 124 i = if i = 10 * s + h then nI w else S.1 124 i := fun i => by
        rw [← h5, t2, st_at, if_neg (by decide), t1, st_at, if_pos rfl]
      have c4 : ∀ i, V2.1 50 i = if i = 10 * s + h then nI w else S.1 50 i := fun i => by
        rw [v2, st_at, if_neg (by decide), v1, st_at, if_pos rfl, kO]
      refine ⟨?_, fun i => ?_, fun i => ?_⟩
      · rw [← a1, ← d1, c1, c2, if_pos rfl, if_pos rfl]
      · rw [k2, ← a2, ← d2, c3, c4, hO]
      · rw [k3, ← a2, ← d2, c1, c2, hH]
    · have bt : bb = true := hbS.mpr p2
      rw [if_neg p1] at e1
      rw [if_neg (by rw [eb, bt]; decide)] at e2
      exact stay e1 e2
theorem hh_s {a r : Int32} {S T : SS} (h : f_Stacks_height_start a S = some (r, T)) : T = S := by
  rw [f_Stacks_height_start.eq_1] at h
  replace h := ite_or h
  rcases h with h | h
  · exact (some_2 h).symm
  · replace h := ite_or h
    rcases h with h | h
    · exact (some_2 h).symm
    · exact (some_2 (grd_t h).2).symm
theorem pu_s {a b : Int32} {S T : SS} (h : f_Stacks_put_start a b S = some T) : F1 [122, 123] [] S T := by
  rw [f_Stacks_put_start.eq_1] at h
  replace h := ite_or h
  rcases h with h | h
  · rw [← some_1 h]; exact F1.rf
  · replace h := ite_or h
    rcases h with h | h
    · rw [← some_1 h]; exact F1.rf
    · replace h := (grd_t h).2
      replace h := ite_or h
      rcases h with h | h
      · rw [← some_1 h]; exact F1.rf
      · replace h := (grd_t (grd_t h).2).2
        replace h := wr_t h
        obtain ⟨T1, t1, h⟩ := h
        replace h := (grd_t (grd_t h).2).2
        replace h := wr_t h
        obtain ⟨T2, t2, h⟩ := h
        rw [← some_1 h, t2, t1]
        exact F1.tr (F1.tr F1.rf (fr_stA _ _ _ _).f1 rfl) (fr_stA _ _ _ _).f1 rfl
theorem pj_s {a b r : Int32} {S U : SS} (hW : WR S) (h : f_Plans_put_j15 a b S = some (r, U)) : F1 [122, 123] [] S U := by
  rw [f_Plans_put_j15.eq_1] at h
  replace h := ite_or h
  rcases h with h | h
  · rw [← some_2 h]; exact F1.rf
  · replace h := ite_or h
    rcases h with h | h
    · rw [← some_2 h]; exact F1.rf
    · replace h := bnd_t h
      obtain ⟨v, T, hv, h⟩ := h
      have := hh_s hv
      subst this
      replace h := (grd_t h).2
      replace h := ite_or h
      rcases h with h | h
      · rw [← some_2 h]; exact F1.rf
      · obtain ⟨rs, es, -⟩ := skx_start (w := b) hW
        replace h := bnd_s h es
        replace h := ite_or h
        rcases h with h | h
        · replace h := bndv_t h
          obtain ⟨T5, h5, h⟩ := h
          replace h := bnd_t h
          obtain ⟨v', T6, hv', h⟩ := h
          have := hh_s hv'
          subst this
          rw [← some_2 h]
          exact pu_s h5
        · rw [← some_2 h]; exact F1.rf
theorem pl_s {a b r : Int32} {S U : SS} (hW : WR S) (hP : PL S) (h : f_M_laid_M_startMany_M_startOn a b S = some (r, U)) : F1 [47, 48] [] S U := by
  obtain ⟨r', U', e, -, -, g⟩ := p_laid_s (a3 := a) (a4 := b) hW hP
  rw [e] at h
  rw [← some_2 h]
  exact g.f1
theorem hh_g {a r : Int32} {S T : SS} (h : f_Stacks_height_goal a S = some (r, T)) : T = S := by
  rw [f_Stacks_height_goal.eq_1] at h
  replace h := ite_or h
  rcases h with h | h
  · exact (some_2 h).symm
  · replace h := ite_or h
    rcases h with h | h
    · exact (some_2 h).symm
    · exact (some_2 (grd_t h).2).symm
theorem pu_g {a b : Int32} {S T : SS} (h : f_Stacks_put_goal a b S = some T) : F1 [124, 125] [] S T := by
  rw [f_Stacks_put_goal.eq_1] at h
  replace h := ite_or h
  rcases h with h | h
  · rw [← some_1 h]; exact F1.rf
  · replace h := ite_or h
    rcases h with h | h
    · rw [← some_1 h]; exact F1.rf
    · replace h := (grd_t h).2
      replace h := ite_or h
      rcases h with h | h
      · rw [← some_1 h]; exact F1.rf
      · replace h := (grd_t (grd_t h).2).2
        replace h := wr_t h
        obtain ⟨T1, t1, h⟩ := h
        replace h := (grd_t (grd_t h).2).2
        replace h := wr_t h
        obtain ⟨T2, t2, h⟩ := h
        rw [← some_1 h, t2, t1]
        exact F1.tr (F1.tr F1.rf (fr_stA _ _ _ _).f1 rfl) (fr_stA _ _ _ _).f1 rfl
theorem pj_g {a b r : Int32} {S U : SS} (hW : WR S) (h : f_Plans_put_j15_1 a b S = some (r, U)) : F1 [124, 125] [] S U := by
  rw [f_Plans_put_j15_1.eq_1] at h
  replace h := ite_or h
  rcases h with h | h
  · rw [← some_2 h]; exact F1.rf
  · replace h := ite_or h
    rcases h with h | h
    · rw [← some_2 h]; exact F1.rf
    · replace h := bnd_t h
      obtain ⟨v, T, hv, h⟩ := h
      have := hh_g hv
      subst this
      replace h := (grd_t h).2
      replace h := ite_or h
      rcases h with h | h
      · rw [← some_2 h]; exact F1.rf
      · obtain ⟨rs, es, -⟩ := skx_goal (w := b) hW
        replace h := bnd_s h es
        replace h := ite_or h
        rcases h with h | h
        · replace h := bndv_t h
          obtain ⟨T5, h5, h⟩ := h
          replace h := bnd_t h
          obtain ⟨v', T6, hv', h⟩ := h
          have := hh_g hv'
          subst this
          rw [← some_2 h]
          exact pu_g h5
        · rw [← some_2 h]; exact F1.rf
theorem pl_g {a b r : Int32} {S U : SS} (hW : WR S) (hP : PL S) (h : f_M_laid_M_goalMany_M_goalOn a b S = some (r, U)) : F1 [49, 50] [] S U := by
  obtain ⟨r', U', e, -, -, g⟩ := p_laid_g (a3 := a) (a4 := b) hW hP
  rw [e] at h
  rw [← some_2 h]
  exact g.f1
theorem lay_eq {a b c r1 r2 : Int32} {S S1 S2 : SS} (hW : WR S) (w1 : WR S1) (hP : PL S) (hr : ∀ i, S.1 106 i = S.1 46 i) (h1 : ∀ i, S.1 122 i = S.1 48 i) (h2 : ∀ i, S.1 123 i = S.1 47 i) (h3 : ∀ i, S.1 124 i = S.1 50 i) (h4 : ∀ i, S.1 125 i = S.1 49 i) (e1 : f_Yard_lay a b c S = some (r1, S1)) (e2 : f_M_lay a b c S1 = some (r2, S2)) (g1 : F1 [122, 123, 124, 125] [] S S1) (g2 : F1 [47, 48, 49, 50] [] S1 S2) : r1 = r2 ∧ (∀ i, S2.1 122 i = S2.1 48 i) ∧ (∀ i, S2.1 123 i = S2.1 47 i) ∧ (∀ i, S2.1 124 i = S2.1 50 i) ∧ ∀ i, S2.1 125 i = S2.1 49 i := by
  rw [f_Yard_lay.eq_1] at e1
  rw [f_M_lay.eq_1] at e2
  replace e1 := bnd_s e1 (in_v _ _ _ _)
  have stay : some ((-1 : Int32), S) = some (r1, S1) → some ((-1 : Int32), S1) = some (r2, S2) → r1 = r2 ∧ (∀ i, S2.1 122 i = S2.1 48 i) ∧ (∀ i, S2.1 123 i = S2.1 47 i) ∧ (∀ i, S2.1 124 i = S2.1 50 i) ∧ ∀ i, S2.1 125 i = S2.1 49 i := fun a b => by
    injection a with a; injection a with a1 a2
    injection b with b; injection b with b1 b2
    rw [← a1, ← b1, ← b2, ← a2]
    exact ⟨rfl, h1, h2, h3, h4⟩
  have out : ¬ (inV b 0 3 = 0 ∧ inV c 0 9 = 0) → some ((-1 : Int32), S1) = some (r2, S2) := fun no => by
    have bad : ∀ {z : Int32}, (b < 0 ∨ (4 : Int32) ≤ b ∨ c < 0 ∨ (10 : Int32) ≤ c) := fun {z} => by
      apply Classical.byContradiction
      intro k
      refine no ⟨inV0.mpr ⟨fun q => k (Or.inl q), ?_⟩, inV0.mpr ⟨fun q => k (Or.inr (Or.inr (Or.inl q))), ?_⟩⟩
      · apply Classical.byContradiction
        intro q
        refine k (Or.inr (Or.inl ?_))
        rw [Int32.le_iff_toInt_le] at q ⊢
        have e3 : (3 : Int32).toInt = 3 := by decide
        have e4 : (4 : Int32).toInt = 4 := by decide
        omega
      · apply Classical.byContradiction
        intro q
        refine k (Or.inr (Or.inr (Or.inr ?_)))
        rw [Int32.le_iff_toInt_le] at q ⊢
        have e3 : (9 : Int32).toInt = 9 := by decide
        have e4 : (10 : Int32).toInt = 10 := by decide
        omega
    have bad := bad (z := 0)
    rcases ite_or e2 with e | e
    · replace e := bnd_t e
      obtain ⟨v, U, hv, e⟩ := e
      rw [f_M_laid_M_startMany_M_startOn.eq_1] at hv
      have : some ((-1 : Int32), S1) = some (v, U) := by
        by_cases q1 : b < 0
        · rw [if_pos q1] at hv; exact hv
        · rw [if_neg q1] at hv
          by_cases q2 : (4 : Int32) ≤ b
          · rw [if_pos q2] at hv; exact hv
          · rw [if_neg q2] at hv
            by_cases q3 : c < 0
            · rw [if_pos q3] at hv; exact hv
            · rw [if_neg q3] at hv
              rw [if_pos (Or.elim bad (fun z => absurd z q1) (fun z => Or.elim z (fun z => absurd z q2) (fun z => Or.elim z (fun z => absurd z q3) id)))] at hv
              exact hv
      rw [this]; exact e
    · replace e := bnd_t e
      obtain ⟨v, U, hv, e⟩ := e
      rw [f_M_laid_M_goalMany_M_goalOn.eq_1] at hv
      have : some ((-1 : Int32), S1) = some (v, U) := by
        by_cases q1 : b < 0
        · rw [if_pos q1] at hv; exact hv
        · rw [if_neg q1] at hv
          by_cases q2 : (4 : Int32) ≤ b
          · rw [if_pos q2] at hv; exact hv
          · rw [if_neg q2] at hv
            by_cases q3 : c < 0
            · rw [if_pos q3] at hv; exact hv
            · rw [if_neg q3] at hv
              rw [if_pos (Or.elim bad (fun z => absurd z q1) (fun z => Or.elim z (fun z => absurd z q2) (fun z => Or.elim z (fun z => absurd z q3) id)))] at hv
              exact hv
      rw [this]; exact e
  by_cases p1 : inV b 0 3 = 0
  · rw [if_pos p1] at e1
    replace e1 := bnd_s e1 (in_v _ _ _ _)
    by_cases p2 : inV c 0 9 = 0
    · rw [if_pos p2] at e1
      replace e1 := bnd_t e1
      obtain ⟨r6, T, h6, e1⟩ := e1
      injection e1 with e1; injection e1 with a1 a2
      subst a1 a2
      obtain ⟨s, s0, s1, rfl⟩ := in_n (l := 0) (h := 3) rfl rfl (by omega) (by omega) p1
      obtain ⟨w, w0, w2, rfl⟩ := in_n (l := 0) (h := 9) rfl rfl (by omega) (by omega) p2
      have P1 : PL T := hP.of (fun k hk i => by
        simp only [List.mem_cons, List.mem_nil_iff, or_false] at hk
        rcases hk with rfl | rfl | rfl | rfl | rfl <;> exact g1 _ i rfl)
      rw [f_Plans_put.eq_1] at h6
      by_cases qa : a = 0
      · rw [if_pos qa] at h6
        rw [if_pos qa] at e2
        replace e2 := bnd_t e2
        obtain ⟨v, U, hv, e2⟩ := e2
        injection e2 with e2; injection e2 with b1 b2
        subst b1 b2
        obtain ⟨z1, z2, z3⟩ := lay_start hW w1 hP (by omega) (by omega) hr h1 h2 h6 hv (fun i => g1 46 i rfl) (fun i => g1 48 i rfl) (fun i => g1 47 i rfl) (fun i => g2 122 i rfl) (fun i => g2 123 i rfl)
        have t1 : F1 [122, 123] [] S T := pj_s hW h6
        have t2 : F1 [47, 48] [] T U := pl_s w1 P1 hv
        exact ⟨z1, z2, z3, fun i => by rw [t2 124 i rfl, t1 124 i rfl, t2 50 i rfl, t1 50 i rfl, h3], fun i => by rw [t2 125 i rfl, t1 125 i rfl, t2 49 i rfl, t1 49 i rfl, h4]⟩
      · rw [if_neg qa] at h6
        rw [if_neg qa] at e2
        replace e2 := bnd_t e2
        obtain ⟨v, U, hv, e2⟩ := e2
        injection e2 with e2; injection e2 with b1 b2
        subst b1 b2
        obtain ⟨z1, z2, z3⟩ := lay_goal hW w1 hP (by omega) (by omega) hr h3 h4 h6 hv (fun i => g1 46 i rfl) (fun i => g1 50 i rfl) (fun i => g1 49 i rfl) (fun i => g2 124 i rfl) (fun i => g2 125 i rfl)
        have t1 : F1 [124, 125] [] S T := pj_g hW h6
        have t2 : F1 [49, 50] [] T U := pl_g w1 P1 hv
        exact ⟨z1, fun i => by rw [t2 122 i rfl, t1 122 i rfl, t2 48 i rfl, t1 48 i rfl, h1], fun i => by rw [t2 123 i rfl, t1 123 i rfl, t2 47 i rfl, t1 47 i rfl, h2], z2, z3⟩
    · rw [if_neg p2] at e1
      exact stay e1 (out (fun k => p2 k.2))
  · rw [if_neg p1] at e1
    exact stay e1 (out (fun k => p1 k.1))
