/-! ===== both sides' small methods, told by what they answer and leave ===== -/
theorem rb_t {S U : SS} (h : f_Report_begin S = some U) : F1 [62] [] S U := by
  have h : some (st (st (st (st (st S 62 2 0) 62 3 0) 62 4 (-4)) 62 5 0) 62 6 (-4)) = some U := h
  injection h with h
  subst h
  exact F1.tr (F1.tr (F1.tr (F1.tr (F1.tr F1.rf (fr_stA _ _ _ _).f1 rfl) (fr_stA _ _ _ _).f1 rfl) (fr_stA _ _ _ _).f1 rfl) (fr_stA _ _ _ _).f1 rfl) (fr_stA _ _ _ _).f1 rfl
theorem hf_t {S U : SS} (h : f_History_forget S = some U) : F1 [64] [] S U := by
  have h : some (st (st S 64 6 0) 64 7 0) = some U := h
  injection h with h
  subst h
  exact F1.tr (F1.tr F1.rf (fr_stA _ _ _ _).f1 rfl) (fr_stA _ _ _ _).f1 rfl
theorem mb_t {S U : SS} (h : f_M_begin S = some U) : F1 [] [(0, 0), (0, 1), (0, 2), (0, 3), (0, 5)] S U := by
  have h : some (st (st (st (st (st S 0 0 0) 0 1 (-4)) 0 2 0) 0 3 (-4)) 0 5 0) = some U := h
  injection h with h
  subst h
  exact F1.tr (F1.tr (F1.tr (F1.tr (F1.tr F1.rf (fr_stO _ _ _ _).f1 rfl) (fr_stO _ _ _ _).f1 rfl) (fr_stO _ _ _ _).f1 rfl) (fr_stO _ _ _ _).f1 rfl) (fr_stO _ _ _ _).f1 rfl
theorem mf_t {S U : SS} (h : f_M_forget S = some U) : F1 [] [(0, 60), (0, 61)] S U := by
  have h : some (st (st S 0 60 0) 0 61 0) = some U := h
  injection h with h
  subst h
  exact F1.tr (F1.tr F1.rf (fr_stO _ _ _ _).f1 rfl) (fr_stO _ _ _ _).f1 rfl
theorem rf_t {a r : Int32} {S U : SS} (h : f_Report_found a S = some (r, U)) : r = -2 ∧ F1 [62, 77] [] S U := by
  rw [f_Report_found.eq_1] at h
  replace h := wr_t h
  obtain ⟨T, eT, h⟩ := h
  have g : F1 [62, 77] [] S T := by rw [eT]; exact F1.tr F1.rf (fr_stA _ _ _ _).f1 rfl
  rcases ite_or h with h | h
  · injection h with h; injection h with h1 h2
    subst h1 h2
    exact ⟨rfl, g⟩
  · rcases ite_or h with h | h
    · injection h with h; injection h with h1 h2
      subst h1 h2
      exact ⟨rfl, g⟩
    · replace h := grd_t h
      obtain ⟨-, h⟩ := h
      replace h := grd_t h
      obtain ⟨-, h⟩ := h
      replace h := wr_t h
      obtain ⟨T2, eT2, h⟩ := h
      injection h with h; injection h with h1 h2
      subst h1 h2
      exact ⟨rfl, F1.tr g (by rw [eT2]; exact (fr_stA _ _ _ _).f1) rfl⟩
theorem mo_t {a r : Int32} {S U : SS} (h : f_M_found a S = some (r, U)) : r = -2 ∧ F1 [1] [(0, 0)] S U := by
  rw [f_M_found.eq_1] at h
  replace h := wr_t h
  obtain ⟨T, eT, h⟩ := h
  have g : F1 [1] [(0, 0)] S T := by rw [eT]; exact F1.tr F1.rf (fr_stO _ _ _ _).f1 rfl
  replace h := grd_t h
  obtain ⟨-, h⟩ := h
  replace h := grd_t h
  obtain ⟨-, h⟩ := h
  replace h := wr_t h
  obtain ⟨T2, eT2, h⟩ := h
  injection h with h; injection h with h1 h2
  subst h1 h2
  exact ⟨rfl, F1.tr g (by rw [eT2]; exact (fr_stA _ _ _ _).f1) rfl⟩
theorem in_t {a lo hi r : Int32} {S U : SS} (h : f_Yard_isNot a lo hi S = some (r, U)) : U = S ∧ ((r = 0 ∧ ¬ a < lo ∧ a ≤ hi) ∨ (r = 1 ∧ ¬ (¬ a < lo ∧ a ≤ hi))) := by
  rw [f_Yard_isNot.eq_1] at h
  by_cases q1 : a < lo
  · rw [if_pos q1] at h
    injection h with h; injection h with h1 h2
    subst h1 h2
    exact ⟨rfl, Or.inr ⟨rfl, fun k => k.1 q1⟩⟩
  · rw [if_neg q1] at h
    by_cases q2 : a ≤ hi
    · rw [if_pos q2] at h
      injection h with h; injection h with h1 h2
      subst h1 h2
      exact ⟨rfl, Or.inl ⟨rfl, q1, q2⟩⟩
    · rw [if_neg q2] at h
      injection h with h; injection h with h1 h2
      subst h1 h2
      exact ⟨rfl, Or.inr ⟨rfl, fun k => q2 k.2⟩⟩
theorem nm_q {α ρ : Type} {x : α} {f : α → Option ρ} {r : ρ} (h : nm x f = some r) : ∃ z, z = x ∧ f z = some r := ⟨x, rfl, h⟩
/-! ===== route ===== -/
theorem route_eq {r1 r2 : Int32} {S S1 S2 : SS} (hW : WR S) (h : S.1 67 8 = S.1 0 19) (e1 : f_Yard_route S = some (r1, S1)) (e2 : f_M_route S1 = some (r2, S2)) (k : S1.1 0 19 = S.1 0 19) (k2 : S2.1 67 8 = S1.1 67 8) : r1 = r2 ∧ S2.1 67 8 = S2.1 0 19 := by
  have iff : S.1 67 8 < 12 ↔ ¬ S1.1 0 19 = 12 := by
    rw [k, ← h]
    obtain ⟨j, ej, j1, j2, j3⟩ := rg_ex (ro_67_8 hW) (by omega)
    rw [ej]
    constructor
    · intro q e
      rw [e] at q
      exact absurd q (by decide)
    · intro q
      have hj : j < 12 := by
        rcases Nat.lt_or_ge j 12 with c | c
        · exact c
        · have : j = 12 := by omega
          subst this
          exact absurd rfl q
      exact (nI_ltJ (b := 12) (by omega) (by omega)).mpr hj
  rw [k2]
  rw [f_Yard_route.eq_1] at e1
  rw [f_M_route.eq_1] at e2
  by_cases q : S.1 67 8 < 12
  · rw [if_pos q] at e1
    rw [if_neg (iff.mp q)] at e2
    replace e1 := bndv_t e1
    obtain ⟨T, hT, e1⟩ := e1
    have gT := hf_t hT
    replace e1 := bnd_t e1
    obtain ⟨r3, T3, h3, e1⟩ := e1
    injection e1 with e1; injection e1 with a1 a2
    subst a1 a2
    rw [f_Routes_addRoute.eq_1, gT 67 8 rfl, if_pos q] at h3
    replace h3 := wr_t h3
    obtain ⟨T4, e4, h3⟩ := h3
    injection h3 with h3; injection h3 with a1 a2
    subst a1 a2
    have v4 : T4.1 67 8 = S.1 67 8 + 1 := by rw [e4, st_here]
    replace e2 := grd_t e2
    obtain ⟨-, e2⟩ := e2
    replace e2 := wr_t e2
    obtain ⟨U1, u1, e2⟩ := e2
    replace e2 := wr_t e2
    obtain ⟨U2, u2, e2⟩ := e2
    replace e2 := bndv_t e2
    obtain ⟨U3, h3, e2⟩ := e2
    have g3 := mf_t h3
    injection e2 with e2; injection e2 with a1 a2
    subst a1 a2
    have v3 : U3.1 0 19 = S.1 0 19 + 1 := by
      rw [g3 0 19 rfl, u2, st_here, u1, st_at, if_neg (by decide), k]
    rw [v4, v3, h]
    exact ⟨rfl, rfl⟩
  · rw [if_neg q] at e1
    rw [if_pos (Classical.byContradiction (fun c => q (iff.mpr c)))] at e2
    injection e1 with e1; injection e1 with a1 a2
    injection e2 with e2; injection e2 with b1 b2
    subst a1 a2 b1 b2
    exact ⟨rfl, by rw [k]; exact h⟩
def inV (a lo hi : Int32) : Int32 := if a < lo then 1 else if a ≤ hi then 0 else 1
theorem in_v (a lo hi : Int32) (S : SS) : f_Yard_isNot a lo hi S = some (inV a lo hi, S) := by
  rw [f_Yard_isNot.eq_1]
  unfold inV
  by_cases q1 : a < lo
  · rw [if_pos q1, if_pos q1]
  · rw [if_neg q1, if_neg q1]
    by_cases q2 : a ≤ hi
    · rw [if_pos q2, if_pos q2]
    · rw [if_neg q2, if_neg q2]
theorem inV0 {a lo hi : Int32} : inV a lo hi = 0 ↔ ¬ a < lo ∧ a ≤ hi := by
  unfold inV
  by_cases q1 : a < lo
  · rw [if_pos q1]
    exact ⟨fun k => absurd k (by decide), fun k => absurd q1 k.1⟩
  · rw [if_neg q1]
    by_cases q2 : a ≤ hi
    · rw [if_pos q2]; exact ⟨fun _ => ⟨q1, q2⟩, fun _ => rfl⟩
    · rw [if_neg q2]; exact ⟨fun k => absurd k (by decide), fun k => absurd k.2 q2⟩
theorem bnd_s {ρ : Type} {z : Option (Int32 × SS)} {v : Int32} {T : SS} {g : Int32 → SS → Option ρ} {r : ρ} (h : bnd z g = some r) (e : z = some (v, T)) : g v T = some r := by
  rw [e] at h
  exact h
theorem le_nlt {a b : Int32} : a ≤ b ↔ ¬ b < a := by
  rw [Int32.le_iff_toInt_le, Int32.lt_iff_toInt_lt]
  omega
/-! ===== table ===== -/
theorem table_eq {a b r1 r2 : Int32} {S S1 S2 : SS} (h : ∀ i, S.1 75 i = S.1 17 i) (e1 : f_Yard_table a b S = some (r1, S1)) (e2 : f_M_table a b S1 = some (r2, S2)) (k : ∀ i, S1.1 17 i = S.1 17 i) (k2 : ∀ i, S2.1 75 i = S1.1 75 i) : r1 = r2 ∧ ∀ i, S2.1 75 i = S2.1 17 i := by
  rw [f_Yard_table.eq_1] at e1
  rw [f_M_table.eq_1] at e2
  replace e1 := bnd_s e1 (in_v _ _ _ _)
  by_cases p1 : inV a 0 7 = 0
  · rw [if_pos p1] at e1
    obtain ⟨z1, z2⟩ := inV0.mp p1
    rw [if_neg z1, if_neg (le_nlt.mp z2)] at e2
    replace e1 := bnd_s e1 (in_v _ _ _ _)
    by_cases p2 : inV b 0 99 = 0
    · rw [if_pos p2] at e1
      obtain ⟨y1, y2⟩ := inV0.mp p2
      rw [if_neg y1, if_pos y2] at e2
      replace e1 := bndv_t e1
      obtain ⟨T3, h3, e1⟩ := e1
      have g3 := hf_t h3
      replace e1 := grd_t e1
      obtain ⟨-, e1⟩ := e1
      replace e1 := nm_q e1
      obtain ⟨z, ez, e1⟩ := e1
      replace e1 := grd_t e1
      obtain ⟨-, e1⟩ := e1
      replace e1 := wr_t e1
      obtain ⟨T4, e4, e1⟩ := e1
      injection e1 with e1; injection e1 with a1 a2
      subst a1 a2
      replace e2 := grd_t e2
      obtain ⟨-, e2⟩ := e2
      replace e2 := nm_q e2
      obtain ⟨y, ey, e2⟩ := e2
      replace e2 := grd_t e2
      obtain ⟨-, e2⟩ := e2
      replace e2 := wr_t e2
      obtain ⟨U1, u1, e2⟩ := e2
      replace e2 := bndv_t e2
      obtain ⟨U2, h4, e2⟩ := e2
      have g4 := mf_t h4
      injection e2 with e2; injection e2 with a1 a2
      subst a1 a2
      refine ⟨?_, fun i => ?_⟩
      · rw [ez, ey, g3 75 _ rfl, k, h]
      · rw [k2, e4, st_at, if_pos rfl, g4 17 i rfl, u1, st_at, if_pos rfl]
        by_cases c : i = a.toNatClampNeg
        · rw [if_pos c, if_pos c]
        · rw [if_neg c, if_neg c, g3 75 i rfl, k, h]
    · rw [if_neg p2] at e1
      have e3 : some ((-1 : Int32), S1) = some (r2, S2) := by
        by_cases c : b < 0
        · rw [if_pos c] at e2; exact e2
        · rw [if_neg c, if_neg (fun q => p2 (inV0.mpr ⟨c, q⟩))] at e2; exact e2
      injection e1 with e1; injection e1 with a1 a2
      injection e3 with e3; injection e3 with b1 b2
      subst a1 a2 b1 b2
      exact ⟨rfl, h⟩
  · rw [if_neg p1] at e1
    have e3 : some ((-1 : Int32), S1) = some (r2, S2) := by
      by_cases c : a < 0
      · rw [if_pos c] at e2; exact e2
      · rw [if_neg c, if_pos (Classical.byContradiction (fun q => p1 (inV0.mpr ⟨c, le_nlt.mpr q⟩)))] at e2
        exact e2
    injection e1 with e1; injection e1 with a1 a2
    injection e3 with e3; injection e3 with b1 b2
    subst a1 a2 b1 b2
    exact ⟨rfl, h⟩
