theorem bnd_s5 {ρ : Type} (v : Int32) (S : SS) (g : Int32 → SS → Option ρ) : bnd (some (v, S)) g = g v S := rfl
theorem lay_i3 {a : Int32} (h : (3 : Int32) < a) : (4 : Int32) ≤ a := by
  rw [Int32.lt_iff_toInt_lt] at h
  rw [Int32.le_iff_toInt_le]
  have e3 : (3 : Int32).toInt = 3 := by decide
  have e4 : (4 : Int32).toInt = 4 := by decide
  omega
theorem lay_i9 {a : Int32} (h : (9 : Int32) < a) : (10 : Int32) ≤ a := by
  rw [Int32.lt_iff_toInt_lt] at h
  rw [Int32.le_iff_toInt_le]
  have e3 : (9 : Int32).toInt = 9 := by decide
  have e4 : (10 : Int32).toInt = 10 := by decide
  omega
theorem isN (a l m : Int32) (S : SS) : f_Yard_isNot a l m S = some (if a < l then 1 else if a ≤ m then 0 else 1, S) := by
  rw [f_Yard_isNot.eq_1]
  by_cases c : a < l
  · rw [if_pos c, if_pos c]
  · rw [if_neg c, if_neg c]
    by_cases d : a ≤ m
    · rw [if_pos d, if_pos d]
    · rw [if_neg d, if_neg d]
theorem lay_y (a1 a2 a3 : Int32) (S : SS) (h : a2 < 0 ∨ 3 < a2 ∨ a3 < 0 ∨ 9 < a3) : f_Yard_lay a1 a2 a3 S = some (-1, S) := by
  rw [f_Yard_lay.eq_1, isN]
  by_cases c1 : a2 < 0
  · rw [if_pos c1]; rfl
  · rw [if_neg c1]
    by_cases c2 : a2 ≤ 3
    · rw [if_pos c2]
      rw [bnd_s5]
      simp only [if_true]
      rw [isN]
      by_cases c3 : a3 < 0
      · rw [if_pos c3]; rfl
      · rw [if_neg c3]
        by_cases c4 : a3 ≤ 9
        · rcases h with h | h | h | h
          · exact absurd h c1
          · exact absurd c2 (Int32.not_le.mpr h)
          · exact absurd h c3
          · exact absurd c4 (Int32.not_le.mpr h)
        · rw [if_neg c4]; rfl
    · rw [if_neg c2]; rfl
theorem lay_ms (a2 a3 : Int32) (S : SS) (h : a2 < 0 ∨ 3 < a2 ∨ a3 < 0 ∨ 9 < a3) : f_M_laid_M_startMany_M_startOn a2 a3 S = some (-1, S) := by
  rw [f_M_laid_M_startMany_M_startOn.eq_1]
  by_cases c1 : a2 < 0
  · rw [if_pos c1]
  · rw [if_neg c1]
    by_cases c2 : (4 : Int32) ≤ a2
    · rw [if_pos c2]
    · rw [if_neg c2]
      by_cases c3 : a3 < 0
      · rw [if_pos c3]
      · rw [if_neg c3]
        rcases h with h | h | h | h
        · exact absurd h c1
        · exact absurd (lay_i3 h) c2
        · exact absurd h c3
        · rw [if_pos (lay_i9 h)]
theorem lay_mg (a2 a3 : Int32) (S : SS) (h : a2 < 0 ∨ 3 < a2 ∨ a3 < 0 ∨ 9 < a3) : f_M_laid_M_goalMany_M_goalOn a2 a3 S = some (-1, S) := by
  rw [f_M_laid_M_goalMany_M_goalOn.eq_1]
  by_cases c1 : a2 < 0
  · rw [if_pos c1]
  · rw [if_neg c1]
    by_cases c2 : (4 : Int32) ≤ a2
    · rw [if_pos c2]
    · rw [if_neg c2]
      by_cases c3 : a3 < 0
      · rw [if_pos c3]
      · rw [if_neg c3]
        rcases h with h | h | h | h
        · exact absurd h c1
        · exact absurd (lay_i3 h) c2
        · exact absurd h c3
        · rw [if_pos (lay_i9 h)]
theorem lay_m (a1 a2 a3 : Int32) (S : SS) (h : a2 < 0 ∨ 3 < a2 ∨ a3 < 0 ∨ 9 < a3) : f_M_lay a1 a2 a3 S = some (-1, S) := by
  rw [f_M_lay.eq_1, lay_ms _ _ _ h, lay_mg _ _ _ h]
  by_cases c : a1 = 0
  · rw [if_pos c]; rfl
  · rw [if_neg c]; rfl
set_option maxRecDepth 100000 in
theorem q_45k : ∀ b : Fin 2, ∀ i : Fin 4, ∀ j : Fin 10, okb (f_Yard_lay (nI b.1) (nI i.1) (nI j.1) (gh S0 0)) (fun S => f_M_lay (nI b.1) (nI i.1) (nI j.1) S) = true := by decide +kernel
theorem q_45 (a1 a2 a3 : Int32) (ha : a1 = 0 ∨ a1 = 1) : Ex2 (f_Yard_lay a1 a2 a3 (gh S0 0)) (fun r S => Ex2 (f_M_lay a1 a2 a3 S) (fun r' _ => r = r')) := by
  by_cases h : a2 < 0 ∨ 3 < a2 ∨ a3 < 0 ∨ 9 < a3
  · exact ⟨-1, _, lay_y a1 a2 a3 _ h, -1, _, lay_m a1 a2 a3 _ h, rfl⟩
  · have h1 : ¬ a2 < 0 := fun q => h (Or.inl q)
    have h2 : a2 ≤ 3 := Int32.not_lt.mp (fun q => h (Or.inr (Or.inl q)))
    have h3 : ¬ a3 < 0 := fun q => h (Or.inr (Or.inr (Or.inl q)))
    have h4 : a3 ≤ 9 := Int32.not_lt.mp (fun q => h (Or.inr (Or.inr (Or.inr q))))
    obtain ⟨i, hi, rfl⟩ := nI_of2 (x := a2) (M := 3) (n := 3) (by decide) h1 h2
    obtain ⟨j, hj, rfl⟩ := nI_of2 (x := a3) (M := 9) (n := 9) (by decide) h3 h4
    rcases ha with rfl | rfl
    · exact okb_ok (q_45k ⟨0, by omega⟩ ⟨i, by omega⟩ ⟨j, by omega⟩)
    · exact okb_ok (q_45k ⟨1, by omega⟩ ⟨i, by omega⟩ ⟨j, by omega⟩)
