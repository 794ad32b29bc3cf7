section
/-! ===== how much the log and the count of KICKS grow: at most by one in a call ===== -/
def Nn (a b : Nat) (S U : SS) : Prop := (U.1 0 62).toInt ≤ (S.1 0 62).toInt + a ∧ (U.1 0 47).toInt ≤ (S.1 0 47).toInt + b
theorem Nn.rf {S : SS} : Nn 0 0 S S := ⟨by omega, by omega⟩
theorem Nn.tr {a b c d : Nat} {S T U : SS} (h : Nn a b S T) (k : Nn c d T U) : Nn (a + c) (b + d) S U := ⟨by have := h.1; have := k.1; omega, by have := h.2; have := k.2; omega⟩
theorem Nn.le {a b c d : Nat} {S U : SS} (h : Nn a b S U) (h1 : a ≤ c) (h2 : b ≤ d) : Nn c d S U := ⟨by have := h.1; omega, by have := h.2; omega⟩
theorem inc_le (x : Int32) : (x + 1).toInt ≤ x.toInt + 1 := by
  rw [Int32.toInt_add, show (1 : Int32).toInt = 1 by decide, Int.bmod_def]
  have := x.toInt_lt
  have := x.le_toInt
  have e : ((2 ^ 32 : Nat) : Int) = 4294967296 := by decide
  rw [e]
  omega
theorem ite_or {ρ : Type} {P : Prop} [Decidable P] {x y : Option ρ} {r : ρ} (h : (if P then x else y) = some r) : x = some r ∨ y = some r := by
  by_cases c : P
  · rw [if_pos c] at h; exact Or.inl h
  · rw [if_neg c] at h; exact Or.inr h
theorem nm_t {α ρ : Type} {x : α} {f : α → Option ρ} {r : ρ} (h : nm x f = some r) : ∃ z, f z = some r := ⟨x, h⟩
theorem wr_t {ρ : Type} {S : SS} {k i : Nat} {v : Int32} {f : SS → Option ρ} {r : ρ} (h : wr S k i v f = some r) : ∃ T, T = st S k i v ∧ f T = some r := ⟨_, rfl, h⟩
theorem cpw_t {ρ : Type} {S : SS} {k0 k1 a d n : Nat} {f : SS → Option ρ} {r : ρ} (h : cpw S k0 k1 a d n f = some r) : ∃ T, T = cp S k0 k1 a d n ∧ f T = some r := ⟨_, rfl, h⟩
theorem some_1 {S U : SS} (h : some S = some U) : S = U := Option.some.inj h
theorem some_2 {α : Type} {r r' : α} {S U : SS} (h : some (r, S) = some (r', U)) : S = U := by
  injection h with h; injection h
theorem nn_st {S T : SS} {k i : Nat} {v : Int32} (e : T = st S k i v) (h : k ≠ 0) : Nn 0 0 S T := by
  subst e
  unfold Nn
  rw [st_at, if_neg (Ne.symm h), st_at, if_neg (Ne.symm h)]
  exact ⟨by omega, by omega⟩
theorem nn_0 {S T : SS} {k i : Nat} {v : Int32} (e : T = st S k i v) (h : i ≠ 62) (h' : i ≠ 47) : Nn 0 0 S T := by
  subst e
  unfold Nn
  rw [st_at, st_at]
  by_cases c : 0 = k
  · rw [if_pos c, if_neg (Ne.symm h), if_pos c, if_neg (Ne.symm h')]
    exact ⟨by omega, by omega⟩
  · rw [if_neg c, if_neg c]
    exact ⟨by omega, by omega⟩
theorem nn_62 {S T : SS} (e : T = st S 0 62 (S.1 0 62 + 1)) : Nn 1 0 S T := by
  subst e
  unfold Nn
  rw [st_at, if_pos rfl, if_pos rfl, st_at, if_pos rfl, if_neg (by decide)]
  have := inc_le (S.1 0 62)
  exact ⟨by omega, by omega⟩
theorem nn_47 {S T : SS} (e : T = st S 0 47 (S.1 0 47 + 1)) : Nn 0 1 S T := by
  subst e
  unfold Nn
  rw [st_at, if_pos rfl, if_neg (by decide), st_at, if_pos rfl, if_pos rfl]
  have := inc_le (S.1 0 47)
  exact ⟨by omega, by omega⟩
theorem nn_cp {S T : SS} {k0 k1 a d n : Nat} (e : T = cp S k0 k1 a d n) (h : 0 ≠ k1) : Nn 0 0 S T := by
  subst e
  unfold Nn
  rw [cp_row _ _ _ _ _ _ h]
  exact ⟨by omega, by omega⟩
theorem k_M_areTogether_j39 {a b : Nat} (ha : 0 ≤ a) (hb : 0 ≤ b) {K10 : Int32 → Int32 → Int32 → SS → Option (Int32 × SS)} (hK10 : ∀ {y0 y1 y2 : Int32} {S U : SS} {r : Int32}, K10 y0 y1 y2 S = some (r, U) → Nn a b S U) {x2 : Int32} {x4 : Int32} {y0 : Int32} {S U : SS} {r : Int32} (h : f_M_areTogether_j39 K10 x2 x4 y0 S = some (r, U)) : Nn a b S U := by
  rw [f_M_areTogether_j39.eq_1] at h
  have n0 : Nn 0 0 S S := Nn.rf
  obtain ⟨_, h⟩ := nm_t h
  exact (n0.tr (hK10 h)).le (by omega) (by omega)
theorem k_M_areTogether_j34 {a b : Nat} (ha : 0 ≤ a) (hb : 0 ≤ b) {K10 : Int32 → Int32 → Int32 → SS → Option (Int32 × SS)} (hK10 : ∀ {y0 y1 y2 : Int32} {S U : SS} {r : Int32}, K10 y0 y1 y2 S = some (r, U) → Nn a b S U) {x2 : Int32} {x4 : Int32} {S U : SS} {r : Int32} (h : f_M_areTogether_j34 K10 x2 x4 S = some (r, U)) : Nn a b S U := by
  rw [f_M_areTogether_j34.eq_1] at h
  have n0 : Nn 0 0 S S := Nn.rf
  exact (n0.tr (k_M_areTogether_j39 (a := a) (b := b) (by omega) (by omega) hK10 h)).le (by omega) (by omega)
theorem k_M_areTogether_L10 : ∀ {n : Nat} {x2 : Int32} {x3 : Int32} {x4 : Int32} {S U : SS} {r : Int32}, f_M_areTogether_L10 n x2 x3 x4 S = some (r, U) → Nn 0 0 S U := by
  intro n
  induction n with
  | zero =>
    intro x2 x3 x4 S U r h
    rw [f_M_areTogether_L10.eq_1] at h
    cases h
  | succ n ih =>
    intro x2 x3 x4 S U r h
    rw [f_M_areTogether_L10.eq_2] at h
    have n0 : Nn 0 0 S S := Nn.rf
    rcases ite_or h with h | h
    · replace h := (grd_t h).2
      have h := some_2 h
      subst h
      exact n0.le (by omega) (by omega)
    · rcases ite_or h with h | h
      · replace h := (grd_t h).2
        rcases ite_or h with h | h
        · exact (n0.tr (k_M_areTogether_j34 (a := 0) (b := 0) (by omega) (by omega) (fun h => ih h) h)).le (by omega) (by omega)
        · exact (n0.tr (k_M_areTogether_j39 (a := 0) (b := 0) (by omega) (by omega) (fun h => ih h) h)).le (by omega) (by omega)
      · exact (n0.tr (k_M_areTogether_j34 (a := 0) (b := 0) (by omega) (by omega) (fun h => ih h) h)).le (by omega) (by omega)
theorem k_M_sideTo {a1 : Int32} {a2 : Int32} {S U : SS} {r : Int32} (h : f_M_sideTo a1 a2 S = some (r, U)) : Nn 0 0 S U := by
  rw [f_M_sideTo.eq_1] at h
  have n0 : Nn 0 0 S S := Nn.rf
  replace h := (grd_t h).2
  rcases ite_or h with h | h
  · have h := some_2 h
    subst h
    exact n0.le (by omega) (by omega)
  · have h := some_2 h
    subst h
    exact n0.le (by omega) (by omega)
theorem k_M_lineUp_L81 : ∀ {n : Nat} {x2 : Int32} {x3 : Int32} {S U : SS}, f_M_lineUp_L81 n x2 x3 S = some U → Nn 0 0 S U := by
  intro n
  induction n with
  | zero =>
    intro x2 x3 S U h
    rw [f_M_lineUp_L81.eq_1] at h
    cases h
  | succ n ih =>
    intro x2 x3 S U h
    rw [f_M_lineUp_L81.eq_2] at h
    have n0 : Nn 0 0 S S := Nn.rf
    replace h := (grd_t h).2
    rcases ite_or h with h | h
    · obtain ⟨S1, e1, h⟩ := wr_t h
      have n1 := n0.tr (nn_0 e1 (by decide) (by decide))
      have h := some_1 h
      subst h
      exact n1.le (by omega) (by omega)
    · replace h := (grd_t h).2
      obtain ⟨_, h⟩ := nm_t h
      obtain ⟨_, S2, hc2, h⟩ := bnd_t h
      have n2 := n0.tr (k_M_sideTo hc2)
      obtain ⟨_, h⟩ := nm_t h
      replace h := (grd_t h).2
      obtain ⟨S3, e3, h⟩ := wr_t h
      have n3 := n2.tr (nn_st e3 (by decide))
      obtain ⟨S4, e4, h⟩ := wr_t h
      have n4 := n3.tr (nn_0 e4 (by decide) (by decide))
      exact (n4.tr (ih h)).le (by omega) (by omega)
theorem k_M_lineUp_L4 : ∀ {n : Nat} {x2 : Int32} {x3 : Int32} {S U : SS}, f_M_lineUp_L4 n x2 x3 S = some U → Nn 0 0 S U := by
  intro n
  induction n with
  | zero =>
    intro x2 x3 S U h
    rw [f_M_lineUp_L4.eq_1] at h
    cases h
  | succ n ih =>
    intro x2 x3 S U h
    rw [f_M_lineUp_L4.eq_2] at h
    have n0 : Nn 0 0 S S := Nn.rf
    replace h := (grd_t h).2
    rcases ite_or h with h | h
    · obtain ⟨S1, e1, h⟩ := wr_t h
      have n1 := n0.tr (nn_0 e1 (by decide) (by decide))
      obtain ⟨S2, e2, h⟩ := wr_t h
      have n2 := n1.tr (nn_0 e2 (by decide) (by decide))
      obtain ⟨_, h⟩ := nm_t h
      replace h := (grd_t h).2
      obtain ⟨S3, e3, h⟩ := wr_t h
      have n3 := n2.tr (nn_st e3 (by decide))
      obtain ⟨S4, e4, h⟩ := wr_t h
      have n4 := n3.tr (nn_0 e4 (by decide) (by decide))
      exact (n4.tr (k_M_lineUp_L81 h)).le (by omega) (by omega)
    · replace h := (grd_t h).2
      obtain ⟨_, h⟩ := nm_t h
      obtain ⟨_, S5, hc5, h⟩ := bnd_t h
      have n5 := n0.tr (k_M_sideTo hc5)
      obtain ⟨_, h⟩ := nm_t h
      exact (n5.tr (ih h)).le (by omega) (by omega)
theorem k_M_lineUp {a1 : Int32} {S U : SS} (h : f_M_lineUp a1 S = some U) : Nn 0 0 S U := by
  rw [f_M_lineUp.eq_1] at h
  have n0 : Nn 0 0 S S := Nn.rf
  exact (n0.tr (k_M_lineUp_L4 h)).le (by omega) (by omega)
theorem k_M_areTogether {a1 : Int32} {a2 : Int32} {S U : SS} {r : Int32} (h : f_M_areTogether a1 a2 S = some (r, U)) : Nn 0 0 S U := by
  rw [f_M_areTogether.eq_1] at h
  have n0 : Nn 0 0 S S := Nn.rf
  obtain ⟨S1, hc1, h⟩ := bndv_t h
  have n1 := n0.tr (k_M_lineUp hc1)
  exact (n1.tr (k_M_areTogether_L10 h)).le (by omega) (by omega)
theorem k_M_begin {S U : SS} (h : f_M_begin S = some U) : Nn 0 0 S U := by
  rw [f_M_begin.eq_1] at h
  have n0 : Nn 0 0 S S := Nn.rf
  obtain ⟨S1, e1, h⟩ := wr_t h
  have n1 := n0.tr (nn_0 e1 (by decide) (by decide))
  obtain ⟨S2, e2, h⟩ := wr_t h
  have n2 := n1.tr (nn_0 e2 (by decide) (by decide))
  obtain ⟨S3, e3, h⟩ := wr_t h
  have n3 := n2.tr (nn_0 e3 (by decide) (by decide))
  obtain ⟨S4, e4, h⟩ := wr_t h
  have n4 := n3.tr (nn_0 e4 (by decide) (by decide))
  obtain ⟨S5, e5, h⟩ := wr_t h
  have n5 := n4.tr (nn_0 e5 (by decide) (by decide))
  have h := some_1 h
  subst h
  exact n5.le (by omega) (by omega)
theorem k_M_note {a1 : Int32} {S U : SS} (h : f_M_note a1 S = some U) : Nn 0 0 S U := by
  rw [f_M_note.eq_1] at h
  have n0 : Nn 0 0 S S := Nn.rf
  rcases ite_or h with h | h
  · have h := some_1 h
    subst h
    exact n0.le (by omega) (by omega)
  · replace h := (grd_t h).2
    obtain ⟨S1, e1, h⟩ := wr_t h
    have n1 := n0.tr (nn_st e1 (by decide))
    obtain ⟨S2, e2, h⟩ := wr_t h
    have n2 := n1.tr (nn_0 e2 (by decide) (by decide))
    have h := some_1 h
    subst h
    exact n2.le (by omega) (by omega)
theorem k_M_brake {a1 : Int32} {S U : SS} {r : Int32} (h : f_M_brake a1 S = some (r, U)) : Nn 0 0 S U := by
  rw [f_M_brake.eq_1] at h
  have n0 : Nn 0 0 S S := Nn.rf
  replace h := (grd_t h).2
  rcases ite_or h with h | h
  · obtain ⟨S1, hc1, h⟩ := bndv_t h
    have n1 := n0.tr (k_M_note hc1)
    replace h := (grd_t h).2
    have h := some_2 h
    subst h
    exact n1.le (by omega) (by omega)
  · rcases ite_or h with h | h
    · obtain ⟨S2, hc2, h⟩ := bndv_t h
      have n2 := n0.tr (k_M_note hc2)
      replace h := (grd_t h).2
      have h := some_2 h
      subst h
      exact n2.le (by omega) (by omega)
    · rcases ite_or h with h | h
      · obtain ⟨S3, hc3, h⟩ := bndv_t h
        have n3 := n0.tr (k_M_note hc3)
        obtain ⟨S4, hc4, h⟩ := bndv_t h
        have n4 := n3.tr (k_M_note hc4)
        replace h := (grd_t h).2
        have h := some_2 h
        subst h
        exact n4.le (by omega) (by omega)
      · rcases ite_or h with h | h
        · obtain ⟨S5, hc5, h⟩ := bndv_t h
          have n5 := n0.tr (k_M_note hc5)
          replace h := (grd_t h).2
          have h := some_2 h
          subst h
          exact n5.le (by omega) (by omega)
        · rcases ite_or h with h | h
          · obtain ⟨S6, hc6, h⟩ := bndv_t h
            have n6 := n0.tr (k_M_note hc6)
            replace h := (grd_t h).2
            have h := some_2 h
            subst h
            exact n6.le (by omega) (by omega)
          · rcases ite_or h with h | h
            · obtain ⟨S7, hc7, h⟩ := bndv_t h
              have n7 := n0.tr (k_M_note hc7)
              have h := some_2 h
              subst h
              exact n7.le (by omega) (by omega)
            · obtain ⟨S8, hc8, h⟩ := bndv_t h
              have n8 := n0.tr (k_M_note hc8)
              obtain ⟨S9, hc9, h⟩ := bndv_t h
              have n9 := n8.tr (k_M_note hc9)
              have h := some_2 h
              subst h
              exact n9.le (by omega) (by omega)
theorem k_M_ends_j10 {x1 : Int32} {S U : SS} {r : Int32} (h : f_M_ends_j10 x1 S = some (r, U)) : Nn 0 0 S U := by
  rw [f_M_ends_j10.eq_1] at h
  have n0 : Nn 0 0 S S := Nn.rf
  rcases ite_or h with h | h
  · have h := some_2 h
    subst h
    exact n0.le (by omega) (by omega)
  · have h := some_2 h
    subst h
    exact n0.le (by omega) (by omega)
theorem k_M_found {a1 : Int32} {S U : SS} {r : Int32} (h : f_M_found a1 S = some (r, U)) : Nn 0 0 S U := by
  rw [f_M_found.eq_1] at h
  have n0 : Nn 0 0 S S := Nn.rf
  obtain ⟨S1, e1, h⟩ := wr_t h
  have n1 := n0.tr (nn_0 e1 (by decide) (by decide))
  replace h := (grd_t h).2
  replace h := (grd_t h).2
  obtain ⟨S2, e2, h⟩ := wr_t h
  have n2 := n1.tr (nn_st e2 (by decide))
  have h := some_2 h
  subst h
  exact n2.le (by omega) (by omega)
theorem k_M_ends {a1 : Int32} {S U : SS} {r : Int32} (h : f_M_ends a1 S = some (r, U)) : Nn 0 0 S U := by
  rw [f_M_ends.eq_1] at h
  have n0 : Nn 0 0 S S := Nn.rf
  rcases ite_or h with h | h
  · exact (n0.tr (k_M_ends_j10 h)).le (by omega) (by omega)
  · obtain ⟨_, S1, hc1, h⟩ := bnd_t h
    have n1 := n0.tr (k_M_found hc1)
    exact (n1.tr (k_M_ends_j10 h)).le (by omega) (by omega)
theorem k_M_entered {a1 : Int32} {a2 : Int32} {S U : SS} {r : Int32} (h : f_M_entered a1 a2 S = some (r, U)) : Nn 1 0 S U := by
  rw [f_M_entered.eq_1] at h
  have n0 : Nn 0 0 S S := Nn.rf
  replace h := (grd_t h).2
  obtain ⟨S1, e1, h⟩ := wr_t h
  have n1 := n0.tr (nn_st e1 (by decide))
  replace h := (grd_t h).2
  obtain ⟨S2, e2, h⟩ := wr_t h
  have n2 := n1.tr (nn_st e2 (by decide))
  obtain ⟨S3, e3, h⟩ := wr_t h
  have n3 := n2.tr (nn_62 e3)
  have h := some_2 h
  subst h
  exact n3.le (by omega) (by omega)
theorem k_M_save_L272 : ∀ {n : Nat} {x2 : Int32} {x3 : Int32} {S U : SS}, f_M_save_L272 n x2 x3 S = some U → Nn 0 0 S U := by
  intro n
  induction n with
  | zero =>
    intro x2 x3 S U h
    rw [f_M_save_L272.eq_1] at h
    cases h
  | succ n ih =>
    intro x2 x3 S U h
    rw [f_M_save_L272.eq_2] at h
    have n0 : Nn 0 0 S S := Nn.rf
    rcases ite_or h with h | h
    · replace h := (grd_t h).2
      obtain ⟨S1, e1, h⟩ := wr_t h
      have n1 := n0.tr (nn_st e1 (by decide))
      have h := some_1 h
      subst h
      exact n1.le (by omega) (by omega)
    · replace h := (grd_t h).2
      replace h := (grd_t h).2
      obtain ⟨S2, e2, h⟩ := wr_t h
      have n2 := n0.tr (nn_st e2 (by decide))
      replace h := (grd_t h).2
      replace h := (grd_t h).2
      obtain ⟨S3, e3, h⟩ := wr_t h
      have n3 := n2.tr (nn_st e3 (by decide))
      obtain ⟨_, h⟩ := nm_t h
      obtain ⟨_, h⟩ := nm_t h
      exact (n3.tr (ih h)).le (by omega) (by omega)
theorem k_M_save_j260 {a b : Nat} (ha : 0 ≤ a) (hb : 0 ≤ b) {K8 : Int32 → Int32 → SS → Option (SS)} (hK8 : ∀ {y0 y1 : Int32} {S U : SS}, K8 y0 y1 S = some U → Nn a b S U) {x2 : Int32} {x3 : Int32} {y0 : Int32} {y1 : Int32} {S U : SS} (h : f_M_save_j260 K8 x2 x3 y0 y1 S = some U) : Nn a b S U := by
  rw [f_M_save_j260.eq_1] at h
  have n0 : Nn 0 0 S S := Nn.rf
  replace h := (grd_t h).2
  obtain ⟨S1, e1, h⟩ := wr_t h
  have n1 := n0.tr (nn_st e1 (by decide))
  obtain ⟨_, h⟩ := nm_t h
  obtain ⟨_, h⟩ := nm_t h
  exact (n1.tr (hK8 h)).le (by omega) (by omega)
theorem k_M_save_j207 {a b : Nat} (ha : 0 ≤ a) (hb : 0 ≤ b) {K8 : Int32 → Int32 → SS → Option (SS)} (hK8 : ∀ {y0 y1 : Int32} {S U : SS}, K8 y0 y1 S = some U → Nn a b S U) {x2 : Int32} {x3 : Int32} {y0 : Int32} {y1 : Int32} {S U : SS} (h : f_M_save_j207 K8 x2 x3 y0 y1 S = some U) : Nn a b S U := by
  rw [f_M_save_j207.eq_1] at h
  have n0 : Nn 0 0 S S := Nn.rf
  replace h := (grd_t h).2
  obtain ⟨S1, e1, h⟩ := wr_t h
  have n1 := n0.tr (nn_st e1 (by decide))
  replace h := (grd_t h).2
  replace h := (grd_t h).2
  obtain ⟨S2, e2, h⟩ := wr_t h
  have n2 := n1.tr (nn_st e2 (by decide))
  replace h := (grd_t h).2
  replace h := (grd_t h).2
  obtain ⟨S3, e3, h⟩ := wr_t h
  have n3 := n2.tr (nn_st e3 (by decide))
  replace h := (grd_t h).2
  rcases ite_or h with h | h
  · exact (n3.tr (k_M_save_j260 (a := a) (b := b) (by omega) (by omega) hK8 h)).le (by omega) (by omega)
  · exact (n3.tr (k_M_save_j260 (a := a) (b := b) (by omega) (by omega) hK8 h)).le (by omega) (by omega)
theorem k_M_save_j33 {a b : Nat} (ha : 0 ≤ a) (hb : 0 ≤ b) {K8 : Int32 → Int32 → SS → Option (SS)} (hK8 : ∀ {y0 y1 : Int32} {S U : SS}, K8 y0 y1 S = some U → Nn a b S U) {x2 : Int32} {x3 : Int32} {y0 : Int32} {y1 : Int32} {S U : SS} (h : f_M_save_j33 K8 x2 x3 y0 y1 S = some U) : Nn a b S U := by
  rw [f_M_save_j33.eq_1] at h
  have n0 : Nn 0 0 S S := Nn.rf
  replace h := (grd_t h).2
  obtain ⟨S1, e1, h⟩ := wr_t h
  have n1 := n0.tr (nn_st e1 (by decide))
  replace h := (grd_t h).2
  replace h := (grd_t h).2
  obtain ⟨S2, e2, h⟩ := wr_t h
  have n2 := n1.tr (nn_st e2 (by decide))
  replace h := (grd_t h).2
  replace h := (grd_t h).2
  obtain ⟨S3, e3, h⟩ := wr_t h
  have n3 := n2.tr (nn_st e3 (by decide))
  replace h := (grd_t h).2
  replace h := (grd_t h).2
  obtain ⟨S4, e4, h⟩ := wr_t h
  have n4 := n3.tr (nn_st e4 (by decide))
  replace h := (grd_t h).2
  replace h := (grd_t h).2
  obtain ⟨S5, e5, h⟩ := wr_t h
  have n5 := n4.tr (nn_st e5 (by decide))
  replace h := (grd_t h).2
  replace h := (grd_t h).2
  obtain ⟨S6, e6, h⟩ := wr_t h
  have n6 := n5.tr (nn_st e6 (by decide))
  replace h := (grd_t h).2
  replace h := (grd_t h).2
  obtain ⟨S7, e7, h⟩ := wr_t h
  have n7 := n6.tr (nn_st e7 (by decide))
  replace h := (grd_t h).2
  replace h := (grd_t h).2
  obtain ⟨S8, e8, h⟩ := wr_t h
  have n8 := n7.tr (nn_st e8 (by decide))
  replace h := (grd_t h).2
  replace h := (grd_t h).2
  obtain ⟨S9, e9, h⟩ := wr_t h
  have n9 := n8.tr (nn_st e9 (by decide))
  replace h := (grd_t h).2
  replace h := (grd_t h).2
  obtain ⟨S10, e10, h⟩ := wr_t h
  have n10 := n9.tr (nn_st e10 (by decide))
  replace h := (grd_t h).2
  replace h := (grd_t h).2
  obtain ⟨S11, e11, h⟩ := wr_t h
  have n11 := n10.tr (nn_st e11 (by decide))
  replace h := (grd_t h).2
  rcases ite_or h with h | h
  · exact (n11.tr (k_M_save_j207 (a := a) (b := b) (by omega) (by omega) hK8 h)).le (by omega) (by omega)
  · exact (n11.tr (k_M_save_j207 (a := a) (b := b) (by omega) (by omega) hK8 h)).le (by omega) (by omega)
theorem k_M_save_L8 : ∀ {n : Nat} {x2 : Int32} {x3 : Int32} {S U : SS}, f_M_save_L8 n x2 x3 S = some U → Nn 0 0 S U := by
  intro n
  induction n with
  | zero =>
    intro x2 x3 S U h
    rw [f_M_save_L8.eq_1] at h
    cases h
  | succ n ih =>
    intro x2 x3 S U h
    rw [f_M_save_L8.eq_2] at h
    have n0 : Nn 0 0 S S := Nn.rf
    rcases ite_or h with h | h
    · exact (n0.tr (k_M_save_L272 h)).le (by omega) (by omega)
    · replace h := (grd_t h).2
      rcases ite_or h with h | h
      · exact (n0.tr (k_M_save_j33 (a := 0) (b := 0) (by omega) (by omega) (fun h => ih h) h)).le (by omega) (by omega)
      · exact (n0.tr (k_M_save_j33 (a := 0) (b := 0) (by omega) (by omega) (fun h => ih h) h)).le (by omega) (by omega)
theorem k_M_save {a1 : Int32} {S U : SS} (h : f_M_save a1 S = some U) : Nn 0 0 S U := by
  rw [f_M_save.eq_1] at h
  have n0 : Nn 0 0 S S := Nn.rf
  obtain ⟨_, h⟩ := nm_t h
  exact (n0.tr (k_M_save_L8 h)).le (by omega) (by omega)
theorem k_M_keep_j50 {S U : SS} (h : f_M_keep_j50 S = some U) : Nn 0 0 S U := by
  rw [f_M_keep_j50.eq_1] at h
  have n0 : Nn 0 0 S S := Nn.rf
  obtain ⟨S1, hc1, h⟩ := bndv_t h
  have n1 := n0.tr (k_M_save hc1)
  obtain ⟨S2, e2, h⟩ := wr_t h
  have n2 := n1.tr (nn_0 e2 (by decide) (by decide))
  obtain ⟨S3, e3, h⟩ := wr_t h
  have n3 := n2.tr (nn_0 e3 (by decide) (by decide))
  have h := some_1 h
  subst h
  exact n3.le (by omega) (by omega)
theorem k_M_keep_L11 : ∀ {n : Nat} {x1 : Int32} {S U : SS}, f_M_keep_L11 n x1 S = some U → Nn 0 0 S U := by
  intro n
  induction n with
  | zero =>
    intro x1 S U h
    rw [f_M_keep_L11.eq_1] at h
    cases h
  | succ n ih =>
    intro x1 S U h
    rw [f_M_keep_L11.eq_2] at h
    have n0 : Nn 0 0 S S := Nn.rf
    rcases ite_or h with h | h
    · obtain ⟨S1, e1, h⟩ := wr_t h
      have n1 := n0.tr (nn_0 e1 (by decide) (by decide))
      exact (n1.tr (k_M_keep_j50 h)).le (by omega) (by omega)
    · replace h := (grd_t h).2
      replace h := (grd_t h).2
      obtain ⟨S2, e2, h⟩ := wr_t h
      have n2 := n0.tr (nn_st e2 (by decide))
      obtain ⟨_, h⟩ := nm_t h
      exact (n2.tr (ih h)).le (by omega) (by omega)
theorem k_M_keep {S U : SS} (h : f_M_keep S = some U) : Nn 0 0 S U := by
  rw [f_M_keep.eq_1] at h
  have n0 : Nn 0 0 S S := Nn.rf
  rcases ite_or h with h | h
  · exact (n0.tr (k_M_keep_L11 h)).le (by omega) (by omega)
  · exact (n0.tr (k_M_keep_j50 h)).le (by omega) (by omega)
theorem k_M_isOpen_j163 {x1 : Int32} {x2 : Int32} {y0 : Int32} {S U : SS} {r : Int32} (h : f_M_isOpen_j163 x1 x2 y0 S = some (r, U)) : Nn 0 0 S U := by
  rw [f_M_isOpen_j163.eq_1] at h
  have n0 : Nn 0 0 S S := Nn.rf
  obtain ⟨S1, e1, h⟩ := wr_t h
  have n1 := n0.tr (nn_0 e1 (by decide) (by decide))
  rcases ite_or h with h | h
  · rcases ite_or h with h | h
    · have h := some_2 h
      subst h
      exact n1.le (by omega) (by omega)
    · have h := some_2 h
      subst h
      exact n1.le (by omega) (by omega)
  · have h := some_2 h
    subst h
    exact n1.le (by omega) (by omega)
theorem k_M_openLink_j26 {x1 : Int32} {y0 : Int32} {S U : SS} {r : Int32} (h : f_M_openLink_j26 x1 y0 S = some (r, U)) : Nn 0 0 S U := by
  rw [f_M_openLink_j26.eq_1] at h
  have n0 : Nn 0 0 S S := Nn.rf
  replace h := (grd_t h).2
  rcases ite_or h with h | h
  · have h := some_2 h
    subst h
    exact n0.le (by omega) (by omega)
  · have h := some_2 h
    subst h
    exact n0.le (by omega) (by omega)
theorem k_M_openLink {a1 : Int32} {S U : SS} {r : Int32} (h : f_M_openLink a1 S = some (r, U)) : Nn 0 0 S U := by
  rw [f_M_openLink.eq_1] at h
  have n0 : Nn 0 0 S S := Nn.rf
  replace h := (grd_t h).2
  rcases ite_or h with h | h
  · exact (n0.tr (k_M_openLink_j26 h)).le (by omega) (by omega)
  · replace h := (grd_t h).2
    replace h := (grd_t h).2
    exact (n0.tr (k_M_openLink_j26 h)).le (by omega) (by omega)
theorem k_M_placeAtEnd {a1 : Int32} {S U : SS} {r : Int32} (h : f_M_placeAtEnd a1 S = some (r, U)) : Nn 0 0 S U := by
  rw [f_M_placeAtEnd.eq_1] at h
  have n0 : Nn 0 0 S S := Nn.rf
  rcases ite_or h with h | h
  · have h := some_2 h
    subst h
    exact n0.le (by omega) (by omega)
  · replace h := (grd_t h).2
    have h := some_2 h
    subst h
    exact n0.le (by omega) (by omega)
theorem k_M_isOpen_j50 {x1 : Int32} {x2 : Int32} {x3 : Int32} {S U : SS} {r : Int32} (h : f_M_isOpen_j50 x1 x2 x3 S = some (r, U)) : Nn 0 0 S U := by
  rw [f_M_isOpen_j50.eq_1] at h
  have n0 : Nn 0 0 S S := Nn.rf
  obtain ⟨_, h⟩ := nm_t h
  obtain ⟨_, S1, hc1, h⟩ := bnd_t h
  have n1 := n0.tr (k_M_openLink hc1)
  rcases ite_or h with h | h
  · have h := some_2 h
    subst h
    exact n1.le (by omega) (by omega)
  · replace h := (grd_t h).2
    obtain ⟨_, h⟩ := nm_t h
    obtain ⟨_, S2, hc2, h⟩ := bnd_t h
    have n2 := n1.tr (k_M_openLink hc2)
    rcases ite_or h with h | h
    · have h := some_2 h
      subst h
      exact n2.le (by omega) (by omega)
    · replace h := (grd_t h).2
      replace h := (grd_t h).2
      rcases ite_or h with h | h
      · obtain ⟨S3, e3, h⟩ := wr_t h
        have n3 := n2.tr (nn_0 e3 (by decide) (by decide))
        obtain ⟨_, S4, hc4, h⟩ := bnd_t h
        have n4 := n3.tr (k_M_placeAtEnd hc4)
        obtain ⟨S5, e5, h⟩ := wr_t h
        have n5 := n4.tr (nn_0 e5 (by decide) (by decide))
        rcases ite_or h with h | h
        · exact (n5.tr (k_M_isOpen_j163 h)).le (by omega) (by omega)
        · exact (n5.tr (k_M_isOpen_j163 h)).le (by omega) (by omega)
      · have h := some_2 h
        subst h
        exact n2.le (by omega) (by omega)
theorem k_M_isOpen_j14 {x1 : Int32} {x2 : Int32} {x3 : Int32} {y0 : Int32} {S U : SS} {r : Int32} (h : f_M_isOpen_j14 x1 x2 x3 y0 S = some (r, U)) : Nn 0 0 S U := by
  rw [f_M_isOpen_j14.eq_1] at h
  have n0 : Nn 0 0 S S := Nn.rf
  rcases ite_or h with h | h
  · exact (n0.tr (k_M_isOpen_j50 h)).le (by omega) (by omega)
  · replace h := (grd_t h).2
    rcases ite_or h with h | h
    · exact (n0.tr (k_M_isOpen_j50 h)).le (by omega) (by omega)
    · obtain ⟨S1, e1, h⟩ := wr_t h
      have n1 := n0.tr (nn_0 e1 (by decide) (by decide))
      obtain ⟨S2, e2, h⟩ := wr_t h
      have n2 := n1.tr (nn_0 e2 (by decide) (by decide))
      obtain ⟨S3, e3, h⟩ := wr_t h
      have n3 := n2.tr (nn_0 e3 (by decide) (by decide))
      have h := some_2 h
      subst h
      exact n3.le (by omega) (by omega)
theorem k_M_isOpen {a1 : Int32} {a2 : Int32} {a3 : Int32} {S U : SS} {r : Int32} (h : f_M_isOpen a1 a2 a3 S = some (r, U)) : Nn 0 0 S U := by
  rw [f_M_isOpen.eq_1] at h
  have n0 : Nn 0 0 S S := Nn.rf
  rcases ite_or h with h | h
  · exact (n0.tr (k_M_isOpen_j14 h)).le (by omega) (by omega)
  · exact (n0.tr (k_M_isOpen_j14 h)).le (by omega) (by omega)
theorem k_M_suits_j56 {x1 : Int32} {x2 : Int32} {S U : SS} {r : Int32} (h : f_M_suits_j56 x1 x2 S = some (r, U)) : Nn 0 0 S U := by
  rw [f_M_suits_j56.eq_1] at h
  have n0 : Nn 0 0 S S := Nn.rf
  obtain ⟨S1, hc1, h⟩ := bndv_t h
  have n1 := n0.tr (k_M_note hc1)
  replace h := (grd_t h).2
  rcases ite_or h with h | h
  · have h := some_2 h
    subst h
    exact n1.le (by omega) (by omega)
  · replace h := (grd_t h).2
    replace h := (grd_t h).2
    replace h := (grd_t h).2
    rcases ite_or h with h | h
    · have h := some_2 h
      subst h
      exact n1.le (by omega) (by omega)
    · have h := some_2 h
      subst h
      exact n1.le (by omega) (by omega)
theorem k_M_suits {a1 : Int32} {a2 : Int32} {S U : SS} {r : Int32} (h : f_M_suits a1 a2 S = some (r, U)) : Nn 0 0 S U := by
  rw [f_M_suits.eq_1] at h
  have n0 : Nn 0 0 S S := Nn.rf
  replace h := (grd_t h).2
  rcases ite_or h with h | h
  · replace h := (grd_t h).2
    rcases ite_or h with h | h
    · obtain ⟨S1, hc1, h⟩ := bndv_t h
      have n1 := n0.tr (k_M_note hc1)
      replace h := (grd_t h).2
      rcases ite_or h with h | h
      · have h := some_2 h
        subst h
        exact n1.le (by omega) (by omega)
      · replace h := (grd_t h).2
        rcases ite_or h with h | h
        · have h := some_2 h
          subst h
          exact n1.le (by omega) (by omega)
        · exact (n1.tr (k_M_suits_j56 h)).le (by omega) (by omega)
    · exact (n0.tr (k_M_suits_j56 h)).le (by omega) (by omega)
  · obtain ⟨S2, hc2, h⟩ := bndv_t h
    have n2 := n0.tr (k_M_note hc2)
    have h := some_2 h
    subst h
    exact n2.le (by omega) (by omega)
theorem k_M_missCouple_j136 {x1 : Int32} {x4 : Int32} {y0 : Int32} {S U : SS} {r : Int32} (h : f_M_missCouple_j136 x1 x4 y0 S = some (r, U)) : Nn 0 0 S U := by
  rw [f_M_missCouple_j136.eq_1] at h
  have n0 : Nn 0 0 S S := Nn.rf
  obtain ⟨S1, e1, h⟩ := wr_t h
  have n1 := n0.tr (nn_0 e1 (by decide) (by decide))
  replace h := (grd_t h).2
  rcases ite_or h with h | h
  · obtain ⟨_, S2, hc2, h⟩ := bnd_t h
    have n2 := n1.tr (k_M_areTogether hc2)
    rcases ite_or h with h | h
    · obtain ⟨_, S3, hc3, h⟩ := bnd_t h
      have n3 := n2.tr (k_M_suits hc3)
      rcases ite_or h with h | h
      · have h := some_2 h
        subst h
        exact n3.le (by omega) (by omega)
      · obtain ⟨_, S4, hc4, h⟩ := bnd_t h
        have n4 := n3.tr (k_M_suits hc4)
        rcases ite_or h with h | h
        · have h := some_2 h
          subst h
          exact n4.le (by omega) (by omega)
        · have h := some_2 h
          subst h
          exact n4.le (by omega) (by omega)
    · have h := some_2 h
      subst h
      exact n2.le (by omega) (by omega)
  · have h := some_2 h
    subst h
    exact n1.le (by omega) (by omega)
theorem k_M_isSide {a0 : Int32} {S U : SS} {r : Int32} (h : f_M_isSide a0 S = some (r, U)) : Nn 0 0 S U := by
  rw [f_M_isSide.eq_1] at h
  have n0 : Nn 0 0 S S := Nn.rf
  rcases ite_or h with h | h
  · have h := some_2 h
    subst h
    exact n0.le (by omega) (by omega)
  · rcases ite_or h with h | h
    · have h := some_2 h
      subst h
      exact n0.le (by omega) (by omega)
    · have h := some_2 h
      subst h
      exact n0.le (by omega) (by omega)
theorem k_M_isSuch {a1 : Int32} {a2 : Int32} {S U : SS} {r : Int32} (h : f_M_isSuch a1 a2 S = some (r, U)) : Nn 0 0 S U := by
  rw [f_M_isSuch.eq_1] at h
  have n0 : Nn 0 0 S S := Nn.rf
  replace h := (grd_t h).2
  obtain ⟨_, h⟩ := nm_t h
  rcases ite_or h with h | h
  · rcases ite_or h with h | h
    · have h := some_2 h
      subst h
      exact n0.le (by omega) (by omega)
    · have h := some_2 h
      subst h
      exact n0.le (by omega) (by omega)
  · rcases ite_or h with h | h
    · rcases ite_or h with h | h
      · have h := some_2 h
        subst h
        exact n0.le (by omega) (by omega)
      · have h := some_2 h
        subst h
        exact n0.le (by omega) (by omega)
    · rcases ite_or h with h | h
      · rcases ite_or h with h | h
        · have h := some_2 h
          subst h
          exact n0.le (by omega) (by omega)
        · have h := some_2 h
          subst h
          exact n0.le (by omega) (by omega)
      · rcases ite_or h with h | h
        · rcases ite_or h with h | h
          · have h := some_2 h
            subst h
            exact n0.le (by omega) (by omega)
          · have h := some_2 h
            subst h
            exact n0.le (by omega) (by omega)
        · have h := some_2 h
          subst h
          exact n0.le (by omega) (by omega)
theorem k_M_missThing {a1 : Int32} {a2 : Int32} {S U : SS} {r : Int32} (h : f_M_missThing a1 a2 S = some (r, U)) : Nn 0 0 S U := by
  rw [f_M_missThing.eq_1] at h
  have n0 : Nn 0 0 S S := Nn.rf
  rcases ite_or h with h | h
  · have h := some_2 h
    subst h
    exact n0.le (by omega) (by omega)
  · rcases ite_or h with h | h
    · rcases ite_or h with h | h
      · have h := some_2 h
        subst h
        exact n0.le (by omega) (by omega)
      · replace h := (grd_t h).2
        rcases ite_or h with h | h
        · have h := some_2 h
          subst h
          exact n0.le (by omega) (by omega)
        · obtain ⟨_, S1, hc1, h⟩ := bnd_t h
          have n1 := n0.tr (k_M_isSuch hc1)
          rcases ite_or h with h | h
          · have h := some_2 h
            subst h
            exact n1.le (by omega) (by omega)
          · have h := some_2 h
            subst h
            exact n1.le (by omega) (by omega)
    · have h := some_2 h
      subst h
      exact n0.le (by omega) (by omega)
theorem k_M_missSide {a1 : Int32} {a2 : Int32} {a3 : Int32} {S U : SS} {r : Int32} (h : f_M_missSide a1 a2 a3 S = some (r, U)) : Nn 0 0 S U := by
  rw [f_M_missSide.eq_1] at h
  have n0 : Nn 0 0 S S := Nn.rf
  obtain ⟨_, S1, hc1, h⟩ := bnd_t h
  have n1 := n0.tr (k_M_missThing hc1)
  rcases ite_or h with h | h
  · obtain ⟨_, S2, hc2, h⟩ := bnd_t h
    have n2 := n1.tr (k_M_isSide hc2)
    rcases ite_or h with h | h
    · have h := some_2 h
      subst h
      exact n2.le (by omega) (by omega)
    · have h := some_2 h
      subst h
      exact n2.le (by omega) (by omega)
  · have h := some_2 h
    subst h
    exact n1.le (by omega) (by omega)
theorem k_M_standing_j41 {a b : Nat} (ha : 0 ≤ a) (hb : 0 ≤ b) {K2 : Int32 → Int32 → Int32 → SS → Option (Int32 × SS)} (hK2 : ∀ {y0 y1 y2 : Int32} {S U : SS} {r : Int32}, K2 y0 y1 y2 S = some (r, U) → Nn a b S U) {x1 : Int32} {x2 : Int32} {x3 : Int32} {S U : SS} {r : Int32} (h : f_M_standing_j41 K2 x1 x2 x3 S = some (r, U)) : Nn a b S U := by
  rw [f_M_standing_j41.eq_1] at h
  have n0 : Nn 0 0 S S := Nn.rf
  obtain ⟨_, h⟩ := nm_t h
  exact (n0.tr (hK2 h)).le (by omega) (by omega)
theorem k_M_standing_L2 : ∀ {n : Nat} {x1 : Int32} {x2 : Int32} {x3 : Int32} {S U : SS} {r : Int32}, f_M_standing_L2 n x1 x2 x3 S = some (r, U) → Nn 0 0 S U := by
  intro n
  induction n with
  | zero =>
    intro x1 x2 x3 S U r h
    rw [f_M_standing_L2.eq_1] at h
    cases h
  | succ n ih =>
    intro x1 x2 x3 S U r h
    rw [f_M_standing_L2.eq_2] at h
    have n0 : Nn 0 0 S S := Nn.rf
    rcases ite_or h with h | h
    · have h := some_2 h
      subst h
      exact n0.le (by omega) (by omega)
    · replace h := (grd_t h).2
      rcases ite_or h with h | h
      · exact (n0.tr (k_M_standing_j41 (a := 0) (b := 0) (by omega) (by omega) (fun h => ih h) h)).le (by omega) (by omega)
      · replace h := (grd_t h).2
        rcases ite_or h with h | h
        · replace h := (grd_t h).2
          rcases ite_or h with h | h
          · have h := some_2 h
            subst h
            exact n0.le (by omega) (by omega)
          · exact (n0.tr (k_M_standing_j41 (a := 0) (b := 0) (by omega) (by omega) (fun h => ih h) h)).le (by omega) (by omega)
        · exact (n0.tr (k_M_standing_j41 (a := 0) (b := 0) (by omega) (by omega) (fun h => ih h) h)).le (by omega) (by omega)
theorem k_M_standing {a1 : Int32} {a2 : Int32} {S U : SS} {r : Int32} (h : f_M_standing a1 a2 S = some (r, U)) : Nn 0 0 S U := by
  rw [f_M_standing.eq_1] at h
  have n0 : Nn 0 0 S S := Nn.rf
  exact (n0.tr (k_M_standing_L2 h)).le (by omega) (by omega)
theorem k_M_wayOf {a1 : Int32} {a2 : Int32} {S U : SS} {r : Int32} (h : f_M_wayOf a1 a2 S = some (r, U)) : Nn 0 0 S U := by
  rw [f_M_wayOf.eq_1] at h
  have n0 : Nn 0 0 S S := Nn.rf
  rcases ite_or h with h | h
  · replace h := (grd_t h).2
    have h := some_2 h
    subst h
    exact n0.le (by omega) (by omega)
  · replace h := (grd_t h).2
    have h := some_2 h
    subst h
    exact n0.le (by omega) (by omega)
theorem k_M_missCouple {a1 : Int32} {a2 : Int32} {S U : SS} {r : Int32} (h : f_M_missCouple a1 a2 S = some (r, U)) : Nn 0 0 S U := by
  rw [f_M_missCouple.eq_1] at h
  have n0 : Nn 0 0 S S := Nn.rf
  obtain ⟨_, S1, hc1, h⟩ := bnd_t h
  have n1 := n0.tr (k_M_missSide hc1)
  rcases ite_or h with h | h
  · replace h := (grd_t h).2
    rcases ite_or h with h | h
    · replace h := (grd_t h).2
      rcases ite_or h with h | h
      · replace h := (grd_t h).2
        replace h := (grd_t h).2
        obtain ⟨_, S2, hc2, h⟩ := bnd_t h
        have n2 := n1.tr (k_M_wayOf hc2)
        obtain ⟨_, S3, hc3, h⟩ := bnd_t h
        have n3 := n2.tr (k_M_isOpen hc3)
        rcases ite_or h with h | h
        · have h := some_2 h
          subst h
          exact n3.le (by omega) (by omega)
        · obtain ⟨_, S4, hc4, h⟩ := bnd_t h
          have n4 := n3.tr (k_M_standing hc4)
          rcases ite_or h with h | h
          · have h := some_2 h
            subst h
            exact n4.le (by omega) (by omega)
          · replace h := (grd_t h).2
            rcases ite_or h with h | h
            · obtain ⟨S5, e5, h⟩ := wr_t h
              have n5 := n4.tr (nn_0 e5 (by decide) (by decide))
              replace h := (grd_t h).2
              rcases ite_or h with h | h
              · exact (n5.tr (k_M_missCouple_j136 h)).le (by omega) (by omega)
              · exact (n5.tr (k_M_missCouple_j136 h)).le (by omega) (by omega)
            · have h := some_2 h
              subst h
              exact n4.le (by omega) (by omega)
      · have h := some_2 h
        subst h
        exact n1.le (by omega) (by omega)
    · have h := some_2 h
      subst h
      exact n1.le (by omega) (by omega)
  · have h := some_2 h
    subst h
    exact n1.le (by omega) (by omega)
theorem k_M_renumber_L17 : ∀ {n : Nat} {x2 : Int32} {S U : SS}, f_M_renumber_L17 n x2 S = some U → Nn 0 0 S U := by
  intro n
  induction n with
  | zero =>
    intro x2 S U h
    rw [f_M_renumber_L17.eq_1] at h
    cases h
  | succ n ih =>
    intro x2 S U h
    rw [f_M_renumber_L17.eq_2] at h
    have n0 : Nn 0 0 S S := Nn.rf
    rcases ite_or h with h | h
    · have h := some_1 h
      subst h
      exact n0.le (by omega) (by omega)
    · replace h := (grd_t h).2
      replace h := (grd_t h).2
      obtain ⟨S1, e1, h⟩ := wr_t h
      have n1 := n0.tr (nn_st e1 (by decide))
      replace h := (grd_t h).2
      replace h := (grd_t h).2
      obtain ⟨S2, e2, h⟩ := wr_t h
      have n2 := n1.tr (nn_st e2 (by decide))
      obtain ⟨_, h⟩ := nm_t h
      exact (n2.tr (ih h)).le (by omega) (by omega)
theorem k_M_renumber {a1 : Int32} {S U : SS} (h : f_M_renumber a1 S = some U) : Nn 0 0 S U := by
  rw [f_M_renumber.eq_1] at h
  have n0 : Nn 0 0 S S := Nn.rf
  obtain ⟨S1, e1, h⟩ := wr_t h
  have n1 := n0.tr (nn_0 e1 (by decide) (by decide))
  obtain ⟨S2, hc2, h⟩ := bndv_t h
  have n2 := n1.tr (k_M_lineUp hc2)
  exact (n2.tr (k_M_renumber_L17 h)).le (by omega) (by omega)
theorem k_M_couple {a1 : Int32} {a2 : Int32} {S U : SS} {r : Int32} (h : f_M_couple a1 a2 S = some (r, U)) : Nn 1 0 S U := by
  rw [f_M_couple.eq_1] at h
  have n0 : Nn 0 0 S S := Nn.rf
  obtain ⟨S1, hc1, h⟩ := bndv_t h
  have n1 := n0.tr (k_M_begin hc1)
  obtain ⟨S2, hc2, h⟩ := bndv_t h
  have n2 := n1.tr (k_M_keep hc2)
  obtain ⟨_, S3, hc3, h⟩ := bnd_t h
  have n3 := n2.tr (k_M_missCouple hc3)
  obtain ⟨_, S4, hc4, h⟩ := bnd_t h
  have n4 := n3.tr (k_M_ends hc4)
  rcases ite_or h with h | h
  · replace h := (grd_t h).2
    obtain ⟨S5, e5, h⟩ := wr_t h
    have n5 := n4.tr (nn_st e5 (by decide))
    replace h := (grd_t h).2
    obtain ⟨S6, e6, h⟩ := wr_t h
    have n6 := n5.tr (nn_st e6 (by decide))
    obtain ⟨S7, hc7, h⟩ := bndv_t h
    have n7 := n6.tr (k_M_renumber hc7)
    obtain ⟨_, S8, hc8, h⟩ := bnd_t h
    have n8 := n7.tr (k_M_entered hc8)
    have h := some_2 h
    subst h
    exact n8.le (by omega) (by omega)
  · obtain ⟨_, S9, hc9, h⟩ := bnd_t h
    have n9 := n4.tr (k_M_entered hc9)
    have h := some_2 h
    subst h
    exact n9.le (by omega) (by omega)
theorem k_M_danger {a1 : Int32} {a2 : Int32} {S U : SS} {r : Int32} (h : f_M_danger a1 a2 S = some (r, U)) : Nn 1 0 S U := by
  rw [f_M_danger.eq_1] at h
  have n0 : Nn 0 0 S S := Nn.rf
  rcases ite_or h with h | h
  · have h := some_2 h
    subst h
    exact n0.le (by omega) (by omega)
  · rcases ite_or h with h | h
    · obtain ⟨S1, hc1, h⟩ := bndv_t h
      have n1 := n0.tr (k_M_begin hc1)
      obtain ⟨S2, hc2, h⟩ := bndv_t h
      have n2 := n1.tr (k_M_keep hc2)
      obtain ⟨_, S3, hc3, h⟩ := bnd_t h
      have n3 := n2.tr (k_M_missThing hc3)
      obtain ⟨_, S4, hc4, h⟩ := bnd_t h
      have n4 := n3.tr (k_M_ends hc4)
      rcases ite_or h with h | h
      · replace h := (grd_t h).2
        obtain ⟨_, h⟩ := nm_t h
        replace h := (grd_t h).2
        obtain ⟨S5, e5, h⟩ := wr_t h
        have n5 := n4.tr (nn_st e5 (by decide))
        obtain ⟨_, S6, hc6, h⟩ := bnd_t h
        have n6 := n5.tr (k_M_entered hc6)
        have h := some_2 h
        subst h
        exact n6.le (by omega) (by omega)
      · obtain ⟨_, S7, hc7, h⟩ := bnd_t h
        have n7 := n4.tr (k_M_entered hc7)
        have h := some_2 h
        subst h
        exact n7.le (by omega) (by omega)
    · have h := some_2 h
      subst h
      exact n0.le (by omega) (by omega)
theorem k_M_follow_L71 : ∀ {n : Nat} {x3 : Int32} {x4 : Int32} {S U : SS}, f_M_follow_L71 n x3 x4 S = some U → Nn 0 0 S U := by
  intro n
  induction n with
  | zero =>
    intro x3 x4 S U h
    rw [f_M_follow_L71.eq_1] at h
    cases h
  | succ n ih =>
    intro x3 x4 S U h
    rw [f_M_follow_L71.eq_2] at h
    have n0 : Nn 0 0 S S := Nn.rf
    replace h := (grd_t h).2
    rcases ite_or h with h | h
    · have h := some_1 h
      subst h
      exact n0.le (by omega) (by omega)
    · replace h := (grd_t h).2
      obtain ⟨_, h⟩ := nm_t h
      obtain ⟨_, S1, hc1, h⟩ := bnd_t h
      have n1 := n0.tr (k_M_sideTo hc1)
      replace h := (grd_t h).2
      obtain ⟨S2, e2, h⟩ := wr_t h
      have n2 := n1.tr (nn_st e2 (by decide))
      replace h := (grd_t h).2
      obtain ⟨S3, e3, h⟩ := wr_t h
      have n3 := n2.tr (nn_st e3 (by decide))
      obtain ⟨S4, e4, h⟩ := wr_t h
      have n4 := n3.tr (nn_0 e4 (by decide) (by decide))
      exact (n4.tr (ih h)).le (by omega) (by omega)
theorem k_M_follow_L5 : ∀ {n : Nat} {x3 : Int32} {x4 : Int32} {S U : SS}, f_M_follow_L5 n x3 x4 S = some U → Nn 0 0 S U := by
  intro n
  induction n with
  | zero =>
    intro x3 x4 S U h
    rw [f_M_follow_L5.eq_1] at h
    cases h
  | succ n ih =>
    intro x3 x4 S U h
    rw [f_M_follow_L5.eq_2] at h
    have n0 : Nn 0 0 S S := Nn.rf
    replace h := (grd_t h).2
    rcases ite_or h with h | h
    · replace h := (grd_t h).2
      obtain ⟨S1, e1, h⟩ := wr_t h
      have n1 := n0.tr (nn_st e1 (by decide))
      replace h := (grd_t h).2
      obtain ⟨S2, e2, h⟩ := wr_t h
      have n2 := n1.tr (nn_st e2 (by decide))
      obtain ⟨S3, e3, h⟩ := wr_t h
      have n3 := n2.tr (nn_0 e3 (by decide) (by decide))
      exact (n3.tr (k_M_follow_L71 h)).le (by omega) (by omega)
    · replace h := (grd_t h).2
      obtain ⟨_, h⟩ := nm_t h
      obtain ⟨_, S4, hc4, h⟩ := bnd_t h
      have n4 := n0.tr (k_M_sideTo hc4)
      obtain ⟨_, h⟩ := nm_t h
      exact (n4.tr (ih h)).le (by omega) (by omega)
theorem k_M_follow {a1 : Int32} {a2 : Int32} {S U : SS} (h : f_M_follow a1 a2 S = some U) : Nn 0 0 S U := by
  rw [f_M_follow.eq_1] at h
  have n0 : Nn 0 0 S S := Nn.rf
  exact (n0.tr (k_M_follow_L5 h)).le (by omega) (by omega)
theorem k_M_free_j84 {a b : Nat} (ha : 0 ≤ a) (hb : 0 ≤ b) {K32 : Int32 → Int32 → Int32 → SS → Option (Int32 × SS)} (hK32 : ∀ {y0 y1 y2 : Int32} {S U : SS} {r : Int32}, K32 y0 y1 y2 S = some (r, U) → Nn a b S U) {x1 : Int32} {x2 : Int32} {x3 : Int32} {y0 : Int32} {y1 : Int32} {S U : SS} {r : Int32} (h : f_M_free_j84 K32 x1 x2 x3 y0 y1 S = some (r, U)) : Nn a b S U := by
  rw [f_M_free_j84.eq_1] at h
  have n0 : Nn 0 0 S S := Nn.rf
  replace h := (grd_t h).2
  obtain ⟨S1, e1, h⟩ := wr_t h
  have n1 := n0.tr (nn_st e1 (by decide))
  obtain ⟨_, h⟩ := nm_t h
  exact (n1.tr (hK32 h)).le (by omega) (by omega)
theorem k_M_free_j56 {a b : Nat} (ha : 0 ≤ a) (hb : 0 ≤ b) {K32 : Int32 → Int32 → Int32 → SS → Option (Int32 × SS)} (hK32 : ∀ {y0 y1 y2 : Int32} {S U : SS} {r : Int32}, K32 y0 y1 y2 S = some (r, U) → Nn a b S U) {x1 : Int32} {x3 : Int32} {y0 : Int32} {y1 : Int32} {S U : SS} {r : Int32} (h : f_M_free_j56 K32 x1 x3 y0 y1 S = some (r, U)) : Nn a b S U := by
  rw [f_M_free_j56.eq_1] at h
  have n0 : Nn 0 0 S S := Nn.rf
  obtain ⟨_, h⟩ := nm_t h
  replace h := (grd_t h).2
  rcases ite_or h with h | h
  · exact (n0.tr (k_M_free_j84 (a := a) (b := b) (by omega) (by omega) hK32 h)).le (by omega) (by omega)
  · replace h := (grd_t h).2
    exact (n0.tr (k_M_free_j84 (a := a) (b := b) (by omega) (by omega) hK32 h)).le (by omega) (by omega)
theorem k_M_free_L32 : ∀ {n : Nat} {x1 : Int32} {x2 : Int32} {x3 : Int32} {S U : SS} {r : Int32}, f_M_free_L32 n x1 x2 x3 S = some (r, U) → Nn 1 0 S U := by
  intro n
  induction n with
  | zero =>
    intro x1 x2 x3 S U r h
    rw [f_M_free_L32.eq_1] at h
    cases h
  | succ n ih =>
    intro x1 x2 x3 S U r h
    rw [f_M_free_L32.eq_2] at h
    have n0 : Nn 0 0 S S := Nn.rf
    rcases ite_or h with h | h
    · obtain ⟨_, S1, hc1, h⟩ := bnd_t h
      have n1 := n0.tr (k_M_entered hc1)
      have h := some_2 h
      subst h
      exact n1.le (by omega) (by omega)
    · replace h := (grd_t h).2
      rcases ite_or h with h | h
      · exact (n0.tr (k_M_free_j56 (a := 1) (b := 0) (by omega) (by omega) (fun h => ih h) h)).le (by omega) (by omega)
      · exact (n0.tr (k_M_free_j56 (a := 1) (b := 0) (by omega) (by omega) (fun h => ih h) h)).le (by omega) (by omega)
theorem k_M_missRoute {a1 : Int32} {S U : SS} {r : Int32} (h : f_M_missRoute a1 S = some (r, U)) : Nn 0 0 S U := by
  rw [f_M_missRoute.eq_1] at h
  have n0 : Nn 0 0 S S := Nn.rf
  rcases ite_or h with h | h
  · have h := some_2 h
    subst h
    exact n0.le (by omega) (by omega)
  · rcases ite_or h with h | h
    · rcases ite_or h with h | h
      · have h := some_2 h
        subst h
        exact n0.le (by omega) (by omega)
      · have h := some_2 h
        subst h
        exact n0.le (by omega) (by omega)
    · have h := some_2 h
      subst h
      exact n0.le (by omega) (by omega)
theorem k_M_free {a1 : Int32} {S U : SS} {r : Int32} (h : f_M_free a1 S = some (r, U)) : Nn 1 0 S U := by
  rw [f_M_free.eq_1] at h
  have n0 : Nn 0 0 S S := Nn.rf
  obtain ⟨S1, hc1, h⟩ := bndv_t h
  have n1 := n0.tr (k_M_begin hc1)
  obtain ⟨S2, hc2, h⟩ := bndv_t h
  have n2 := n1.tr (k_M_keep hc2)
  obtain ⟨_, S3, hc3, h⟩ := bnd_t h
  have n3 := n2.tr (k_M_missRoute hc3)
  obtain ⟨_, S4, hc4, h⟩ := bnd_t h
  have n4 := n3.tr (k_M_ends hc4)
  rcases ite_or h with h | h
  · exact (n4.tr (k_M_free_L32 h)).le (by omega) (by omega)
  · obtain ⟨_, S5, hc5, h⟩ := bnd_t h
    have n5 := n4.tr (k_M_entered hc5)
    have h := some_2 h
    subst h
    exact n5.le (by omega) (by omega)
theorem k_M_goOn_j116 {a b : Nat} (ha : 0 ≤ a) (hb : 0 ≤ b) {K7 : Int32 → SS → Option (SS)} (hK7 : ∀ {y0 : Int32} {S U : SS}, K7 y0 S = some U → Nn a b S U) {x1 : Int32} {S U : SS} (h : f_M_goOn_j116 K7 x1 S = some U) : Nn a b S U := by
  rw [f_M_goOn_j116.eq_1] at h
  have n0 : Nn 0 0 S S := Nn.rf
  obtain ⟨_, h⟩ := nm_t h
  exact (n0.tr (hK7 h)).le (by omega) (by omega)
theorem k_M_place {a1 : Int32} {a2 : Int32} {a3 : Int32} {a4 : Int32} {a5 : Int32} {S U : SS} (h : f_M_place a1 a2 a3 a4 a5 S = some U) : Nn 0 0 S U := by
  rw [f_M_place.eq_1] at h
  have n0 : Nn 0 0 S S := Nn.rf
  replace h := (grd_t h).2
  obtain ⟨S1, e1, h⟩ := wr_t h
  have n1 := n0.tr (nn_st e1 (by decide))
  replace h := (grd_t h).2
  obtain ⟨S2, e2, h⟩ := wr_t h
  have n2 := n1.tr (nn_st e2 (by decide))
  rcases ite_or h with h | h
  · replace h := (grd_t h).2
    obtain ⟨S3, e3, h⟩ := wr_t h
    have n3 := n2.tr (nn_st e3 (by decide))
    have h := some_1 h
    subst h
    exact n3.le (by omega) (by omega)
  · replace h := (grd_t h).2
    obtain ⟨S4, e4, h⟩ := wr_t h
    have n4 := n2.tr (nn_st e4 (by decide))
    have h := some_1 h
    subst h
    exact n4.le (by omega) (by omega)
theorem k_M_goOn_j39 {a b : Nat} (ha : 0 ≤ a) (hb : 0 ≤ b) {K7 : Int32 → SS → Option (SS)} (hK7 : ∀ {y0 : Int32} {S U : SS}, K7 y0 S = some U → Nn a b S U) {x1 : Int32} {x2 : Int32} {y0 : Int32} {y1 : Int32} {y2 : Int32} {S U : SS} (h : f_M_goOn_j39 K7 x1 x2 y0 y1 y2 S = some U) : Nn a b S U := by
  rw [f_M_goOn_j39.eq_1] at h
  have n0 : Nn 0 0 S S := Nn.rf
  replace h := (grd_t h).2
  obtain ⟨S1, e1, h⟩ := wr_t h
  have n1 := n0.tr (nn_st e1 (by decide))
  rcases ite_or h with h | h
  · replace h := (grd_t h).2
    obtain ⟨S2, hc2, h⟩ := bndv_t h
    have n2 := n1.tr (k_M_place hc2)
    exact (n2.tr (k_M_goOn_j116 (a := a) (b := b) (by omega) (by omega) hK7 h)).le (by omega) (by omega)
  · replace h := (grd_t h).2
    obtain ⟨_, h⟩ := nm_t h
    replace h := (grd_t h).2
    replace h := (grd_t h).2
    replace h := (grd_t h).2
    replace h := (grd_t h).2
    obtain ⟨_, S3, hc3, h⟩ := bnd_t h
    have n3 := n1.tr (k_M_wayOf hc3)
    obtain ⟨S4, hc4, h⟩ := bndv_t h
    have n4 := n3.tr (k_M_place hc4)
    exact (n4.tr (k_M_goOn_j116 (a := a) (b := b) (by omega) (by omega) hK7 h)).le (by omega) (by omega)
theorem k_M_goOn_L7 : ∀ {n : Nat} {x1 : Int32} {S U : SS}, f_M_goOn_L7 n x1 S = some U → Nn 0 0 S U := by
  intro n
  induction n with
  | zero =>
    intro x1 S U h
    rw [f_M_goOn_L7.eq_1] at h
    cases h
  | succ n ih =>
    intro x1 S U h
    rw [f_M_goOn_L7.eq_2] at h
    have n0 : Nn 0 0 S S := Nn.rf
    rcases ite_or h with h | h
    · have h := some_1 h
      subst h
      exact n0.le (by omega) (by omega)
    · replace h := (grd_t h).2
      obtain ⟨_, h⟩ := nm_t h
      replace h := (grd_t h).2
      replace h := (grd_t h).2
      rcases ite_or h with h | h
      · exact (n0.tr (k_M_goOn_j39 (a := 0) (b := 0) (by omega) (by omega) (fun h => ih h) h)).le (by omega) (by omega)
      · exact (n0.tr (k_M_goOn_j39 (a := 0) (b := 0) (by omega) (by omega) (fun h => ih h) h)).le (by omega) (by omega)
theorem k_M_goOn {S U : SS} (h : f_M_goOn S = some U) : Nn 0 0 S U := by
  rw [f_M_goOn.eq_1] at h
  have n0 : Nn 0 0 S S := Nn.rf
  obtain ⟨_, h⟩ := nm_t h
  exact (n0.tr (k_M_goOn_L7 h)).le (by omega) (by omega)
theorem k_M_hasEngine_j48 {a b : Nat} (ha : 0 ≤ a) (hb : 0 ≤ b) {K4 : Int32 → Int32 → Int32 → SS → Option (Int32 × SS)} (hK4 : ∀ {y0 y1 y2 : Int32} {S U : SS} {r : Int32}, K4 y0 y1 y2 S = some (r, U) → Nn a b S U) {x1 : Int32} {x3 : Int32} {y0 : Int32} {S U : SS} {r : Int32} (h : f_M_hasEngine_j48 K4 x1 x3 y0 S = some (r, U)) : Nn a b S U := by
  rw [f_M_hasEngine_j48.eq_1] at h
  have n0 : Nn 0 0 S S := Nn.rf
  obtain ⟨_, h⟩ := nm_t h
  exact (n0.tr (hK4 h)).le (by omega) (by omega)
theorem k_M_hasEngine_j43 {a b : Nat} (ha : 0 ≤ a) (hb : 0 ≤ b) {K4 : Int32 → Int32 → Int32 → SS → Option (Int32 × SS)} (hK4 : ∀ {y0 y1 y2 : Int32} {S U : SS} {r : Int32}, K4 y0 y1 y2 S = some (r, U) → Nn a b S U) {x1 : Int32} {x3 : Int32} {S U : SS} {r : Int32} (h : f_M_hasEngine_j43 K4 x1 x3 S = some (r, U)) : Nn a b S U := by
  rw [f_M_hasEngine_j43.eq_1] at h
  have n0 : Nn 0 0 S S := Nn.rf
  exact (n0.tr (k_M_hasEngine_j48 (a := a) (b := b) (by omega) (by omega) hK4 h)).le (by omega) (by omega)
theorem k_M_hasEngine_j47 {a b : Nat} (ha : 0 ≤ a) (hb : 0 ≤ b) {K4 : Int32 → Int32 → Int32 → SS → Option (Int32 × SS)} (hK4 : ∀ {y0 y1 y2 : Int32} {S U : SS} {r : Int32}, K4 y0 y1 y2 S = some (r, U) → Nn a b S U) {x1 : Int32} {x3 : Int32} {S U : SS} {r : Int32} (h : f_M_hasEngine_j47 K4 x1 x3 S = some (r, U)) : Nn a b S U := by
  rw [f_M_hasEngine_j47.eq_1] at h
  have n0 : Nn 0 0 S S := Nn.rf
  exact (n0.tr (k_M_hasEngine_j48 (a := a) (b := b) (by omega) (by omega) hK4 h)).le (by omega) (by omega)
theorem k_M_hasEngine_L4 : ∀ {n : Nat} {x1 : Int32} {x2 : Int32} {x3 : Int32} {S U : SS} {r : Int32}, f_M_hasEngine_L4 n x1 x2 x3 S = some (r, U) → Nn 0 0 S U := by
  intro n
  induction n with
  | zero =>
    intro x1 x2 x3 S U r h
    rw [f_M_hasEngine_L4.eq_1] at h
    cases h
  | succ n ih =>
    intro x1 x2 x3 S U r h
    rw [f_M_hasEngine_L4.eq_2] at h
    have n0 : Nn 0 0 S S := Nn.rf
    rcases ite_or h with h | h
    · replace h := (grd_t h).2
      have h := some_2 h
      subst h
      exact n0.le (by omega) (by omega)
    · replace h := (grd_t h).2
      obtain ⟨_, h⟩ := nm_t h
      rcases ite_or h with h | h
      · rcases ite_or h with h | h
        · exact (n0.tr (k_M_hasEngine_j47 (a := 0) (b := 0) (by omega) (by omega) (fun h => ih h) h)).le (by omega) (by omega)
        · replace h := (grd_t h).2
          rcases ite_or h with h | h
          · exact (n0.tr (k_M_hasEngine_j43 (a := 0) (b := 0) (by omega) (by omega) (fun h => ih h) h)).le (by omega) (by omega)
          · exact (n0.tr (k_M_hasEngine_j47 (a := 0) (b := 0) (by omega) (by omega) (fun h => ih h) h)).le (by omega) (by omega)
      · exact (n0.tr (k_M_hasEngine_j43 (a := 0) (b := 0) (by omega) (by omega) (fun h => ih h) h)).le (by omega) (by omega)
theorem k_M_hasEngine {a1 : Int32} {S U : SS} {r : Int32} (h : f_M_hasEngine a1 S = some (r, U)) : Nn 0 0 S U := by
  rw [f_M_hasEngine.eq_1] at h
  have n0 : Nn 0 0 S S := Nn.rf
  exact (n0.tr (k_M_hasEngine_L4 h)).le (by omega) (by omega)
theorem k_M_loaded_L9 : ∀ {n : Nat} {x1 : Int32} {x2 : Int32} {x3 : Int32} {S U : SS} {r : Int32}, f_M_loaded_L9 n x1 x2 x3 S = some (r, U) → Nn 0 0 S U := by
  intro n
  induction n with
  | zero =>
    intro x1 x2 x3 S U r h
    rw [f_M_loaded_L9.eq_1] at h
    cases h
  | succ n ih =>
    intro x1 x2 x3 S U r h
    rw [f_M_loaded_L9.eq_2] at h
    have n0 : Nn 0 0 S S := Nn.rf
    replace h := (grd_t h).2
    rcases ite_or h with h | h
    · have h := some_2 h
      subst h
      exact n0.le (by omega) (by omega)
    · replace h := (grd_t h).2
      obtain ⟨_, h⟩ := nm_t h
      obtain ⟨_, h⟩ := nm_t h
      exact (n0.tr (ih h)).le (by omega) (by omega)
theorem k_M_loaded {a1 : Int32} {S U : SS} {r : Int32} (h : f_M_loaded a1 S = some (r, U)) : Nn 0 0 S U := by
  rw [f_M_loaded.eq_1] at h
  have n0 : Nn 0 0 S S := Nn.rf
  replace h := (grd_t h).2
  obtain ⟨_, h⟩ := nm_t h
  exact (n0.tr (k_M_loaded_L9 h)).le (by omega) (by omega)
theorem k_M_weight_j21 {x1 : Int32} {y0 : Int32} {S U : SS} {r : Int32} (h : f_M_weight_j21 x1 y0 S = some (r, U)) : Nn 0 0 S U := by
  rw [f_M_weight_j21.eq_1] at h
  have n0 : Nn 0 0 S S := Nn.rf
  replace h := (grd_t h).2
  rcases ite_or h with h | h
  · obtain ⟨S1, hc1, h⟩ := bndv_t h
    have n1 := n0.tr (k_M_note hc1)
    obtain ⟨_, S2, hc2, h⟩ := bnd_t h
    have n2 := n1.tr (k_M_loaded hc2)
    have h := some_2 h
    subst h
    exact n2.le (by omega) (by omega)
  · rcases ite_or h with h | h
    · obtain ⟨S3, hc3, h⟩ := bndv_t h
      have n3 := n0.tr (k_M_note hc3)
      obtain ⟨S4, hc4, h⟩ := bndv_t h
      have n4 := n3.tr (k_M_note hc4)
      obtain ⟨_, S5, hc5, h⟩ := bnd_t h
      have n5 := n4.tr (k_M_loaded hc5)
      have h := some_2 h
      subst h
      exact n5.le (by omega) (by omega)
    · rcases ite_or h with h | h
      · obtain ⟨S6, hc6, h⟩ := bndv_t h
        have n6 := n0.tr (k_M_note hc6)
        obtain ⟨S7, hc7, h⟩ := bndv_t h
        have n7 := n6.tr (k_M_note hc7)
        obtain ⟨S8, hc8, h⟩ := bndv_t h
        have n8 := n7.tr (k_M_note hc8)
        obtain ⟨_, S9, hc9, h⟩ := bnd_t h
        have n9 := n8.tr (k_M_loaded hc9)
        have h := some_2 h
        subst h
        exact n9.le (by omega) (by omega)
      · rcases ite_or h with h | h
        · obtain ⟨S10, hc10, h⟩ := bndv_t h
          have n10 := n0.tr (k_M_note hc10)
          obtain ⟨_, S11, hc11, h⟩ := bnd_t h
          have n11 := n10.tr (k_M_loaded hc11)
          have h := some_2 h
          subst h
          exact n11.le (by omega) (by omega)
        · rcases ite_or h with h | h
          · obtain ⟨S12, hc12, h⟩ := bndv_t h
            have n12 := n0.tr (k_M_note hc12)
            replace h := (grd_t h).2
            have h := some_2 h
            subst h
            exact n12.le (by omega) (by omega)
          · obtain ⟨S13, hc13, h⟩ := bndv_t h
            have n13 := n0.tr (k_M_note hc13)
            replace h := (grd_t h).2
            have h := some_2 h
            subst h
            exact n13.le (by omega) (by omega)
theorem k_M_weight {a1 : Int32} {S U : SS} {r : Int32} (h : f_M_weight a1 S = some (r, U)) : Nn 0 0 S U := by
  rw [f_M_weight.eq_1] at h
  have n0 : Nn 0 0 S S := Nn.rf
  replace h := (grd_t h).2
  rcases ite_or h with h | h
  · exact (n0.tr (k_M_weight_j21 h)).le (by omega) (by omega)
  · replace h := (grd_t h).2
    exact (n0.tr (k_M_weight_j21 h)).le (by omega) (by omega)
theorem k_M_heavy_j16 {x1 : Int32} {S U : SS} {r : Int32} (h : f_M_heavy_j16 x1 S = some (r, U)) : Nn 0 0 S U := by
  rw [f_M_heavy_j16.eq_1] at h
  have n0 : Nn 0 0 S S := Nn.rf
  obtain ⟨S1, hc1, h⟩ := bndv_t h
  have n1 := n0.tr (k_M_note hc1)
  obtain ⟨_, S2, hc2, h⟩ := bnd_t h
  have n2 := n1.tr (k_M_weight hc2)
  replace h := (grd_t h).2
  replace h := (grd_t h).2
  rcases ite_or h with h | h
  · have h := some_2 h
    subst h
    exact n2.le (by omega) (by omega)
  · have h := some_2 h
    subst h
    exact n2.le (by omega) (by omega)
theorem k_M_heavy {a1 : Int32} {S U : SS} {r : Int32} (h : f_M_heavy a1 S = some (r, U)) : Nn 0 0 S U := by
  rw [f_M_heavy.eq_1] at h
  have n0 : Nn 0 0 S S := Nn.rf
  replace h := (grd_t h).2
  rcases ite_or h with h | h
  · obtain ⟨S1, hc1, h⟩ := bndv_t h
    have n1 := n0.tr (k_M_note hc1)
    exact (n1.tr (k_M_heavy_j16 h)).le (by omega) (by omega)
  · exact (n0.tr (k_M_heavy_j16 h)).le (by omega) (by omega)
theorem k_M_hold_j19 {x1 : Int32} {x2 : Int32} {S U : SS} {r : Int32} (h : f_M_hold_j19 x1 x2 S = some (r, U)) : Nn 1 0 S U := by
  rw [f_M_hold_j19.eq_1] at h
  have n0 : Nn 0 0 S S := Nn.rf
  obtain ⟨S1, hc1, h⟩ := bndv_t h
  have n1 := n0.tr (k_M_begin hc1)
  obtain ⟨S2, hc2, h⟩ := bndv_t h
  have n2 := n1.tr (k_M_keep hc2)
  obtain ⟨_, S3, hc3, h⟩ := bnd_t h
  have n3 := n2.tr (k_M_missThing hc3)
  obtain ⟨_, S4, hc4, h⟩ := bnd_t h
  have n4 := n3.tr (k_M_ends hc4)
  rcases ite_or h with h | h
  · replace h := (grd_t h).2
    obtain ⟨_, h⟩ := nm_t h
    replace h := (grd_t h).2
    obtain ⟨S5, e5, h⟩ := wr_t h
    have n5 := n4.tr (nn_st e5 (by decide))
    obtain ⟨_, S6, hc6, h⟩ := bnd_t h
    have n6 := n5.tr (k_M_entered hc6)
    have h := some_2 h
    subst h
    exact n6.le (by omega) (by omega)
  · obtain ⟨_, S7, hc7, h⟩ := bnd_t h
    have n7 := n4.tr (k_M_entered hc7)
    have h := some_2 h
    subst h
    exact n7.le (by omega) (by omega)
theorem k_M_hold {a1 : Int32} {a2 : Int32} {S U : SS} {r : Int32} (h : f_M_hold a1 a2 S = some (r, U)) : Nn 1 0 S U := by
  rw [f_M_hold.eq_1] at h
  have n0 : Nn 0 0 S S := Nn.rf
  rcases ite_or h with h | h
  · exact (n0.tr (k_M_hold_j19 h)).le (by omega) (by omega)
  · rcases ite_or h with h | h
    · have h := some_2 h
      subst h
      exact n0.le (by omega) (by omega)
    · rcases ite_or h with h | h
      · exact (n0.tr (k_M_hold_j19 h)).le (by omega) (by omega)
      · have h := some_2 h
        subst h
        exact n0.le (by omega) (by omega)
theorem k_M_isUnder {a1 : Int32} {S U : SS} {r : Int32} (h : f_M_isUnder a1 S = some (r, U)) : Nn 0 0 S U := by
  rw [f_M_isUnder.eq_1] at h
  have n0 : Nn 0 0 S S := Nn.rf
  replace h := (grd_t h).2
  replace h := (grd_t h).2
  obtain ⟨_, S1, hc1, h⟩ := bnd_t h
  have n1 := n0.tr (k_M_placeAtEnd hc1)
  obtain ⟨_, S2, hc2, h⟩ := bnd_t h
  have n2 := n1.tr (k_M_standing hc2)
  rcases ite_or h with h | h
  · have h := some_2 h
    subst h
    exact n2.le (by omega) (by omega)
  · have h := some_2 h
    subst h
    exact n2.le (by omega) (by omega)
theorem k_M_jam {a1 : Int32} {a2 : Int32} {S U : SS} {r : Int32} (h : f_M_jam a1 a2 S = some (r, U)) : Nn 1 0 S U := by
  rw [f_M_jam.eq_1] at h
  have n0 : Nn 0 0 S S := Nn.rf
  rcases ite_or h with h | h
  · have h := some_2 h
    subst h
    exact n0.le (by omega) (by omega)
  · rcases ite_or h with h | h
    · obtain ⟨S1, hc1, h⟩ := bndv_t h
      have n1 := n0.tr (k_M_begin hc1)
      obtain ⟨S2, hc2, h⟩ := bndv_t h
      have n2 := n1.tr (k_M_keep hc2)
      obtain ⟨_, S3, hc3, h⟩ := bnd_t h
      have n3 := n2.tr (k_M_missThing hc3)
      obtain ⟨_, S4, hc4, h⟩ := bnd_t h
      have n4 := n3.tr (k_M_ends hc4)
      rcases ite_or h with h | h
      · replace h := (grd_t h).2
        obtain ⟨_, h⟩ := nm_t h
        replace h := (grd_t h).2
        obtain ⟨S5, e5, h⟩ := wr_t h
        have n5 := n4.tr (nn_st e5 (by decide))
        obtain ⟨_, S6, hc6, h⟩ := bnd_t h
        have n6 := n5.tr (k_M_entered hc6)
        have h := some_2 h
        subst h
        exact n6.le (by omega) (by omega)
      · obtain ⟨_, S7, hc7, h⟩ := bnd_t h
        have n7 := n4.tr (k_M_entered hc7)
        have h := some_2 h
        subst h
        exact n7.le (by omega) (by omega)
    · have h := some_2 h
      subst h
      exact n0.le (by omega) (by omega)
theorem k_M_kick_j164 {x5 : Int32} {S U : SS} {r : Int32} (h : f_M_kick_j164 x5 S = some (r, U)) : Nn 1 0 S U := by
  rw [f_M_kick_j164.eq_1] at h
  have n0 : Nn 0 0 S S := Nn.rf
  obtain ⟨_, S1, hc1, h⟩ := bnd_t h
  have n1 := n0.tr (k_M_entered hc1)
  have h := some_2 h
  subst h
  exact n1.le (by omega) (by omega)
theorem k_M_kick_j114 {x1 : Int32} {x2 : Int32} {y0 : Int32} {S U : SS} {r : Int32} (h : f_M_kick_j114 x1 x2 y0 S = some (r, U)) : Nn 1 1 S U := by
  rw [f_M_kick_j114.eq_1] at h
  have n0 : Nn 0 0 S S := Nn.rf
  replace h := (grd_t h).2
  obtain ⟨_, h⟩ := nm_t h
  rcases ite_or h with h | h
  · exact (n0.tr (k_M_kick_j164 h)).le (by omega) (by omega)
  · replace h := (grd_t h).2
    obtain ⟨S1, e1, h⟩ := wr_t h
    have n1 := n0.tr (nn_st e1 (by decide))
    replace h := (grd_t h).2
    obtain ⟨S2, e2, h⟩ := wr_t h
    have n2 := n1.tr (nn_st e2 (by decide))
    replace h := (grd_t h).2
    obtain ⟨S3, e3, h⟩ := wr_t h
    have n3 := n2.tr (nn_st e3 (by decide))
    obtain ⟨S4, e4, h⟩ := wr_t h
    have n4 := n3.tr (nn_47 e4)
    replace h := (grd_t h).2
    obtain ⟨S5, e5, h⟩ := wr_t h
    have n5 := n4.tr (nn_st e5 (by decide))
    exact (n5.tr (k_M_kick_j164 h)).le (by omega) (by omega)
theorem k_M_kick_j69 {x1 : Int32} {x2 : Int32} {x3 : Int32} {S U : SS} {r : Int32} (h : f_M_kick_j69 x1 x2 x3 S = some (r, U)) : Nn 1 1 S U := by
  rw [f_M_kick_j69.eq_1] at h
  have n0 : Nn 0 0 S S := Nn.rf
  obtain ⟨_, S1, hc1, h⟩ := bnd_t h
  have n1 := n0.tr (k_M_ends hc1)
  rcases ite_or h with h | h
  · obtain ⟨_, S2, hc2, h⟩ := bnd_t h
    have n2 := n1.tr (k_M_heavy hc2)
    obtain ⟨_, h⟩ := nm_t h
    rcases ite_or h with h | h
    · exact (n2.tr (k_M_kick_j114 h)).le (by omega) (by omega)
    · exact (n2.tr (k_M_kick_j114 h)).le (by omega) (by omega)
  · obtain ⟨_, S3, hc3, h⟩ := bnd_t h
    have n3 := n1.tr (k_M_entered hc3)
    have h := some_2 h
    subst h
    exact n3.le (by omega) (by omega)
theorem k_M_kick_j68 {x1 : Int32} {x2 : Int32} {y0 : Int32} {S U : SS} {r : Int32} (h : f_M_kick_j68 x1 x2 y0 S = some (r, U)) : Nn 1 1 S U := by
  rw [f_M_kick_j68.eq_1] at h
  have n0 : Nn 0 0 S S := Nn.rf
  exact (n0.tr (k_M_kick_j69 h)).le (by omega) (by omega)
theorem k_M_kick_j48 {x1 : Int32} {x2 : Int32} {S U : SS} {r : Int32} (h : f_M_kick_j48 x1 x2 S = some (r, U)) : Nn 1 1 S U := by
  rw [f_M_kick_j48.eq_1] at h
  have n0 : Nn 0 0 S S := Nn.rf
  exact (n0.tr (k_M_kick_j68 h)).le (by omega) (by omega)
theorem k_M_kick {a1 : Int32} {a2 : Int32} {S U : SS} {r : Int32} (h : f_M_kick a1 a2 S = some (r, U)) : Nn 1 1 S U := by
  rw [f_M_kick.eq_1] at h
  have n0 : Nn 0 0 S S := Nn.rf
  obtain ⟨S1, hc1, h⟩ := bndv_t h
  have n1 := n0.tr (k_M_begin hc1)
  obtain ⟨S2, hc2, h⟩ := bndv_t h
  have n2 := n1.tr (k_M_keep hc2)
  obtain ⟨_, S3, hc3, h⟩ := bnd_t h
  have n3 := n2.tr (k_M_missSide hc3)
  rcases ite_or h with h | h
  · replace h := (grd_t h).2
    rcases ite_or h with h | h
    · replace h := (grd_t h).2
      rcases ite_or h with h | h
      · replace h := (grd_t h).2
        rcases ite_or h with h | h
        · exact (n3.tr (k_M_kick_j68 h)).le (by omega) (by omega)
        · exact (n3.tr (k_M_kick_j68 h)).le (by omega) (by omega)
      · exact (n3.tr (k_M_kick_j48 h)).le (by omega) (by omega)
    · exact (n3.tr (k_M_kick_j48 h)).le (by omega) (by omega)
  · exact (n3.tr (k_M_kick_j69 h)).le (by omega) (by omega)
theorem k_M_leave_L31 : ∀ {n : Nat} {x2 : Int32} {S U : SS} {r : Int32}, f_M_leave_L31 n x2 S = some (r, U) → Nn 1 0 S U := by
  intro n
  induction n with
  | zero =>
    intro x2 S U r h
    rw [f_M_leave_L31.eq_1] at h
    cases h
  | succ n ih =>
    intro x2 S U r h
    rw [f_M_leave_L31.eq_2] at h
    have n0 : Nn 0 0 S S := Nn.rf
    rcases ite_or h with h | h
    · obtain ⟨_, S1, hc1, h⟩ := bnd_t h
      have n1 := n0.tr (k_M_entered hc1)
      have h := some_2 h
      subst h
      exact n1.le (by omega) (by omega)
    · replace h := (grd_t h).2
      replace h := (grd_t h).2
      obtain ⟨S2, e2, h⟩ := wr_t h
      have n2 := n0.tr (nn_st e2 (by decide))
      obtain ⟨_, h⟩ := nm_t h
      exact (n2.tr (ih h)).le (by omega) (by omega)
theorem k_M_mayLeave {a1 : Int32} {a2 : Int32} {S U : SS} {r : Int32} (h : f_M_mayLeave a1 a2 S = some (r, U)) : Nn 0 0 S U := by
  rw [f_M_mayLeave.eq_1] at h
  have n0 : Nn 0 0 S S := Nn.rf
  replace h := (grd_t h).2
  obtain ⟨_, S1, hc1, h⟩ := bnd_t h
  have n1 := n0.tr (k_M_wayOf hc1)
  obtain ⟨_, h⟩ := nm_t h
  replace h := (grd_t h).2
  rcases ite_or h with h | h
  · have h := some_2 h
    subst h
    exact n1.le (by omega) (by omega)
  · replace h := (grd_t h).2
    obtain ⟨_, S2, hc2, h⟩ := bnd_t h
    have n2 := n1.tr (k_M_placeAtEnd hc2)
    rcases ite_or h with h | h
    · have h := some_2 h
      subst h
      exact n2.le (by omega) (by omega)
    · have h := some_2 h
      subst h
      exact n2.le (by omega) (by omega)
theorem k_M_missLeave_L20 : ∀ {n : Nat} {x3 : Int32} {S U : SS} {r : Int32}, f_M_missLeave_L20 n x3 S = some (r, U) → Nn 0 0 S U := by
  intro n
  induction n with
  | zero =>
    intro x3 S U r h
    rw [f_M_missLeave_L20.eq_1] at h
    cases h
  | succ n ih =>
    intro x3 S U r h
    rw [f_M_missLeave_L20.eq_2] at h
    have n0 : Nn 0 0 S S := Nn.rf
    rcases ite_or h with h | h
    · replace h := (grd_t h).2
      obtain ⟨_, S1, hc1, h⟩ := bnd_t h
      have n1 := n0.tr (k_M_mayLeave hc1)
      rcases ite_or h with h | h
      · replace h := (grd_t h).2
        obtain ⟨_, S2, hc2, h⟩ := bnd_t h
        have n2 := n1.tr (k_M_mayLeave hc2)
        rcases ite_or h with h | h
        · have h := some_2 h
          subst h
          exact n2.le (by omega) (by omega)
        · have h := some_2 h
          subst h
          exact n2.le (by omega) (by omega)
      · have h := some_2 h
        subst h
        exact n1.le (by omega) (by omega)
    · replace h := (grd_t h).2
      replace h := (grd_t h).2
      rcases ite_or h with h | h
      · have h := some_2 h
        subst h
        exact n0.le (by omega) (by omega)
      · obtain ⟨_, h⟩ := nm_t h
        exact (n0.tr (ih h)).le (by omega) (by omega)
theorem k_M_missLeave {a1 : Int32} {S U : SS} {r : Int32} (h : f_M_missLeave a1 S = some (r, U)) : Nn 0 0 S U := by
  rw [f_M_missLeave.eq_1] at h
  have n0 : Nn 0 0 S S := Nn.rf
  obtain ⟨_, S1, hc1, h⟩ := bnd_t h
  have n1 := n0.tr (k_M_missThing hc1)
  rcases ite_or h with h | h
  · obtain ⟨S2, hc2, h⟩ := bndv_t h
    have n2 := n1.tr (k_M_lineUp hc2)
    exact (n2.tr (k_M_missLeave_L20 h)).le (by omega) (by omega)
  · have h := some_2 h
    subst h
    exact n1.le (by omega) (by omega)
theorem k_M_leave {a1 : Int32} {S U : SS} {r : Int32} (h : f_M_leave a1 S = some (r, U)) : Nn 1 0 S U := by
  rw [f_M_leave.eq_1] at h
  have n0 : Nn 0 0 S S := Nn.rf
  obtain ⟨S1, hc1, h⟩ := bndv_t h
  have n1 := n0.tr (k_M_begin hc1)
  obtain ⟨S2, hc2, h⟩ := bndv_t h
  have n2 := n1.tr (k_M_keep hc2)
  obtain ⟨_, S3, hc3, h⟩ := bnd_t h
  have n3 := n2.tr (k_M_missLeave hc3)
  obtain ⟨_, S4, hc4, h⟩ := bnd_t h
  have n4 := n3.tr (k_M_ends hc4)
  rcases ite_or h with h | h
  · exact (n4.tr (k_M_leave_L31 h)).le (by omega) (by omega)
  · obtain ⟨_, S5, hc5, h⟩ := bnd_t h
    have n5 := n4.tr (k_M_entered hc5)
    have h := some_2 h
    subst h
    exact n5.le (by omega) (by omega)
theorem k_M_lock_L72 : ∀ {n : Nat} {x1 : Int32} {x2 : Int32} {x4 : Int32} {x5 : Int32} {S U : SS} {r : Int32}, f_M_lock_L72 n x1 x2 x4 x5 S = some (r, U) → Nn 1 0 S U := by
  intro n
  induction n with
  | zero =>
    intro x1 x2 x4 x5 S U r h
    rw [f_M_lock_L72.eq_1] at h
    cases h
  | succ n ih =>
    intro x1 x2 x4 x5 S U r h
    rw [f_M_lock_L72.eq_2] at h
    have n0 : Nn 0 0 S S := Nn.rf
    rcases ite_or h with h | h
    · obtain ⟨_, S1, hc1, h⟩ := bnd_t h
      have n1 := n0.tr (k_M_found hc1)
      obtain ⟨_, S2, hc2, h⟩ := bnd_t h
      have n2 := n1.tr (k_M_entered hc2)
      have h := some_2 h
      subst h
      exact n2.le (by omega) (by omega)
    · replace h := (grd_t h).2
      replace h := (grd_t h).2
      obtain ⟨S3, e3, h⟩ := wr_t h
      have n3 := n0.tr (nn_st e3 (by decide))
      replace h := (grd_t h).2
      replace h := (grd_t h).2
      replace h := (grd_t h).2
      obtain ⟨S4, e4, h⟩ := wr_t h
      have n4 := n3.tr (nn_st e4 (by decide))
      obtain ⟨_, h⟩ := nm_t h
      exact (n4.tr (ih h)).le (by omega) (by omega)
theorem k_M_missEntry {a1 : Int32} {S U : SS} {r : Int32} (h : f_M_missEntry a1 S = some (r, U)) : Nn 0 0 S U := by
  rw [f_M_missEntry.eq_1] at h
  have n0 : Nn 0 0 S S := Nn.rf
  replace h := (grd_t h).2
  obtain ⟨_, h⟩ := nm_t h
  replace h := (grd_t h).2
  obtain ⟨_, h⟩ := nm_t h
  replace h := (grd_t h).2
  rcases ite_or h with h | h
  · replace h := (grd_t h).2
    replace h := (grd_t h).2
    rcases ite_or h with h | h
    · replace h := (grd_t h).2
      rcases ite_or h with h | h
      · have h := some_2 h
        subst h
        exact n0.le (by omega) (by omega)
      · obtain ⟨_, S1, hc1, h⟩ := bnd_t h
        have n1 := n0.tr (k_M_isUnder hc1)
        rcases ite_or h with h | h
        · have h := some_2 h
          subst h
          exact n1.le (by omega) (by omega)
        · have h := some_2 h
          subst h
          exact n1.le (by omega) (by omega)
    · have h := some_2 h
      subst h
      exact n0.le (by omega) (by omega)
  · replace h := (grd_t h).2
    obtain ⟨S2, e2, h⟩ := wr_t h
    have n2 := n0.tr (nn_0 e2 (by decide) (by decide))
    have h := some_2 h
    subst h
    exact n2.le (by omega) (by omega)
theorem k_M_lock_L30 : ∀ {n : Nat} {x1 : Int32} {x2 : Int32} {S U : SS} {r : Int32}, f_M_lock_L30 n x1 x2 S = some (r, U) → Nn 1 0 S U := by
  intro n
  induction n with
  | zero =>
    intro x1 x2 S U r h
    rw [f_M_lock_L30.eq_1] at h
    cases h
  | succ n ih =>
    intro x1 x2 S U r h
    rw [f_M_lock_L30.eq_2] at h
    have n0 : Nn 0 0 S S := Nn.rf
    replace h := (grd_t h).2
    rcases ite_or h with h | h
    · replace h := (grd_t h).2
      obtain ⟨_, S1, hc1, h⟩ := bnd_t h
      have n1 := n0.tr (k_M_entered hc1)
      have h := some_2 h
      subst h
      exact n1.le (by omega) (by omega)
    · replace h := (grd_t h).2
      obtain ⟨_, h⟩ := nm_t h
      obtain ⟨_, S2, hc2, h⟩ := bnd_t h
      have n2 := n0.tr (k_M_missEntry hc2)
      rcases ite_or h with h | h
      · replace h := (grd_t h).2
        replace h := (grd_t h).2
        obtain ⟨S3, e3, h⟩ := wr_t h
        have n3 := n2.tr (nn_st e3 (by decide))
        replace h := (grd_t h).2
        replace h := (grd_t h).2
        obtain ⟨S4, e4, h⟩ := wr_t h
        have n4 := n3.tr (nn_st e4 (by decide))
        replace h := (grd_t h).2
        obtain ⟨S5, e5, h⟩ := wr_t h
        have n5 := n4.tr (nn_st e5 (by decide))
        obtain ⟨_, h⟩ := nm_t h
        exact (n5.tr (ih h)).le (by omega) (by omega)
      · exact (n2.tr (k_M_lock_L72 h)).le (by omega) (by omega)
theorem k_M_lock {a1 : Int32} {S U : SS} {r : Int32} (h : f_M_lock a1 S = some (r, U)) : Nn 1 0 S U := by
  rw [f_M_lock.eq_1] at h
  have n0 : Nn 0 0 S S := Nn.rf
  obtain ⟨S1, hc1, h⟩ := bndv_t h
  have n1 := n0.tr (k_M_begin hc1)
  obtain ⟨S2, hc2, h⟩ := bndv_t h
  have n2 := n1.tr (k_M_keep hc2)
  obtain ⟨_, S3, hc3, h⟩ := bnd_t h
  have n3 := n2.tr (k_M_missRoute hc3)
  obtain ⟨_, S4, hc4, h⟩ := bnd_t h
  have n4 := n3.tr (k_M_ends hc4)
  rcases ite_or h with h | h
  · exact (n4.tr (k_M_lock_L30 h)).le (by omega) (by omega)
  · obtain ⟨_, S5, hc5, h⟩ := bnd_t h
    have n5 := n4.tr (k_M_entered hc5)
    have h := some_2 h
    subst h
    exact n5.le (by omega) (by omega)
theorem k_M_missPoint {a1 : Int32} {S U : SS} {r : Int32} (h : f_M_missPoint a1 S = some (r, U)) : Nn 0 0 S U := by
  rw [f_M_missPoint.eq_1] at h
  have n0 : Nn 0 0 S S := Nn.rf
  rcases ite_or h with h | h
  · have h := some_2 h
    subst h
    exact n0.le (by omega) (by omega)
  · rcases ite_or h with h | h
    · rcases ite_or h with h | h
      · have h := some_2 h
        subst h
        exact n0.le (by omega) (by omega)
      · have h := some_2 h
        subst h
        exact n0.le (by omega) (by omega)
    · have h := some_2 h
      subst h
      exact n0.le (by omega) (by omega)
theorem k_M_missPull_j103 {a b : Nat} (ha : 0 ≤ a) (hb : 0 ≤ b) {K62 : Int32 → Int32 → Int32 → SS → Option (Int32 × SS)} (hK62 : ∀ {y0 y1 y2 : Int32} {S U : SS} {r : Int32}, K62 y0 y1 y2 S = some (r, U) → Nn a b S U) {x4 : Int32} {x5 : Int32} {x6 : Int32} {S U : SS} {r : Int32} (h : f_M_missPull_j103 K62 x4 x5 x6 S = some (r, U)) : Nn a b S U := by
  rw [f_M_missPull_j103.eq_1] at h
  have n0 : Nn 0 0 S S := Nn.rf
  obtain ⟨_, h⟩ := nm_t h
  exact (n0.tr (hK62 h)).le (by omega) (by omega)
theorem k_M_pulls_j27 {x1 : Int32} {S U : SS} {r : Int32} (h : f_M_pulls_j27 x1 S = some (r, U)) : Nn 0 0 S U := by
  rw [f_M_pulls_j27.eq_1] at h
  have n0 : Nn 0 0 S S := Nn.rf
  obtain ⟨S1, hc1, h⟩ := bndv_t h
  have n1 := n0.tr (k_M_note hc1)
  replace h := (grd_t h).2
  have h := some_2 h
  subst h
  exact n1.le (by omega) (by omega)
theorem k_M_pulls {a1 : Int32} {S U : SS} {r : Int32} (h : f_M_pulls a1 S = some (r, U)) : Nn 0 0 S U := by
  rw [f_M_pulls.eq_1] at h
  have n0 : Nn 0 0 S S := Nn.rf
  replace h := (grd_t h).2
  rcases ite_or h with h | h
  · obtain ⟨S1, hc1, h⟩ := bndv_t h
    have n1 := n0.tr (k_M_note hc1)
    obtain ⟨_, S2, hc2, h⟩ := bnd_t h
    have n2 := n1.tr (k_M_hasEngine hc2)
    rcases ite_or h with h | h
    · have h := some_2 h
      subst h
      exact n2.le (by omega) (by omega)
    · exact (n2.tr (k_M_pulls_j27 h)).le (by omega) (by omega)
  · exact (n0.tr (k_M_pulls_j27 h)).le (by omega) (by omega)
theorem k_M_missPull_L62 : ∀ {n : Nat} {x4 : Int32} {x5 : Int32} {x6 : Int32} {S U : SS} {r : Int32}, f_M_missPull_L62 n x4 x5 x6 S = some (r, U) → Nn 0 0 S U := by
  intro n
  induction n with
  | zero =>
    intro x4 x5 x6 S U r h
    rw [f_M_missPull_L62.eq_1] at h
    cases h
  | succ n ih =>
    intro x4 x5 x6 S U r h
    rw [f_M_missPull_L62.eq_2] at h
    have n0 : Nn 0 0 S S := Nn.rf
    rcases ite_or h with h | h
    · rcases ite_or h with h | h
      · have h := some_2 h
        subst h
        exact n0.le (by omega) (by omega)
      · have h := some_2 h
        subst h
        exact n0.le (by omega) (by omega)
    · replace h := (grd_t h).2
      replace h := (grd_t h).2
      rcases ite_or h with h | h
      · exact (n0.tr (k_M_missPull_j103 (a := 0) (b := 0) (by omega) (by omega) (fun h => ih h) h)).le (by omega) (by omega)
      · replace h := (grd_t h).2
        obtain ⟨_, S1, hc1, h⟩ := bnd_t h
        have n1 := n0.tr (k_M_pulls hc1)
        obtain ⟨_, h⟩ := nm_t h
        exact (n1.tr (k_M_missPull_j103 (a := 0) (b := 0) (by omega) (by omega) (fun h => ih h) h)).le (by omega) (by omega)
theorem k_M_missPull_L28 : ∀ {n : Nat} {x4 : Int32} {x5 : Int32} {x6 : Int32} {S U : SS} {r : Int32}, f_M_missPull_L28 n x4 x5 x6 S = some (r, U) → Nn 0 0 S U := by
  intro n
  induction n with
  | zero =>
    intro x4 x5 x6 S U r h
    rw [f_M_missPull_L28.eq_1] at h
    cases h
  | succ n ih =>
    intro x4 x5 x6 S U r h
    rw [f_M_missPull_L28.eq_2] at h
    have n0 : Nn 0 0 S S := Nn.rf
    rcases ite_or h with h | h
    · exact (n0.tr (k_M_missPull_L62 h)).le (by omega) (by omega)
    · replace h := (grd_t h).2
      obtain ⟨_, S1, hc1, h⟩ := bnd_t h
      have n1 := n0.tr (k_M_weight hc1)
      obtain ⟨_, h⟩ := nm_t h
      obtain ⟨_, h⟩ := nm_t h
      exact (n1.tr (ih h)).le (by omega) (by omega)
theorem k_M_missPull {a1 : Int32} {a2 : Int32} {S U : SS} {r : Int32} (h : f_M_missPull a1 a2 S = some (r, U)) : Nn 0 0 S U := by
  rw [f_M_missPull.eq_1] at h
  have n0 : Nn 0 0 S S := Nn.rf
  obtain ⟨_, S1, hc1, h⟩ := bnd_t h
  have n1 := n0.tr (k_M_missSide hc1)
  rcases ite_or h with h | h
  · obtain ⟨S2, hc2, h⟩ := bndv_t h
    have n2 := n1.tr (k_M_lineUp hc2)
    exact (n2.tr (k_M_missPull_L28 h)).le (by omega) (by omega)
  · have h := some_2 h
    subst h
    exact n1.le (by omega) (by omega)
theorem k_M_raised {a1 : Int32} {S U : SS} {r : Int32} (h : f_M_raised a1 S = some (r, U)) : Nn 0 0 S U := by
  rw [f_M_raised.eq_1] at h
  have n0 : Nn 0 0 S S := Nn.rf
  replace h := (grd_t h).2
  obtain ⟨S1, e1, h⟩ := wr_t h
  have n1 := n0.tr (nn_0 e1 (by decide) (by decide))
  replace h := (grd_t h).2
  rcases ite_or h with h | h
  · have h := some_2 h
    subst h
    exact n1.le (by omega) (by omega)
  · have h := some_2 h
    subst h
    exact n1.le (by omega) (by omega)
theorem k_M_missStep_L62 : ∀ {n : Nat} {x2 : Int32} {S U : SS} {r : Int32}, f_M_missStep_L62 n x2 S = some (r, U) → Nn 0 0 S U := by
  intro n
  induction n with
  | zero =>
    intro x2 S U r h
    rw [f_M_missStep_L62.eq_1] at h
    cases h
  | succ n ih =>
    intro x2 S U r h
    rw [f_M_missStep_L62.eq_2] at h
    have n0 : Nn 0 0 S S := Nn.rf
    rcases ite_or h with h | h
    · have h := some_2 h
      subst h
      exact n0.le (by omega) (by omega)
    · replace h := (grd_t h).2
      replace h := (grd_t h).2
      rcases ite_or h with h | h
      · replace h := (grd_t h).2
        obtain ⟨_, S1, hc1, h⟩ := bnd_t h
        have n1 := n0.tr (k_M_raised hc1)
        have h := some_2 h
        subst h
        exact n1.le (by omega) (by omega)
      · obtain ⟨_, h⟩ := nm_t h
        exact (n0.tr (ih h)).le (by omega) (by omega)
theorem k_M_missStep {S U : SS} {r : Int32} (h : f_M_missStep S = some (r, U)) : Nn 0 0 S U := by
  rw [f_M_missStep.eq_1] at h
  have n0 : Nn 0 0 S S := Nn.rf
  replace h := (grd_t h).2
  obtain ⟨_, h⟩ := nm_t h
  replace h := (grd_t h).2
  replace h := (grd_t h).2
  replace h := (grd_t h).2
  obtain ⟨_, S1, hc1, h⟩ := bnd_t h
  have n1 := n0.tr (k_M_wayOf hc1)
  obtain ⟨_, S2, hc2, h⟩ := bnd_t h
  have n2 := n1.tr (k_M_isOpen hc2)
  rcases ite_or h with h | h
  · have h := some_2 h
    subst h
    exact n2.le (by omega) (by omega)
  · obtain ⟨_, S3, hc3, h⟩ := bnd_t h
    have n3 := n2.tr (k_M_standing hc3)
    rcases ite_or h with h | h
    · exact (n3.tr (k_M_missStep_L62 h)).le (by omega) (by omega)
    · have h := some_2 h
      subst h
      exact n3.le (by omega) (by omega)
theorem k_M_missTurn {a1 : Int32} {a2 : Int32} {S U : SS} {r : Int32} (h : f_M_missTurn a1 a2 S = some (r, U)) : Nn 0 0 S U := by
  rw [f_M_missTurn.eq_1] at h
  have n0 : Nn 0 0 S S := Nn.rf
  obtain ⟨_, S1, hc1, h⟩ := bnd_t h
  have n1 := n0.tr (k_M_missPoint hc1)
  rcases ite_or h with h | h
  · rcases ite_or h with h | h
    · have h := some_2 h
      subst h
      exact n1.le (by omega) (by omega)
    · replace h := (grd_t h).2
      replace h := (grd_t h).2
      rcases ite_or h with h | h
      · replace h := (grd_t h).2
        rcases ite_or h with h | h
        · have h := some_2 h
          subst h
          exact n1.le (by omega) (by omega)
        · replace h := (grd_t h).2
          obtain ⟨S2, e2, h⟩ := wr_t h
          have n2 := n1.tr (nn_0 e2 (by decide) (by decide))
          replace h := (grd_t h).2
          rcases ite_or h with h | h
          · obtain ⟨_, S3, hc3, h⟩ := bnd_t h
            have n3 := n2.tr (k_M_isUnder hc3)
            rcases ite_or h with h | h
            · have h := some_2 h
              subst h
              exact n3.le (by omega) (by omega)
            · have h := some_2 h
              subst h
              exact n3.le (by omega) (by omega)
          · have h := some_2 h
            subst h
            exact n2.le (by omega) (by omega)
      · have h := some_2 h
        subst h
        exact n1.le (by omega) (by omega)
  · have h := some_2 h
    subst h
    exact n1.le (by omega) (by omega)
theorem k_M_nextRunning_j64 {a b : Nat} (ha : 0 ≤ a) (hb : 0 ≤ b) {K5 : Int32 → Int32 → Int32 → SS → Option (Int32 × SS)} (hK5 : ∀ {y0 y1 y2 : Int32} {S U : SS} {r : Int32}, K5 y0 y1 y2 S = some (r, U) → Nn a b S U) {x1 : Int32} {x2 : Int32} {x3 : Int32} {S U : SS} {r : Int32} (h : f_M_nextRunning_j64 K5 x1 x2 x3 S = some (r, U)) : Nn a b S U := by
  rw [f_M_nextRunning_j64.eq_1] at h
  have n0 : Nn 0 0 S S := Nn.rf
  obtain ⟨_, h⟩ := nm_t h
  exact (n0.tr (hK5 h)).le (by omega) (by omega)
theorem k_M_nextRunning_j62 {a b : Nat} (ha : 0 ≤ a) (hb : 0 ≤ b) {K5 : Int32 → Int32 → Int32 → SS → Option (Int32 × SS)} (hK5 : ∀ {y0 y1 y2 : Int32} {S U : SS} {r : Int32}, K5 y0 y1 y2 S = some (r, U) → Nn a b S U) {x1 : Int32} {x3 : Int32} {S U : SS} {r : Int32} (h : f_M_nextRunning_j62 K5 x1 x3 S = some (r, U)) : Nn a b S U := by
  rw [f_M_nextRunning_j62.eq_1] at h
  have n0 : Nn 0 0 S S := Nn.rf
  exact (n0.tr (k_M_nextRunning_j64 (a := a) (b := b) (by omega) (by omega) hK5 h)).le (by omega) (by omega)
theorem k_M_nextRunning_L5 : ∀ {n : Nat} {x1 : Int32} {x2 : Int32} {x3 : Int32} {S U : SS} {r : Int32}, f_M_nextRunning_L5 n x1 x2 x3 S = some (r, U) → Nn 0 0 S U := by
  intro n
  induction n with
  | zero =>
    intro x1 x2 x3 S U r h
    rw [f_M_nextRunning_L5.eq_1] at h
    cases h
  | succ n ih =>
    intro x1 x2 x3 S U r h
    rw [f_M_nextRunning_L5.eq_2] at h
    have n0 : Nn 0 0 S S := Nn.rf
    rcases ite_or h with h | h
    · have h := some_2 h
      subst h
      exact n0.le (by omega) (by omega)
    · replace h := (grd_t h).2
      rcases ite_or h with h | h
      · exact (n0.tr (k_M_nextRunning_j64 (a := 0) (b := 0) (by omega) (by omega) (fun h => ih h) h)).le (by omega) (by omega)
      · replace h := (grd_t h).2
        rcases ite_or h with h | h
        · exact (n0.tr (k_M_nextRunning_j64 (a := 0) (b := 0) (by omega) (by omega) (fun h => ih h) h)).le (by omega) (by omega)
        · replace h := (grd_t h).2
          rcases ite_or h with h | h
          · exact (n0.tr (k_M_nextRunning_j64 (a := 0) (b := 0) (by omega) (by omega) (fun h => ih h) h)).le (by omega) (by omega)
          · rcases ite_or h with h | h
            · exact (n0.tr (k_M_nextRunning_j62 (a := 0) (b := 0) (by omega) (by omega) (fun h => ih h) h)).le (by omega) (by omega)
            · replace h := (grd_t h).2
              replace h := (grd_t h).2
              rcases ite_or h with h | h
              · exact (n0.tr (k_M_nextRunning_j64 (a := 0) (b := 0) (by omega) (by omega) (fun h => ih h) h)).le (by omega) (by omega)
              · exact (n0.tr (k_M_nextRunning_j62 (a := 0) (b := 0) (by omega) (by omega) (fun h => ih h) h)).le (by omega) (by omega)
theorem k_M_nextRunning {a1 : Int32} {S U : SS} {r : Int32} (h : f_M_nextRunning a1 S = some (r, U)) : Nn 0 0 S U := by
  rw [f_M_nextRunning.eq_1] at h
  have n0 : Nn 0 0 S S := Nn.rf
  exact (n0.tr (k_M_nextRunning_L5 h)).le (by omega) (by omega)
theorem k_M_part_j45 {x1 : Int32} {x2 : Int32} {y0 : Int32} {S U : SS} {r : Int32} (h : f_M_part_j45 x1 x2 y0 S = some (r, U)) : Nn 1 0 S U := by
  rw [f_M_part_j45.eq_1] at h
  have n0 : Nn 0 0 S S := Nn.rf
  obtain ⟨_, S1, hc1, h⟩ := bnd_t h
  have n1 := n0.tr (k_M_ends hc1)
  rcases ite_or h with h | h
  · replace h := (grd_t h).2
    obtain ⟨_, h⟩ := nm_t h
    obtain ⟨_, S2, hc2, h⟩ := bnd_t h
    have n2 := n1.tr (k_M_sideTo hc2)
    replace h := (grd_t h).2
    obtain ⟨S3, e3, h⟩ := wr_t h
    have n3 := n2.tr (nn_st e3 (by decide))
    replace h := (grd_t h).2
    obtain ⟨S4, e4, h⟩ := wr_t h
    have n4 := n3.tr (nn_st e4 (by decide))
    obtain ⟨S5, hc5, h⟩ := bndv_t h
    have n5 := n4.tr (k_M_renumber hc5)
    obtain ⟨S6, hc6, h⟩ := bndv_t h
    have n6 := n5.tr (k_M_renumber hc6)
    obtain ⟨_, S7, hc7, h⟩ := bnd_t h
    have n7 := n6.tr (k_M_entered hc7)
    have h := some_2 h
    subst h
    exact n7.le (by omega) (by omega)
  · obtain ⟨_, S8, hc8, h⟩ := bnd_t h
    have n8 := n1.tr (k_M_entered hc8)
    have h := some_2 h
    subst h
    exact n8.le (by omega) (by omega)
theorem k_M_part {a1 : Int32} {a2 : Int32} {S U : SS} {r : Int32} (h : f_M_part a1 a2 S = some (r, U)) : Nn 1 0 S U := by
  rw [f_M_part.eq_1] at h
  have n0 : Nn 0 0 S S := Nn.rf
  obtain ⟨S1, hc1, h⟩ := bndv_t h
  have n1 := n0.tr (k_M_begin hc1)
  obtain ⟨S2, hc2, h⟩ := bndv_t h
  have n2 := n1.tr (k_M_keep hc2)
  obtain ⟨_, S3, hc3, h⟩ := bnd_t h
  have n3 := n2.tr (k_M_missSide hc3)
  rcases ite_or h with h | h
  · replace h := (grd_t h).2
    rcases ite_or h with h | h
    · exact (n3.tr (k_M_part_j45 h)).le (by omega) (by omega)
    · exact (n3.tr (k_M_part_j45 h)).le (by omega) (by omega)
  · exact (n3.tr (k_M_part_j45 h)).le (by omega) (by omega)
theorem k_M_perAxle_j27 {x1 : Int32} {x2 : Int32} {y0 : Int32} {S U : SS} {r : Int32} (h : f_M_perAxle_j27 x1 x2 y0 S = some (r, U)) : Nn 0 0 S U := by
  rw [f_M_perAxle_j27.eq_1] at h
  have n0 : Nn 0 0 S S := Nn.rf
  replace h := (grd_t h).2
  obtain ⟨S1, e1, h⟩ := wr_t h
  have n1 := n0.tr (nn_0 e1 (by decide) (by decide))
  rcases ite_or h with h | h
  · replace h := (grd_t h).2
    replace h := (grd_t h).2
    have h := some_2 h
    subst h
    exact n1.le (by omega) (by omega)
  · have h := some_2 h
    subst h
    exact n1.le (by omega) (by omega)
theorem k_M_perAxle {a1 : Int32} {S U : SS} {r : Int32} (h : f_M_perAxle a1 S = some (r, U)) : Nn 0 0 S U := by
  rw [f_M_perAxle.eq_1] at h
  have n0 : Nn 0 0 S S := Nn.rf
  obtain ⟨S1, hc1, h⟩ := bndv_t h
  have n1 := n0.tr (k_M_note hc1)
  obtain ⟨_, S2, hc2, h⟩ := bnd_t h
  have n2 := n1.tr (k_M_weight hc2)
  replace h := (grd_t h).2
  rcases ite_or h with h | h
  · exact (n2.tr (k_M_perAxle_j27 h)).le (by omega) (by omega)
  · exact (n2.tr (k_M_perAxle_j27 h)).le (by omega) (by omega)
theorem k_M_pull_L53 : ∀ {n : Nat} {x3 : Int32} {x4 : Int32} {S U : SS} {r : Int32}, f_M_pull_L53 n x3 x4 S = some (r, U) → Nn 1 0 S U := by
  intro n
  induction n with
  | zero =>
    intro x3 x4 S U r h
    rw [f_M_pull_L53.eq_1] at h
    cases h
  | succ n ih =>
    intro x3 x4 S U r h
    rw [f_M_pull_L53.eq_2] at h
    have n0 : Nn 0 0 S S := Nn.rf
    rcases ite_or h with h | h
    · obtain ⟨_, S1, hc1, h⟩ := bnd_t h
      have n1 := n0.tr (k_M_entered hc1)
      have h := some_2 h
      subst h
      exact n1.le (by omega) (by omega)
    · obtain ⟨_, S2, hc2, h⟩ := bnd_t h
      have n2 := n0.tr (k_M_missStep hc2)
      obtain ⟨_, S3, hc3, h⟩ := bnd_t h
      have n3 := n2.tr (k_M_ends hc3)
      rcases ite_or h with h | h
      · obtain ⟨S4, hc4, h⟩ := bndv_t h
        have n4 := n3.tr (k_M_goOn hc4)
        obtain ⟨S5, e5, h⟩ := wr_t h
        have n5 := n4.tr (nn_0 e5 (by decide) (by decide))
        obtain ⟨_, h⟩ := nm_t h
        exact (n5.tr (ih h)).le (by omega) (by omega)
      · obtain ⟨_, S6, hc6, h⟩ := bnd_t h
        have n6 := n3.tr (k_M_entered hc6)
        have h := some_2 h
        subst h
        exact n6.le (by omega) (by omega)
theorem k_M_pull {a1 : Int32} {a2 : Int32} {a3 : Int32} {S U : SS} {r : Int32} (h : f_M_pull a1 a2 a3 S = some (r, U)) : Nn 1 0 S U := by
  rw [f_M_pull.eq_1] at h
  have n0 : Nn 0 0 S S := Nn.rf
  rcases ite_or h with h | h
  · have h := some_2 h
    subst h
    exact n0.le (by omega) (by omega)
  · rcases ite_or h with h | h
    · obtain ⟨S1, hc1, h⟩ := bndv_t h
      have n1 := n0.tr (k_M_begin hc1)
      obtain ⟨S2, hc2, h⟩ := bndv_t h
      have n2 := n1.tr (k_M_keep hc2)
      obtain ⟨_, S3, hc3, h⟩ := bnd_t h
      have n3 := n2.tr (k_M_missPull hc3)
      obtain ⟨_, S4, hc4, h⟩ := bnd_t h
      have n4 := n3.tr (k_M_ends hc4)
      rcases ite_or h with h | h
      · obtain ⟨S5, hc5, h⟩ := bndv_t h
        have n5 := n4.tr (k_M_follow hc5)
        exact (n5.tr (k_M_pull_L53 h)).le (by omega) (by omega)
      · obtain ⟨_, S6, hc6, h⟩ := bnd_t h
        have n6 := n4.tr (k_M_entered hc6)
        have h := some_2 h
        subst h
        exact n6.le (by omega) (by omega)
    · have h := some_2 h
      subst h
      exact n0.le (by omega) (by omega)
theorem k_M_stop {a1 : Int32} {S U : SS} (h : f_M_stop a1 S = some U) : Nn 0 0 S U := by
  rw [f_M_stop.eq_1] at h
  have n0 : Nn 0 0 S S := Nn.rf
  replace h := (grd_t h).2
  obtain ⟨S1, e1, h⟩ := wr_t h
  have n1 := n0.tr (nn_st e1 (by decide))
  replace h := (grd_t h).2
  obtain ⟨S2, e2, h⟩ := wr_t h
  have n2 := n1.tr (nn_st e2 (by decide))
  have h := some_1 h
  subst h
  exact n2.le (by omega) (by omega)
theorem k_M_run_j109 {x1 : Int32} {S U : SS} (h : f_M_run_j109 x1 S = some U) : Nn 0 0 S U := by
  rw [f_M_run_j109.eq_1] at h
  have n0 : Nn 0 0 S S := Nn.rf
  replace h := (grd_t h).2
  replace h := (grd_t h).2
  obtain ⟨S1, e1, h⟩ := wr_t h
  have n1 := n0.tr (nn_st e1 (by decide))
  replace h := (grd_t h).2
  rcases ite_or h with h | h
  · obtain ⟨S2, hc2, h⟩ := bndv_t h
    have n2 := n1.tr (k_M_stop hc2)
    have h := some_1 h
    subst h
    exact n2.le (by omega) (by omega)
  · have h := some_1 h
    subst h
    exact n1.le (by omega) (by omega)
theorem k_M_run_j80 {x1 : Int32} {x2 : Int32} {S U : SS} (h : f_M_run_j80 x1 x2 S = some U) : Nn 0 0 S U := by
  rw [f_M_run_j80.eq_1] at h
  have n0 : Nn 0 0 S S := Nn.rf
  rcases ite_or h with h | h
  · replace h := (grd_t h).2
    obtain ⟨S1, hc1, h⟩ := bndv_t h
    have n1 := n0.tr (k_M_place hc1)
    exact (n1.tr (k_M_run_j109 h)).le (by omega) (by omega)
  · exact (n0.tr (k_M_run_j109 h)).le (by omega) (by omega)
theorem k_M_run {a1 : Int32} {S U : SS} (h : f_M_run a1 S = some U) : Nn 0 0 S U := by
  rw [f_M_run.eq_1] at h
  have n0 : Nn 0 0 S S := Nn.rf
  replace h := (grd_t h).2
  replace h := (grd_t h).2
  replace h := (grd_t h).2
  obtain ⟨_, S1, hc1, h⟩ := bnd_t h
  have n1 := n0.tr (k_M_wayOf hc1)
  obtain ⟨_, S2, hc2, h⟩ := bnd_t h
  have n2 := n1.tr (k_M_isOpen hc2)
  rcases ite_or h with h | h
  · obtain ⟨S3, hc3, h⟩ := bndv_t h
    have n3 := n2.tr (k_M_stop hc3)
    have h := some_1 h
    subst h
    exact n3.le (by omega) (by omega)
  · obtain ⟨_, S4, hc4, h⟩ := bnd_t h
    have n4 := n2.tr (k_M_standing hc4)
    rcases ite_or h with h | h
    · exact (n4.tr (k_M_run_j80 h)).le (by omega) (by omega)
    · replace h := (grd_t h).2
      rcases ite_or h with h | h
      · obtain ⟨S5, hc5, h⟩ := bndv_t h
        have n5 := n4.tr (k_M_stop hc5)
        obtain ⟨S6, e6, h⟩ := wr_t h
        have n6 := n5.tr (nn_0 e6 (by decide) (by decide))
        have h := some_1 h
        subst h
        exact n6.le (by omega) (by omega)
      · exact (n4.tr (k_M_run_j80 h)).le (by omega) (by omega)
theorem k_M_running_j36 {a b : Nat} (ha : 0 ≤ a) (hb : 0 ≤ b) {K4 : Int32 → Int32 → SS → Option (Int32 × SS)} (hK4 : ∀ {y0 y1 : Int32} {S U : SS} {r : Int32}, K4 y0 y1 S = some (r, U) → Nn a b S U) {x2 : Int32} {y0 : Int32} {y1 : Int32} {S U : SS} {r : Int32} (h : f_M_running_j36 K4 x2 y0 y1 S = some (r, U)) : Nn a b S U := by
  rw [f_M_running_j36.eq_1] at h
  have n0 : Nn 0 0 S S := Nn.rf
  obtain ⟨_, h⟩ := nm_t h
  obtain ⟨_, h⟩ := nm_t h
  exact (n0.tr (hK4 h)).le (by omega) (by omega)
theorem k_M_running_j35 {a b : Nat} (ha : 0 ≤ a) (hb : 0 ≤ b) {K4 : Int32 → Int32 → SS → Option (Int32 × SS)} (hK4 : ∀ {y0 y1 : Int32} {S U : SS} {r : Int32}, K4 y0 y1 S = some (r, U) → Nn a b S U) {x2 : Int32} {y0 : Int32} {S U : SS} {r : Int32} (h : f_M_running_j35 K4 x2 y0 S = some (r, U)) : Nn a b S U := by
  rw [f_M_running_j35.eq_1] at h
  have n0 : Nn 0 0 S S := Nn.rf
  exact (n0.tr (k_M_running_j36 (a := a) (b := b) (by omega) (by omega) hK4 h)).le (by omega) (by omega)
theorem k_M_running_L4 : ∀ {n : Nat} {x1 : Int32} {x2 : Int32} {S U : SS} {r : Int32}, f_M_running_L4 n x1 x2 S = some (r, U) → Nn 0 0 S U := by
  intro n
  induction n with
  | zero =>
    intro x1 x2 S U r h
    rw [f_M_running_L4.eq_1] at h
    cases h
  | succ n ih =>
    intro x1 x2 S U r h
    rw [f_M_running_L4.eq_2] at h
    have n0 : Nn 0 0 S S := Nn.rf
    rcases ite_or h with h | h
    · have h := some_2 h
      subst h
      exact n0.le (by omega) (by omega)
    · replace h := (grd_t h).2
      rcases ite_or h with h | h
      · exact (n0.tr (k_M_running_j35 (a := 0) (b := 0) (by omega) (by omega) (fun h => ih h) h)).le (by omega) (by omega)
      · replace h := (grd_t h).2
        rcases ite_or h with h | h
        · exact (n0.tr (k_M_running_j35 (a := 0) (b := 0) (by omega) (by omega) (fun h => ih h) h)).le (by omega) (by omega)
        · exact (n0.tr (k_M_running_j36 (a := 0) (b := 0) (by omega) (by omega) (fun h => ih h) h)).le (by omega) (by omega)
theorem k_M_running {S U : SS} {r : Int32} (h : f_M_running S = some (r, U)) : Nn 0 0 S U := by
  rw [f_M_running.eq_1] at h
  have n0 : Nn 0 0 S S := Nn.rf
  exact (n0.tr (k_M_running_L4 h)).le (by omega) (by omega)
theorem k_M_step_L30 {a b : Nat} (ha : 0 ≤ a) (hb : 0 ≤ b) {K19 : Int32 → Int32 → SS → Option (Int32 × SS)} (hK19 : ∀ {y0 y1 : Int32} {S U : SS} {r : Int32}, K19 y0 y1 S = some (r, U) → Nn a b S U) : ∀ {n : Nat} {x1 : Int32} {x2 : Int32} {x3 : Int32} {S U : SS} {r : Int32}, f_M_step_L30 K19 n x1 x2 x3 S = some (r, U) → Nn a b S U := by
  intro n
  induction n with
  | zero =>
    intro x1 x2 x3 S U r h
    rw [f_M_step_L30.eq_1] at h
    cases h
  | succ n ih =>
    intro x1 x2 x3 S U r h
    rw [f_M_step_L30.eq_2] at h
    have n0 : Nn 0 0 S S := Nn.rf
    rcases ite_or h with h | h
    · obtain ⟨_, h⟩ := nm_t h
      exact (n0.tr (hK19 h)).le (by omega) (by omega)
    · replace h := (grd_t h).2
      obtain ⟨_, h⟩ := nm_t h
      obtain ⟨S1, hc1, h⟩ := bndv_t h
      have n1 := n0.tr (k_M_run hc1)
      obtain ⟨_, S2, hc2, h⟩ := bnd_t h
      have n2 := n1.tr (k_M_nextRunning hc2)
      exact (n2.tr (ih h)).le (by omega) (by omega)
theorem k_M_step_L19 : ∀ {n : Nat} {x1 : Int32} {x2 : Int32} {S U : SS} {r : Int32}, f_M_step_L19 n x1 x2 S = some (r, U) → Nn 1 0 S U := by
  intro n
  induction n with
  | zero =>
    intro x1 x2 S U r h
    rw [f_M_step_L19.eq_1] at h
    cases h
  | succ n ih =>
    intro x1 x2 S U r h
    rw [f_M_step_L19.eq_2] at h
    have n0 : Nn 0 0 S S := Nn.rf
    rcases ite_or h with h | h
    · obtain ⟨_, S1, hc1, h⟩ := bnd_t h
      have n1 := n0.tr (k_M_running hc1)
      obtain ⟨_, S2, hc2, h⟩ := bnd_t h
      have n2 := n1.tr (k_M_entered hc2)
      have h := some_2 h
      subst h
      exact n2.le (by omega) (by omega)
    · obtain ⟨_, S3, hc3, h⟩ := bnd_t h
      have n3 := n0.tr (k_M_nextRunning hc3)
      exact (n3.tr (k_M_step_L30 (a := 1) (b := 0) (by omega) (by omega) (fun h => ih h) h)).le (by omega) (by omega)
theorem k_M_step {a1 : Int32} {S U : SS} {r : Int32} (h : f_M_step a1 S = some (r, U)) : Nn 1 0 S U := by
  rw [f_M_step.eq_1] at h
  have n0 : Nn 0 0 S S := Nn.rf
  rcases ite_or h with h | h
  · have h := some_2 h
    subst h
    exact n0.le (by omega) (by omega)
  · rcases ite_or h with h | h
    · obtain ⟨S1, hc1, h⟩ := bndv_t h
      have n1 := n0.tr (k_M_keep hc1)
      exact (n1.tr (k_M_step_L19 h)).le (by omega) (by omega)
    · have h := some_2 h
      subst h
      exact n0.le (by omega) (by omega)
theorem k_M_test_j150 {a b : Nat} (ha : 0 ≤ a) (hb : 0 ≤ b) {K119 : Int32 → Int32 → SS → Option (Int32 × SS)} (hK119 : ∀ {y0 y1 : Int32} {S U : SS} {r : Int32}, K119 y0 y1 S = some (r, U) → Nn a b S U) {x2 : Int32} {x3 : Int32} {y0 : Int32} {y1 : Int32} {S U : SS} {r : Int32} (h : f_M_test_j150 K119 x2 x3 y0 y1 S = some (r, U)) : Nn a b S U := by
  rw [f_M_test_j150.eq_1] at h
  have n0 : Nn 0 0 S S := Nn.rf
  replace h := (grd_t h).2
  obtain ⟨S1, e1, h⟩ := wr_t h
  have n1 := n0.tr (nn_st e1 (by decide))
  obtain ⟨_, h⟩ := nm_t h
  exact (n1.tr (hK119 h)).le (by omega) (by omega)
theorem k_M_test_L119 : ∀ {n : Nat} {x2 : Int32} {x3 : Int32} {S U : SS} {r : Int32}, f_M_test_L119 n x2 x3 S = some (r, U) → Nn 1 0 S U := by
  intro n
  induction n with
  | zero =>
    intro x2 x3 S U r h
    rw [f_M_test_L119.eq_1] at h
    cases h
  | succ n ih =>
    intro x2 x3 S U r h
    rw [f_M_test_L119.eq_2] at h
    have n0 : Nn 0 0 S S := Nn.rf
    rcases ite_or h with h | h
    · obtain ⟨_, S1, hc1, h⟩ := bnd_t h
      have n1 := n0.tr (k_M_entered hc1)
      have h := some_2 h
      subst h
      exact n1.le (by omega) (by omega)
    · replace h := (grd_t h).2
      rcases ite_or h with h | h
      · exact (n0.tr (k_M_test_j150 (a := 1) (b := 0) (by omega) (by omega) (fun h => ih h) h)).le (by omega) (by omega)
      · exact (n0.tr (k_M_test_j150 (a := 1) (b := 0) (by omega) (by omega) (fun h => ih h) h)).le (by omega) (by omega)
theorem k_M_test_j109 {a b : Nat} (ha : 0 ≤ a) (hb : 0 ≤ b) {K39 : Int32 → Int32 → SS → Option (Int32 × SS)} (hK39 : ∀ {y0 y1 : Int32} {S U : SS} {r : Int32}, K39 y0 y1 S = some (r, U) → Nn a b S U) {x3 : Int32} {y0 : Int32} {y1 : Int32} {S U : SS} {r : Int32} (h : f_M_test_j109 K39 x3 y0 y1 S = some (r, U)) : Nn a b S U := by
  rw [f_M_test_j109.eq_1] at h
  have n0 : Nn 0 0 S S := Nn.rf
  obtain ⟨_, h⟩ := nm_t h
  obtain ⟨_, h⟩ := nm_t h
  exact (n0.tr (hK39 h)).le (by omega) (by omega)
theorem k_M_test_L39 : ∀ {n : Nat} {x2 : Int32} {x3 : Int32} {S U : SS} {r : Int32}, f_M_test_L39 n x2 x3 S = some (r, U) → Nn 1 0 S U := by
  intro n
  induction n with
  | zero =>
    intro x2 x3 S U r h
    rw [f_M_test_L39.eq_1] at h
    cases h
  | succ n ih =>
    intro x2 x3 S U r h
    rw [f_M_test_L39.eq_2] at h
    have n0 : Nn 0 0 S S := Nn.rf
    rcases ite_or h with h | h
    · exact (n0.tr (k_M_test_L119 h)).le (by omega) (by omega)
    · replace h := (grd_t h).2
      obtain ⟨_, S1, hc1, h⟩ := bnd_t h
      have n1 := n0.tr (k_M_brake hc1)
      replace h := (grd_t h).2
      obtain ⟨_, S2, hc2, h⟩ := bnd_t h
      have n2 := n1.tr (k_M_perAxle hc2)
      rcases ite_or h with h | h
      · rcases ite_or h with h | h
        · exact (n2.tr (k_M_test_j109 (a := 1) (b := 0) (by omega) (by omega) (fun h => ih h) h)).le (by omega) (by omega)
        · exact (n2.tr (k_M_test_j109 (a := 1) (b := 0) (by omega) (by omega) (fun h => ih h) h)).le (by omega) (by omega)
      · obtain ⟨_, S3, hc3, h⟩ := bnd_t h
        have n3 := n2.tr (k_M_found hc3)
        obtain ⟨_, S4, hc4, h⟩ := bnd_t h
        have n4 := n3.tr (k_M_entered hc4)
        have h := some_2 h
        subst h
        exact n4.le (by omega) (by omega)
theorem k_M_test {a1 : Int32} {S U : SS} {r : Int32} (h : f_M_test a1 S = some (r, U)) : Nn 1 0 S U := by
  rw [f_M_test.eq_1] at h
  have n0 : Nn 0 0 S S := Nn.rf
  obtain ⟨S1, hc1, h⟩ := bndv_t h
  have n1 := n0.tr (k_M_begin hc1)
  obtain ⟨S2, hc2, h⟩ := bndv_t h
  have n2 := n1.tr (k_M_keep hc2)
  obtain ⟨_, S3, hc3, h⟩ := bnd_t h
  have n3 := n2.tr (k_M_missThing hc3)
  obtain ⟨_, S4, hc4, h⟩ := bnd_t h
  have n4 := n3.tr (k_M_ends hc4)
  rcases ite_or h with h | h
  · obtain ⟨S5, hc5, h⟩ := bndv_t h
    have n5 := n4.tr (k_M_lineUp hc5)
    exact (n5.tr (k_M_test_L39 h)).le (by omega) (by omega)
  · obtain ⟨_, S6, hc6, h⟩ := bnd_t h
    have n6 := n4.tr (k_M_entered hc6)
    have h := some_2 h
    subst h
    exact n6.le (by omega) (by omega)
theorem k_M_turn {a1 : Int32} {a2 : Int32} {S U : SS} {r : Int32} (h : f_M_turn a1 a2 S = some (r, U)) : Nn 1 0 S U := by
  rw [f_M_turn.eq_1] at h
  have n0 : Nn 0 0 S S := Nn.rf
  obtain ⟨S1, hc1, h⟩ := bndv_t h
  have n1 := n0.tr (k_M_begin hc1)
  obtain ⟨S2, hc2, h⟩ := bndv_t h
  have n2 := n1.tr (k_M_keep hc2)
  obtain ⟨_, S3, hc3, h⟩ := bnd_t h
  have n3 := n2.tr (k_M_missTurn hc3)
  obtain ⟨_, S4, hc4, h⟩ := bnd_t h
  have n4 := n3.tr (k_M_ends hc4)
  rcases ite_or h with h | h
  · replace h := (grd_t h).2
    obtain ⟨_, h⟩ := nm_t h
    replace h := (grd_t h).2
    obtain ⟨S5, e5, h⟩ := wr_t h
    have n5 := n4.tr (nn_st e5 (by decide))
    obtain ⟨_, S6, hc6, h⟩ := bnd_t h
    have n6 := n5.tr (k_M_entered hc6)
    have h := some_2 h
    subst h
    exact n6.le (by omega) (by omega)
  · obtain ⟨_, S7, hc7, h⟩ := bnd_t h
    have n7 := n4.tr (k_M_entered hc7)
    have h := some_2 h
    subst h
    exact n7.le (by omega) (by omega)
end
section
/-! ===== what holds between calls ===== -/
/-- rows and fields that a call must leave for RP and CQ to stay by themselves -/
def nR (L : List Nat) (F : List (Nat × Nat)) (k : Nat) : Bool := L.all (fun j => !(Nat.beq j k)) && F.all (fun p => !(Nat.beq p.1 k))
def nF (L : List Nat) (F : List (Nat × Nat)) (k i : Nat) : Bool := L.all (fun j => !(Nat.beq j k)) && F.all (fun p => !(Nat.beq p.1 k && Nat.beq p.2 i))
theorem nF_wm {L : List Nat} {F : List (Nat × Nat)} {k i : Nat} (h : nF L F k i = true) : wm L F k i = false := by
  simp only [nF, Bool.and_eq_true, List.all_eq_true, Bool.not_eq_true'] at h
  simp only [wm, Bool.or_eq_false_iff, List.any_eq_false]
  refine ⟨fun x hx e => ?_, fun x hx e => ?_⟩
  · rw [h.1 x hx] at e; cases e
  · rw [h.2 x hx] at e; cases e
theorem nR_wm {L : List Nat} {F : List (Nat × Nat)} {k : Nat} (h : nR L F k = true) (i : Nat) : wm L F k i = false := by
  simp only [nR, Bool.and_eq_true, List.all_eq_true, Bool.not_eq_true'] at h
  simp only [wm, Bool.or_eq_false_iff, List.any_eq_false, Bool.and_eq_true]
  refine ⟨fun x hx e => ?_, fun x hx e => ?_⟩
  · rw [h.1 x hx] at e; cases e
  · rw [h.2 x hx] at e; cases e.1
def oRP (L : List Nat) (F : List (Nat × Nat)) : Bool := [46, 47, 48, 49, 50, 54, 55, 56].all (nR L F) && nF L F 0 76 && nF L F 0 77 && nF L F 0 81
def oCQ (L : List Nat) (F : List (Nat × Nat)) : Bool := [109, 110, 111, 114, 116, 119, 120].all (nR L F) && nF L F 71 5 && nF L F 71 6 && nF L F 71 7
theorem RP.k {S U : SS} {L : List Nat} {F : List (Nat × Nat)} (h : RP S) (g : F1 L F S U) (e : oRP L F = true) : RP U := by
  simp only [oRP, Bool.and_eq_true] at e
  obtain ⟨⟨⟨e1, e2⟩, e3⟩, e4⟩ := e
  have e1 := List.all_eq_true.mp e1
  exact h.of (fun k hk i => g k i (nR_wm (e1 k hk) i)) (g 0 76 (nF_wm e2)) (g 0 77 (nF_wm e3)) (g 0 81 (nF_wm e4))
theorem CQ.k {S U : SS} {G : Nat} {L : List Nat} {F : List (Nat × Nat)} (h : CQ S G) (g : Fr L F S U) (e : oCQ L F = true) : CQ U G := by
  simp only [oCQ, Bool.and_eq_true] at e
  obtain ⟨⟨⟨e1, e2⟩, e3⟩, e4⟩ := e
  have e1 := List.all_eq_true.mp e1
  exact h.fr g (fun k hk i => nR_wm (e1 k (by
    simp only [List.mem_cons, List.mem_nil_iff, or_false] at hk ⊢
    omega)) i) (fun i => nR_wm (e1 114 (by decide)) i) ⟨nF_wm e2, nF_wm e3, nF_wm e4⟩
theorem CQ.G6 {S : SS} {G : Nat} (h : CQ S G) : G ≤ 6 := by
  rcases h.2 with ⟨h1, -⟩ | ⟨w, W, h1, h2, -⟩
  · omega
  · have := h2.2.1
    omega
theorem nn_fr {S U : SS} {L : List Nat} {F : List (Nat × Nat)} (g : F1 L F S U) (e1 : nF L F 0 62 = true) (e2 : nF L F 0 47 = true) : Nn 0 0 S U := by
  unfold Nn
  rw [g 0 62 (nF_wm e1), g 0 47 (nF_wm e2)]
  exact ⟨by omega, by omega⟩
/-- the base: both worlds within their ranges, the plans' parts, the counts -/
def Bs (k g : Nat) (S : SS) : Prop := WR S ∧ RP S ∧ (∃ G, CQ S G ∧ g ≤ G) ∧ (S.1 0 62).toInt ≤ k ∧ (S.1 0 47).toInt ≤ k
theorem Bs.gh {k g : Nat} {S : SS} (h : Bs k g S) (d : Nat) : Bs k g (gho S d) := by
  obtain ⟨h1, h2, ⟨G, h3, h4⟩, h5, h6⟩ := h
  exact ⟨h1, h2, ⟨G, h3.gho d, h4⟩, h5, h6⟩
theorem Bs.g6 {k g : Nat} {S : SS} (h : Bs k g S) : g ≤ 6 := by
  obtain ⟨-, -, ⟨G, h3, h4⟩, -⟩ := h
  have := h3.G6
  omega
theorem Bs.x62 {k g : Nat} {S : SS} (h : Bs k g S) (hk : k < 599) : rg (S.1 0 62) 0 599 := ⟨(ro_0_62 h.1).1, by have := h.2.2.2.1; omega⟩
theorem Bs.x47 {k g : Nat} {S : SS} (h : Bs k g S) (hk : k < 599) : rg (S.1 0 47) 0 599 := ⟨(ro_0_47 h.1).1, by have := h.2.2.2.2; omega⟩
/-- a call that leaves what the plans have -/
theorem Bs.st {k g a b : Nat} {S U : SS} {L : List Nat} {F : List (Nat × Nat)} (h : Bs k g S) (w : WR U) (f : Fr L F S U) (e : (oRP L F && oCQ L F) = true) (n : Nn a b S U) (ha : a ≤ 1) (hb : b ≤ 1) : Bs (k + 1) g U := by
  obtain ⟨h1, h2, ⟨G, h3, h4⟩, h5, h6⟩ := h
  rw [Bool.and_eq_true] at e
  have := n.1
  have := n.2
  exact ⟨w, h2.k f.f1 e.1, ⟨G, h3.k f e.2, h4⟩, by omega, by omega⟩
/-- a call of the class -/
theorem Bs.sc {k g : Nat} {S U : SS} {L : List Nat} {F : List (Nat × Nat)} (h : Bs k g S) (w : WR U) (f : Fr L F S U) (e : (oRP L F && oCQ L F && nF L F 0 62 && nF L F 0 47) = true) : Bs k g U := by
  obtain ⟨h1, h2, ⟨G, h3, h4⟩, h5, h6⟩ := h
  simp only [Bool.and_eq_true] at e
  have n := nn_fr f.f1 e.1.2 e.2
  have := n.1
  have := n.2
  exact ⟨w, h2.k f.f1 e.1.1.1, ⟨G, h3.k f e.1.1.2, h4⟩, by omega, by omega⟩
/-- a call of the reference's plan methods -/
theorem Bs.sp {k g : Nat} {S U : SS} {L : List Nat} {F : List (Nat × Nat)} (h : Bs k g S) (w : WR U) (r : RP U) (f : Fr L F S U) (e : (oCQ L F && nF L F 0 62 && nF L F 0 47) = true) : Bs (k + 1) g U := by
  obtain ⟨h1, h2, ⟨G, h3, h4⟩, h5, h6⟩ := h
  simp only [Bool.and_eq_true] at e
  have n := nn_fr f.f1 e.1.2 e.2
  have := n.1
  have := n.2
  exact ⟨w, r, ⟨G, h3.k f e.1.1, h4⟩, by omega, by omega⟩
/-- a call of the class's plan methods -/
theorem Bs.sq {k g g' G : Nat} {S U : SS} {L : List Nat} {F : List (Nat × Nat)} (h : Bs k g S) (w : WR U) (c : CQ U G) (hG : g' ≤ G) (f : F1 L F S U) (e : (oRP L F && nF L F 0 62 && nF L F 0 47) = true) : Bs k g' U := by
  obtain ⟨h1, h2, -, h5, h6⟩ := h
  simp only [Bool.and_eq_true] at e
  have n := nn_fr f e.1.2 e.2
  have := n.1
  have := n.2
  exact ⟨w, h2.k f e.1.1, ⟨G, c, hG⟩, by omega, by omega⟩
end
section
/-! ===== the first world has it ===== -/
theorem cdI {b : Bool} {p q : Prop} (hp : p) (hq : q) : cond b p q := by
  cases b
  · exact hq
  · exact hp
theorem o0_0 (i : Nat) : okO0 i 0 := cdI (rgl 0 0 200 rfl) (cdI (rgl 0 0 24 rfl) (cdI (rgl 0 0 40 rfl) (cdI (rgl 0 0 12 rfl) (cdI (rgl 0 0 23 rfl) (cdI (rgl 0 0 1 rfl) (cdI (rgl 0 0 72 rfl) (cdI (rgl 0 0 600 rfl) (cdI (rgl 0 0 1 rfl) (cdI (rgl 0 0 72 rfl) (cdI (rgl 0 0 1 rfl) (cdI (rgl 0 0 1 rfl) (cdI (rgl 0 0 8 rfl) (cdI (rgl 0 0 8 rfl) (cdI (rgl 0 0 600 rfl) (cdI (rgl 0 0 71 rfl) (cdI (rgl 0 0 1 rfl) (cdI (rgl 0 0 72 rfl) (cdI (rgl 0 0 399 rfl) (cdI (rgl 0 0 10 rfl) (trivial))))))))))))))))))))
theorem o0_62 (i : Nat) : okO62 i 0 := cdI (rgl 0 0 200 rfl) (trivial)
theorem o0_63 (i : Nat) : okO63 i 0 := cdI (rgl 0 0 72 rfl) (trivial)
theorem o0_64 (i : Nat) : okO64 i 0 := cdI (rgl 0 0 7 rfl) (cdI (rgl 0 0 39 rfl) (cdI (rgl 0 0 40 rfl) (cdI (rgl 0 0 8 rfl) (cdI (rgl 0 0 8 rfl) (trivial)))))
theorem o0_66 (i : Nat) : okO66 i 0 := cdI (rgl 0 0 24 rfl) (cdI (rgl 0 0 40 rfl) (trivial))
theorem o0_67 (i : Nat) : okO67 i 0 := cdI (rgl 0 0 12 rfl) (trivial)
theorem o0_68 (i : Nat) : okO68 i 0 := cdI (rgl 0 0 72 rfl) (trivial)
theorem o0_70 (i : Nat) : okO70 i 0 := cdI (rgl 0 0 128 rfl) (trivial)
theorem o0_S (i : Nat) : okS i 0 := cdI (rgl 0 0 72 rfl) trivial
theorem o0_A (k i : Nat) : okA k i 0 := cdI (o0_0 i) (cdI (rgl 0 0 1 rfl) (cdI (Or.inr (rgl 0 0 39 rfl)) (cdI (rgl 0 0 3 rfl) (cdI (rgl 0 0 47 rfl) (cdI (rgl 0 0 47 rfl) (cdI (rgl 0 0 2 rfl) (cdI (rgl 0 0 8 rfl) (cdI (rgl 0 0 39 rfl) (cdI (rgl 0 0 2 rfl) (cdI (rgl 0 0 1 rfl) (cdI (rgl 0 0 1 rfl) (cdI (rgl 0 0 23 rfl) (cdI (rgl 0 0 1 rfl) (cdI (Or.inr (rgl 0 0 71 rfl)) (cdI (rgl 0 0 50 rfl) (cdI (rgl 0 0 9 rfl) (cdI (rgl 0 0 8 rfl) (cdI (rgl 0 0 100 rfl) (cdI (rgl 0 0 1 rfl) (cdI (rgl 0 0 600 rfl) (cdI (rgl 0 0 1 rfl) (cdI (Or.inr (rgl 0 0 20 rfl)) (cdI (rgl 0 0 120 rfl) (cdI (rgl 0 0 71 rfl) (cdI (rgl 0 0 2 rfl) (cdI (rgl 0 0 71 rfl) (cdI (rgl 0 0 1 rfl) (cdI (rgl 0 0 10 rfl) (cdI (rgl 0 0 10 rfl) (cdI (rgl 0 0 9 rfl) (cdI (rgl 0 0 10 rfl) (cdI (rgl 0 0 9 rfl) (cdI (rgl 0 0 3 rfl) (cdI (rgl 0 0 3 rfl) (cdI (rgl 0 0 25919 rfl) (cdI (rgl 0 0 10 rfl) (cdI (rgl 0 0 25919 rfl) (trivial))))))))))))))))))))))))))))))))))))))
theorem o0_B (k i : Nat) : okB k i 0 := cdI (o0_62 i) (cdI (o0_63 i) (cdI (o0_64 i) (cdI (o0_66 i) (cdI (o0_67 i) (cdI (o0_68 i) (cdI (o0_70 i) (cdI (o0_S i) (cdI (o0_S i) (cdI (o0_S i) (cdI (o0_S i) (cdI (o0_S i) (cdI (o0_S i) (cdI (o0_S i) (cdI (o0_S i) (cdI (o0_S i) (cdI (rgl 0 0 3 rfl) (cdI (rgl 0 0 1 rfl) (cdI (rgl 0 0 8 rfl) (cdI (rgl 0 0 1 rfl) (cdI (rgl 0 0 10 rfl) (cdI (rgl 0 0 10 rfl) (cdI (rgl 0 0 10 rfl) (trivial)))))))))))))))))))))))
theorem ok_0 (k i : Nat) : ok k i 0 := cdI (o0_A k i) (o0_B k i)
theorem s0_0 : ∀ i, ok 0 i (S0.1 0 i)
  | 0 => trivial
  | 1 => trivial
  | 2 => trivial
  | 3 => trivial
  | 4 => trivial
  | 5 => rgl 0 0 200 rfl
  | 6 => trivial
  | 7 => rgl 0 0 24 rfl
  | 8 => trivial
  | 9 => trivial
  | 10 => trivial
  | 11 => trivial
  | 12 => trivial
  | 13 => trivial
  | 14 => trivial
  | 15 => rgl 0 0 40 rfl
  | 16 => trivial
  | 17 => trivial
  | 18 => trivial
  | 19 => rgl 0 0 12 rfl
  | 20 => trivial
  | 21 => trivial
  | 22 => trivial
  | 23 => trivial
  | 24 => trivial
  | 25 => trivial
  | 26 => rgl 0 0 23 rfl
  | 27 => trivial
  | 28 => rgl 0 0 1 rfl
  | 29 => rgl 0 0 72 rfl
  | 30 => trivial
  | 31 => trivial
  | 32 => trivial
  | 33 => trivial
  | 34 => trivial
  | 35 => trivial
  | 36 => trivial
  | 37 => trivial
  | 38 => trivial
  | 39 => trivial
  | 40 => trivial
  | 41 => trivial
  | 42 => trivial
  | 43 => trivial
  | 44 => trivial
  | 45 => trivial
  | 46 => trivial
  | 47 => rgl 0 0 600 rfl
  | 48 => trivial
  | 49 => trivial
  | 50 => trivial
  | 51 => trivial
  | 52 => trivial
  | 53 => trivial
  | 54 => rgl 0 0 1 rfl
  | 55 => trivial
  | 56 => rgl 0 0 72 rfl
  | 57 => rgl 0 0 1 rfl
  | 58 => rgl 0 0 1 rfl
  | 59 => trivial
  | 60 => rgl 0 0 8 rfl
  | 61 => rgl 0 0 8 rfl
  | 62 => rgl 0 0 600 rfl
  | 63 => trivial
  | 64 => trivial
  | 65 => trivial
  | 66 => rgl 0 0 71 rfl
  | 67 => rgl 0 0 1 rfl
  | 68 => trivial
  | 69 => trivial
  | 70 => rgl 0 0 72 rfl
  | 71 => trivial
  | 72 => trivial
  | 73 => trivial
  | 74 => trivial
  | 75 => trivial
  | 76 => trivial
  | 77 => rgl 0 0 399 rfl
  | 78 => trivial
  | 79 => trivial
  | 80 => trivial
  | 81 => rgl 0 0 10 rfl
  | 82 => trivial
  | 83 => trivial
  | 84 => trivial
  | 85 => trivial
  | 86 => trivial
  | 87 => trivial
  | 88 => trivial
  | n + 89 => ok_0 0 (n + 89)
theorem s0_5 (i : Nat) : ok 5 i (S0.1 5 i) := by
  show ok 5 i (if i < 48 then (-4 : Int32) else 0)
  by_cases c : i < 48
  · rw [if_pos c]; exact Or.inl rfl
  · rw [if_neg c]; exact ok_0 5 i
theorem s0_38 (i : Nat) : ok 38 i (S0.1 38 i) := by
  show ok 38 i (if i < 8 then (-4 : Int32) else 0)
  by_cases c : i < 8
  · rw [if_pos c]; exact trivial
  · rw [if_neg c]; exact ok_0 38 i
theorem s0_46 (i : Nat) : ok 46 i (S0.1 46 i) := by
  show ok 46 i (if i < 4 then (5 : Int32) else 0)
  by_cases c : i < 4
  · rw [if_pos c]; exact rgl 5 0 10 rfl
  · rw [if_neg c]; exact ok_0 46 i
theorem s0_61 : ∀ i, ok 61 i (S0.1 61 i)
  | 0 => trivial
  | 1 => trivial
  | 2 => trivial
  | 3 => trivial
  | 4 => trivial
  | 5 => trivial
  | 6 => trivial
  | 7 => trivial
  | 8 => trivial
  | 9 => trivial
  | 10 => trivial
  | n + 11 => ok_0 61 (n + 11)
theorem s0_62 : ∀ i, ok 62 i (S0.1 62 i)
  | 0 => trivial
  | 1 => trivial
  | 2 => rgl 0 0 200 rfl
  | 3 => trivial
  | 4 => trivial
  | 5 => trivial
  | 6 => trivial
  | n + 7 => ok_0 62 (n + 7)
theorem s0_63 : ∀ i, ok 63 i (S0.1 63 i)
  | 0 => trivial
  | 1 => rgl 0 0 72 rfl
  | n + 2 => ok_0 63 (n + 2)
theorem s0_64 : ∀ i, ok 64 i (S0.1 64 i)
  | 0 => trivial
  | 1 => trivial
  | 2 => trivial
  | 3 => rgl 0 0 7 rfl
  | 4 => rgl 0 0 39 rfl
  | 5 => rgl 0 0 40 rfl
  | 6 => rgl 0 0 8 rfl
  | 7 => rgl 0 0 8 rfl
  | n + 8 => ok_0 64 (n + 8)
theorem s0_65 : ∀ i, ok 65 i (S0.1 65 i)
  | 0 => trivial
  | 1 => trivial
  | n + 2 => ok_0 65 (n + 2)
theorem s0_66 : ∀ i, ok 66 i (S0.1 66 i)
  | 0 => trivial
  | 1 => trivial
  | 2 => trivial
  | 3 => trivial
  | 4 => trivial
  | 5 => trivial
  | 6 => trivial
  | 7 => rgl 0 0 24 rfl
  | 8 => rgl 0 0 40 rfl
  | n + 9 => ok_0 66 (n + 9)
theorem s0_67 : ∀ i, ok 67 i (S0.1 67 i)
  | 0 => trivial
  | 1 => trivial
  | 2 => trivial
  | 3 => trivial
  | 4 => trivial
  | 5 => trivial
  | 6 => trivial
  | 7 => trivial
  | 8 => rgl 0 0 12 rfl
  | n + 9 => ok_0 67 (n + 9)
theorem s0_68 : ∀ i, ok 68 i (S0.1 68 i)
  | 0 => trivial
  | 1 => trivial
  | 2 => trivial
  | 3 => trivial
  | 4 => rgl 0 0 72 rfl
  | 5 => trivial
  | n + 6 => ok_0 68 (n + 6)
theorem s0_69 : ∀ i, ok 69 i (S0.1 69 i)
  | 0 => trivial
  | 1 => trivial
  | 2 => trivial
  | 3 => trivial
  | n + 4 => ok_0 69 (n + 4)
theorem s0_70 : ∀ i, ok 70 i (S0.1 70 i)
  | 0 => trivial
  | 1 => trivial
  | 2 => trivial
  | 3 => trivial
  | 4 => trivial
  | 5 => trivial
  | 6 => trivial
  | 7 => rgl 0 0 128 rfl
  | 8 => trivial
  | n + 9 => ok_0 70 (n + 9)
theorem s0_71 : ∀ i, ok 71 i (S0.1 71 i)
  | 0 => trivial
  | 1 => trivial
  | 2 => trivial
  | 3 => trivial
  | 4 => trivial
  | 5 => trivial
  | 6 => trivial
  | 7 => trivial
  | 8 => trivial
  | 9 => trivial
  | 10 => trivial
  | 11 => trivial
  | 12 => trivial
  | 13 => trivial
  | 14 => trivial
  | 15 => trivial
  | n + 16 => ok_0 71 (n + 16)
theorem s0_72 : ∀ i, ok 72 i (S0.1 72 i)
  | 0 => trivial
  | 1 => trivial
  | n + 2 => ok_0 72 (n + 2)
theorem s0_73 : ∀ i, ok 73 i (S0.1 73 i)
  | 0 => trivial
  | 1 => trivial
  | n + 2 => ok_0 73 (n + 2)
theorem s0_74 : ∀ i, ok 74 i (S0.1 74 i)
  | 0 => trivial
  | 1 => trivial
  | n + 2 => ok_0 74 (n + 2)
theorem s0_76 (i : Nat) : ok 76 i (S0.1 76 i) := by
  show ok 76 i (if i < 8 then (-4 : Int32) else 0)
  by_cases c : i < 8
  · rw [if_pos c]; exact trivial
  · rw [if_neg c]; exact ok_0 76 i
theorem s0_94 (i : Nat) : ok 94 i (S0.1 94 i) := by
  show ok 94 i (if i < 48 then (-4 : Int32) else 0)
  by_cases c : i < 48
  · rw [if_pos c]; exact trivial
  · rw [if_neg c]; exact ok_0 94 i
theorem s0_106 (i : Nat) : ok 106 i (S0.1 106 i) := by
  show ok 106 i (if i < 4 then (5 : Int32) else 0)
  by_cases c : i < 4
  · rw [if_pos c]; exact trivial
  · rw [if_neg c]; exact ok_0 106 i
set_option maxRecDepth 20000 in
set_option maxHeartbeats 4000000 in
theorem s0_RO : ∀ k i, ok k i (S0.1 k i)
  | 0, i => s0_0 i
  | 1, i => ok_0 1 i
  | 2, i => ok_0 2 i
  | 3, i => ok_0 3 i
  | 4, i => ok_0 4 i
  | 5, i => s0_5 i
  | 6, i => ok_0 6 i
  | 7, i => ok_0 7 i
  | 8, i => ok_0 8 i
  | 9, i => ok_0 9 i
  | 10, i => ok_0 10 i
  | 11, i => ok_0 11 i
  | 12, i => ok_0 12 i
  | 13, i => ok_0 13 i
  | 14, i => ok_0 14 i
  | 15, i => ok_0 15 i
  | 16, i => ok_0 16 i
  | 17, i => ok_0 17 i
  | 18, i => ok_0 18 i
  | 19, i => ok_0 19 i
  | 20, i => ok_0 20 i
  | 21, i => ok_0 21 i
  | 22, i => ok_0 22 i
  | 23, i => ok_0 23 i
  | 24, i => ok_0 24 i
  | 25, i => ok_0 25 i
  | 26, i => ok_0 26 i
  | 27, i => ok_0 27 i
  | 28, i => ok_0 28 i
  | 29, i => ok_0 29 i
  | 30, i => ok_0 30 i
  | 31, i => ok_0 31 i
  | 32, i => ok_0 32 i
  | 33, i => ok_0 33 i
  | 34, i => ok_0 34 i
  | 35, i => ok_0 35 i
  | 36, i => ok_0 36 i
  | 37, i => ok_0 37 i
  | 38, i => s0_38 i
  | 39, i => ok_0 39 i
  | 40, i => ok_0 40 i
  | 41, i => ok_0 41 i
  | 42, i => ok_0 42 i
  | 43, i => ok_0 43 i
  | 44, i => ok_0 44 i
  | 45, i => ok_0 45 i
  | 46, i => s0_46 i
  | 47, i => ok_0 47 i
  | 48, i => ok_0 48 i
  | 49, i => ok_0 49 i
  | 50, i => ok_0 50 i
  | 51, i => ok_0 51 i
  | 52, i => ok_0 52 i
  | 53, i => ok_0 53 i
  | 54, i => ok_0 54 i
  | 55, i => ok_0 55 i
  | 56, i => ok_0 56 i
  | 57, i => ok_0 57 i
  | 58, i => ok_0 58 i
  | 59, i => ok_0 59 i
  | 60, i => ok_0 60 i
  | 61, i => s0_61 i
  | 62, i => s0_62 i
  | 63, i => s0_63 i
  | 64, i => s0_64 i
  | 65, i => s0_65 i
  | 66, i => s0_66 i
  | 67, i => s0_67 i
  | 68, i => s0_68 i
  | 69, i => s0_69 i
  | 70, i => s0_70 i
  | 71, i => s0_71 i
  | 72, i => s0_72 i
  | 73, i => s0_73 i
  | 74, i => s0_74 i
  | 75, i => ok_0 75 i
  | 76, i => s0_76 i
  | 77, i => ok_0 77 i
  | 78, i => ok_0 78 i
  | 79, i => ok_0 79 i
  | 80, i => ok_0 80 i
  | 81, i => ok_0 81 i
  | 82, i => ok_0 82 i
  | 83, i => ok_0 83 i
  | 84, i => ok_0 84 i
  | 85, i => ok_0 85 i
  | 86, i => ok_0 86 i
  | 87, i => ok_0 87 i
  | 88, i => ok_0 88 i
  | 89, i => ok_0 89 i
  | 90, i => ok_0 90 i
  | 91, i => ok_0 91 i
  | 92, i => ok_0 92 i
  | 93, i => ok_0 93 i
  | 94, i => s0_94 i
  | 95, i => ok_0 95 i
  | 96, i => ok_0 96 i
  | 97, i => ok_0 97 i
  | 98, i => ok_0 98 i
  | 99, i => ok_0 99 i
  | 100, i => ok_0 100 i
  | 101, i => ok_0 101 i
  | 102, i => ok_0 102 i
  | 103, i => ok_0 103 i
  | 104, i => ok_0 104 i
  | 105, i => ok_0 105 i
  | 106, i => s0_106 i
  | 107, i => ok_0 107 i
  | 108, i => ok_0 108 i
  | 109, i => ok_0 109 i
  | 110, i => ok_0 110 i
  | 111, i => ok_0 111 i
  | 112, i => ok_0 112 i
  | 113, i => ok_0 113 i
  | 114, i => ok_0 114 i
  | 115, i => ok_0 115 i
  | 116, i => ok_0 116 i
  | 117, i => ok_0 117 i
  | 118, i => ok_0 118 i
  | 119, i => ok_0 119 i
  | 120, i => ok_0 120 i
  | 121, i => ok_0 121 i
  | 122, i => ok_0 122 i
  | 123, i => ok_0 123 i
  | 124, i => ok_0 124 i
  | 125, i => ok_0 125 i
  | 126, i => ok_0 126 i
  | 127, i => ok_0 127 i
  | k + 128, i => ok_0 (k + 128) i
theorem s0_WR : WR S0 := by
  refine ⟨s0_RO, ⟨0, by omega, rfl, ⟨fun _ => 0, fun _ => 0, fun _ => Nat.zero_lt_two, fun x s hx => by omega⟩, 0, 0, by omega, rfl, rfl, fun s hs => by omega, fun s hs => by omega⟩, ?_⟩
  show (0 : Int32).toInt + (0 : Int32).toInt ≤ 8
  decide
theorem s0_RP : RP S0 := by
  refine ⟨⟨fun s hs => ?_, fun s i s' i' hs hs' hi => ?_, fun s i s' i' hs hs' hi => ?_⟩, fun s hs => ?_, PI.no rfl⟩
  · show (0 : Int32).toInt ≤ (if s < 4 then (5 : Int32) else 0).toInt ∧ (0 : Int32).toInt ≤ (if s < 4 then (5 : Int32) else 0).toInt
    rw [if_pos hs]
    decide
  · have hi : (i : Int) < (0 : Int32).toInt := hi
    rw [show (0 : Int32).toInt = 0 by decide] at hi
    omega
  · have hi : (i : Int) < (0 : Int32).toInt := hi
    rw [show (0 : Int32).toInt = 0 by decide] at hi
    omega
  · show 1 ≤ (if s < 4 then (5 : Int32) else 0).toNatClampNeg
    rw [if_pos hs]
    decide
theorem s0_CQ : CQ S0 0 := ⟨⟨fun _ => Or.inr (rgl 0 0 4 rfl), fun _ => rgl 0 0 4 rfl, fun _ => rgl 0 0 4 rfl, fun _ => rgl 0 0 840 rfl, fun _ => Or.inr (rgl 0 0 19 rfl), fun _ => Or.inr (rgl 0 0 6720 rfl)⟩, Or.inl ⟨rfl, rfl, rfl, rfl, rfl⟩⟩
theorem s0_Bs : Bs 0 0 S0 := ⟨s0_WR, s0_RP, ⟨0, s0_CQ, by omega⟩, by show (0 : Int32).toInt ≤ ((0 : Nat) : Int); decide, by show (0 : Int32).toInt ≤ ((0 : Nat) : Int); decide⟩
end
section
/-! ===== each call keeps it ===== -/
theorem sc_0 {k g : Nat} {S : SS} {x : Nat → Int32} (h : Bs k g S) (hk : k < 512) : ∃ (d : Nat) (r1 r2 : Int32) (S1 S2 : SS), f_Yard_track (x (1)) (gho S d) = some (r1, S1) ∧ f_M_track (x (1)) S1 = some (r2, S2) ∧ Bs (k + 1) (g + d) S2 ∧ WR S1 ∧ F1 [77, 93] [(62, 2), (62, 3), (62, 4), (62, 5), (62, 6), (64, 6), (64, 7), (66, 7)] S S1 ∧ Fr [1, 3] [(0, 0), (0, 1), (0, 2), (0, 3), (0, 5), (0, 7), (0, 60), (0, 61)] S1 S2 := by
  have h0 := h.gh 0
  obtain ⟨r1, S1, e1, w1, f1, -⟩ := t_Yard_track (a1 := (x (1))) h0.1
  have h1 : Bs k g S1 := h0.sc w1 f1 rfl
  obtain ⟨r2, S2, e2, w2, f2, -⟩ := t_M_track (a1 := (x (1))) h1.1
  exact ⟨0, r1, r2, S1, S2, e1, e2, h1.st w2 f2 rfl (nn_fr f2.f1 rfl rfl) (by omega) (by omega), w1, (f1.f1), f2⟩
theorem sc_1 {k g : Nat} {S : SS} {x : Nat → Int32} (h : Bs k g S) (hk : k < 512) : ∃ (d : Nat) (r1 r2 : Int32) (S1 S2 : SS), f_Yard_point (x (1)) (x (2)) (gho S d) = some (r1, S1) ∧ f_M_point (x (1)) (x (2)) S1 = some (r2, S2) ∧ Bs (k + 1) (g + d) S2 ∧ WR S1 ∧ F1 [77, 79, 94, 95] [(62, 2), (62, 3), (62, 4), (62, 5), (62, 6), (64, 6), (64, 7), (66, 8)] S S1 ∧ Fr [1, 5, 9, 10, 11] [(0, 0), (0, 1), (0, 2), (0, 3), (0, 5), (0, 15), (0, 60), (0, 61)] S1 S2 := by
  have h0 := h.gh 0
  obtain ⟨r1, S1, e1, w1, f1, -⟩ := t_Yard_point (a1 := (x (1))) (a2 := (x (2))) h0.1
  have h1 : Bs k g S1 := h0.sc w1 f1 rfl
  obtain ⟨r2, S2, e2, w2, f2, -⟩ := t_M_point (a1 := (x (1))) (a2 := (x (2))) h1.1
  exact ⟨0, r1, r2, S1, S2, e1, e2, h1.st w2 f2 rfl (nn_fr f2.f1 rfl rfl) (by omega) (by omega), w1, (f1.f1), f2⟩
theorem sc_2 {k g : Nat} {S : SS} {x : Nat → Int32} (h : Bs k g S) (hk : k < 512) : ∃ (d : Nat) (r1 r2 : Int32) (S1 S2 : SS), f_Yard_link (x (1)) (x (2)) (x (3)) (x (4)) (gho S d) = some (r1, S1) ∧ f_M_link (x (1)) (x (2)) (x (3)) (x (4)) S1 = some (r2, S2) ∧ Bs (k + 1) (g + d) S2 ∧ WR S1 ∧ F1 [77, 96, 97] [(62, 2), (62, 3), (62, 4), (62, 5), (62, 6), (64, 6), (64, 7)] S S1 ∧ Fr [1, 6, 7, 8] [(0, 0), (0, 1), (0, 2), (0, 3), (0, 5), (0, 14), (0, 60), (0, 61)] S1 S2 := by
  have h0 := h.gh 0
  obtain ⟨r1, S1, e1, w1, f1, -⟩ := t_Yard_link (a1 := (x (1))) (a2 := (x (2))) (a3 := (x (3))) (a4 := (x (4))) h0.1
  have h1 : Bs k g S1 := h0.sc w1 f1 rfl
  obtain ⟨r2, S2, e2, w2, f2, -⟩ := t_M_link (a1 := (x (1))) (a2 := (x (2))) (a3 := (x (3))) (a4 := (x (4))) h1.1
  exact ⟨0, r1, r2, S1, S2, e1, e2, h1.st w2 f2 rfl (nn_fr f2.f1 rfl rfl) (by omega) (by omega), w1, (f1.f1), f2⟩
theorem sc_3 {k g : Nat} {S : SS} {x : Nat → Int32} (h : Bs k g S) (hk : k < 512) : ∃ (d : Nat) (r1 r2 : Int32) (S1 S2 : SS), f_Yard_exit (x (1)) (x (2)) ((if x (3) = 0 then (0 : Int32) else 1)) (gho S d) = some (r1, S1) ∧ f_M_exit (x (1)) (x (2)) ((if x (3) = 0 then (0 : Int32) else 1)) S1 = some (r2, S2) ∧ Bs (k + 1) (g + d) S2 ∧ WR S1 ∧ F1 [77, 98] [(62, 2), (62, 3), (62, 4), (62, 5), (62, 6), (64, 6), (64, 7)] S S1 ∧ Fr [1, 4] [(0, 0), (0, 1), (0, 2), (0, 3), (0, 5), (0, 60), (0, 61)] S1 S2 := by
  have h0 := h.gh 0
  obtain ⟨r1, S1, e1, w1, f1, -⟩ := t_Yard_exit (a1 := (x (1))) (a2 := (x (2))) (a3 := ((if x (3) = 0 then (0 : Int32) else 1))) h0.1
  have h1 : Bs k g S1 := h0.sc w1 f1 rfl
  obtain ⟨r2, S2, e2, w2, f2, -⟩ := t_M_exit (a1 := (x (1))) (a2 := (x (2))) (a3 := ((if x (3) = 0 then (0 : Int32) else 1))) h1.1
  exact ⟨0, r1, r2, S1, S2, e1, e2, h1.st w2 f2 rfl (nn_fr f2.f1 rfl rfl) (by omega) (by omega), w1, (f1.f1), f2⟩
theorem sc_4 {k g : Nat} {S : SS} {x : Nat → Int32} (h : Bs k g S) (hk : k < 512) : ∃ (d : Nat) (r1 r2 : Int32) (S1 S2 : SS), f_Yard_wagon (x (1)) (x (2)) (x (3)) (x (4)) (x (5)) (gho S d) = some (r1, S1) ∧ f_M_wagon (x (1)) (x (2)) (x (3)) (x (4)) (x (5)) S1 = some (r2, S2) ∧ Bs (k + 1) (g + d) S2 ∧ WR S1 ∧ F1 [77, 79, 91] [(62, 2), (62, 3), (62, 4), (62, 5), (62, 6), (63, 1), (64, 6), (64, 7), (68, 5)] S S1 ∧ Fr [1, 18, 19, 20, 21, 22, 23, 24, 25, 28, 29, 35] [(0, 0), (0, 1), (0, 2), (0, 3), (0, 5), (0, 29), (0, 49), (0, 60), (0, 61)] S1 S2 := by
  have h0 := h.gh 0
  obtain ⟨r1, S1, e1, w1, f1, -⟩ := t_Yard_wagon (a1 := (x (1))) (a2 := (x (2))) (a3 := (x (3))) (a4 := (x (4))) (a5 := (x (5))) h0.1
  have h1 : Bs k g S1 := h0.sc w1 f1 rfl
  obtain ⟨r2, S2, e2, w2, f2, -⟩ := t_M_wagon (a1 := (x (1))) (a2 := (x (2))) (a3 := (x (3))) (a4 := (x (4))) (a5 := (x (5))) h1.1
  exact ⟨0, r1, r2, S1, S2, e1, e2, h1.st w2 f2 rfl (nn_fr f2.f1 rfl rfl) (by omega) (by omega), w1, (f1.f1), f2⟩
theorem sc_5 {k g : Nat} {S : SS} {x : Nat → Int32} (h : Bs k g S) (hk : k < 512) : ∃ (d : Nat) (r1 r2 : Int32) (S1 S2 : SS), f_Yard_engine ((if x (1) = 0 then (0 : Int32) else 1)) (x (2)) (x (3)) (x (4)) (gho S d) = some (r1, S1) ∧ f_M_engine ((if x (1) = 0 then (0 : Int32) else 1)) (x (2)) (x (3)) (x (4)) S1 = some (r2, S2) ∧ Bs (k + 1) (g + d) S2 ∧ WR S1 ∧ F1 [77, 79, 91] [(62, 2), (62, 3), (62, 4), (62, 5), (62, 6), (63, 1), (64, 6), (64, 7), (68, 5)] S S1 ∧ Fr [1, 18, 19, 20, 21, 22, 23, 24, 25, 28, 29, 35] [(0, 0), (0, 1), (0, 2), (0, 3), (0, 5), (0, 29), (0, 49), (0, 60), (0, 61)] S1 S2 := by
  have h0 := h.gh 0
  obtain ⟨r1, S1, e1, w1, f1, -⟩ := t_Yard_engine (a1 := ((if x (1) = 0 then (0 : Int32) else 1))) (a2 := (x (2))) (a3 := (x (3))) (a4 := (x (4))) h0.1
  have h1 : Bs k g S1 := h0.sc w1 f1 rfl
  obtain ⟨r2, S2, e2, w2, f2, -⟩ := t_M_engine (a1 := ((if x (1) = 0 then (0 : Int32) else 1))) (a2 := (x (2))) (a3 := (x (3))) (a4 := (x (4))) h1.1
  exact ⟨0, r1, r2, S1, S2, e1, e2, h1.st w2 f2 rfl (nn_fr f2.f1 rfl rfl) (by omega) (by omega), w1, (f1.f1), f2⟩
theorem sc_6 {k g : Nat} {S : SS} {x : Nat → Int32} (h : Bs k g S) (hk : k < 512) : ∃ (d : Nat) (r1 r2 : Int32) (S1 S2 : SS), f_Yard_bar (x (1)) (x (2)) ((if x (3) = 0 then (0 : Int32) else 1)) (gho S d) = some (r1, S1) ∧ f_M_bar (x (1)) (x (2)) ((if x (3) = 0 then (0 : Int32) else 1)) S1 = some (r2, S2) ∧ Bs (k + 1) (g + d) S2 ∧ WR S1 ∧ F1 [105] [(64, 6), (64, 7)] S S1 ∧ Fr [16] [(0, 60), (0, 61)] S1 S2 := by
  have h0 := h.gh 0
  obtain ⟨r1, S1, e1, w1, f1, -⟩ := t_Yard_bar (a1 := (x (1))) (a2 := (x (2))) (a3 := ((if x (3) = 0 then (0 : Int32) else 1))) h0.1
  have h1 : Bs k g S1 := h0.sc w1 f1 rfl
  obtain ⟨r2, S2, e2, w2, f2, -⟩ := t_M_bar (a1 := (x (1))) (a2 := (x (2))) (a3 := ((if x (3) = 0 then (0 : Int32) else 1))) h1.1
  exact ⟨0, r1, r2, S1, S2, e1, e2, h1.st w2 f2 rfl (nn_fr f2.f1 rfl rfl) (by omega) (by omega), w1, (f1.f1), f2⟩
theorem sc_7 {k g : Nat} {S : SS} {x : Nat → Int32} (h : Bs k g S) (hk : k < 512) : ∃ (d : Nat) (r1 r2 : Int32) (S1 S2 : SS), f_Yard_table (x (1)) (x (2)) (gho S d) = some (r1, S1) ∧ f_M_table (x (1)) (x (2)) S1 = some (r2, S2) ∧ Bs (k + 1) (g + d) S2 ∧ WR S1 ∧ F1 [75] [(64, 6), (64, 7)] S S1 ∧ Fr [17] [(0, 60), (0, 61)] S1 S2 := by
  have h0 := h.gh 0
  obtain ⟨r1, S1, e1, w1, f1, -⟩ := t_Yard_table (a1 := (x (1))) (a2 := (x (2))) h0.1
  have h1 : Bs k g S1 := h0.sc w1 f1 rfl
  obtain ⟨r2, S2, e2, w2, f2, -⟩ := t_M_table (a1 := (x (1))) (a2 := (x (2))) h1.1
  exact ⟨0, r1, r2, S1, S2, e1, e2, h1.st w2 f2 rfl (nn_fr f2.f1 rfl rfl) (by omega) (by omega), w1, (f1.f1), f2⟩
theorem sc_8 {k g : Nat} {S : SS} {x : Nat → Int32} (h : Bs k g S) (hk : k < 512) : ∃ (d : Nat) (r1 r2 : Int32) (S1 S2 : SS), f_Yard_route  (gho S d) = some (r1, S1) ∧ f_M_route  S1 = some (r2, S2) ∧ Bs (k + 1) (g + d) S2 ∧ WR S1 ∧ F1 [] [(64, 6), (64, 7), (67, 8)] S S1 ∧ Fr [12] [(0, 19), (0, 60), (0, 61)] S1 S2 := by
  have h0 := h.gh 0
  obtain ⟨r1, S1, e1, w1, f1, -⟩ := t_Yard_route h0.1
  have h1 : Bs k g S1 := h0.sc w1 f1 rfl
  obtain ⟨r2, S2, e2, w2, f2, -⟩ := t_M_route h1.1
  exact ⟨0, r1, r2, S1, S2, e1, e2, h1.st w2 f2 rfl (nn_fr f2.f1 rfl rfl) (by omega) (by omega), w1, (f1.f1), f2⟩
theorem sc_9 {k g : Nat} {S : SS} {x : Nat → Int32} (h : Bs k g S) (hk : k < 512) : ∃ (d : Nat) (r1 r2 : Int32) (S1 S2 : SS), f_Yard_via (x (1)) (x (2)) (x (3)) (x (4)) (gho S d) = some (r1, S1) ∧ f_M_via (x (1)) (x (2)) (x (3)) (x (4)) S1 = some (r2, S2) ∧ Bs (k + 1) (g + d) S2 ∧ WR S1 ∧ F1 [77, 99, 100, 101, 102] [(62, 2), (62, 3), (62, 4), (62, 5), (62, 6), (64, 6), (64, 7)] S S1 ∧ Fr [1, 12, 13, 14, 15] [(0, 0), (0, 1), (0, 2), (0, 3), (0, 5), (0, 60), (0, 61)] S1 S2 := by
  have h0 := h.gh 0
  obtain ⟨r1, S1, e1, w1, f1, -⟩ := t_Yard_via (a1 := (x (1))) (a2 := (x (2))) (a3 := (x (3))) (a4 := (x (4))) h0.1
  have h1 : Bs k g S1 := h0.sc w1 f1 rfl
  obtain ⟨r2, S2, e2, w2, f2, -⟩ := t_M_via (a1 := (x (1))) (a2 := (x (2))) (a3 := (x (3))) (a4 := (x (4))) h1.1
  exact ⟨0, r1, r2, S1, S2, e1, e2, h1.st w2 f2 rfl (nn_fr f2.f1 rfl rfl) (by omega) (by omega), w1, (f1.f1), f2⟩
theorem sc_10 {k g : Nat} {S : SS} {x : Nat → Int32} (h : Bs k g S) (hk : k < 512) : ∃ (d : Nat) (r1 r2 : Int32) (S1 S2 : SS), f_Yard_load (x (1)) (x (2)) (x (3)) (gho S d) = some (r1, S1) ∧ f_M_load (x (1)) (x (2)) (x (3)) S1 = some (r2, S2) ∧ Bs (k + 1) (g + d) S2 ∧ WR S1 ∧ F1 [77, 91, 92] [(62, 2), (62, 3), (62, 4), (62, 5), (62, 6)] S S1 ∧ Fr [1, 35, 36, 37] [(0, 0), (0, 1), (0, 2), (0, 3), (0, 5)] S1 S2 := by
  have h0 := h.gh 0
  obtain ⟨r1, S1, e1, w1, f1, -⟩ := t_Yard_load (a1 := (x (1))) (a2 := (x (2))) (a3 := (x (3))) h0.1
  have h1 : Bs k g S1 := h0.sc w1 f1 rfl
  obtain ⟨r2, S2, e2, w2, f2, -⟩ := t_M_load (a1 := (x (1))) (a2 := (x (2))) (a3 := (x (3))) h1.1
  exact ⟨0, r1, r2, S1, S2, e1, e2, h1.st w2 f2 rfl (nn_fr f2.f1 rfl rfl) (by omega) (by omega), w1, (f1.f1), f2⟩
theorem sc_11 {k g : Nat} {S : SS} {x : Nat → Int32} (h : Bs k g S) (hk : k < 512) : ∃ (d : Nat) (r1 r2 : Int32) (S1 S2 : SS), f_Yard_piece (x (1)) (x (2)) (x (3)) (x (4)) (gho S d) = some (r1, S1) ∧ f_M_piece (x (1)) (x (2)) (x (3)) (x (4)) S1 = some (r2, S2) ∧ Bs (k + 1) (g + d) S2 ∧ WR S1 ∧ F1 [77, 91, 92] [(62, 2), (62, 3), (62, 4), (62, 5), (62, 6)] S S1 ∧ Fr [1, 37] [(0, 0), (0, 1), (0, 2), (0, 3), (0, 5)] S1 S2 := by
  have h0 := h.gh 0
  obtain ⟨r1, S1, e1, w1, f1, -⟩ := t_Yard_piece (a1 := (x (1))) (a2 := (x (2))) (a3 := (x (3))) (a4 := (x (4))) h0.1
  have h1 : Bs k g S1 := h0.sc w1 f1 rfl
  obtain ⟨r2, S2, e2, w2, f2, -⟩ := t_M_piece (a1 := (x (1))) (a2 := (x (2))) (a3 := (x (3))) (a4 := (x (4))) h1.1
  exact ⟨0, r1, r2, S1, S2, e1, e2, h1.st w2 f2 rfl (nn_fr f2.f1 rfl rfl) (by omega) (by omega), w1, (f1.f1), f2⟩
theorem sc_12 {k g : Nat} {S : SS} {x : Nat → Int32} (h : Bs k g S) (hk : k < 512) : ∃ (d : Nat) (r1 r2 : Int32) (S1 S2 : SS), f_Yard_danger (x (1)) (x (2)) (gho S d) = some (r1, S1) ∧ f_M_danger (x (1)) (x (2)) S1 = some (r2, S2) ∧ Bs (k + 1) (g + d) S2 ∧ WR S1 ∧ F1 [77, 79, 81, 82, 83, 84, 85, 86, 87, 88, 89, 90] [(62, 2), (62, 3), (62, 4), (62, 5), (62, 6), (64, 3), (64, 4), (64, 5), (64, 6), (64, 7)] S S1 ∧ Fr [1, 27, 40, 41, 42] [(0, 0), (0, 1), (0, 2), (0, 3), (0, 5), (0, 60), (0, 61), (0, 62)] S1 S2 := by
  have h0 := h.gh 0
  obtain ⟨r1, S1, e1, w1, f1, -⟩ := t_Yard_danger (a1 := (x (1))) (a2 := (x (2))) h0.1
  have h1 : Bs k g S1 := h0.sc w1 f1 rfl
  obtain ⟨r2, S2, e2, w2, f2, -⟩ := t_M_danger (a1 := (x (1))) (a2 := (x (2))) h1.1 (h1.x62 (by omega))
  exact ⟨0, r1, r2, S1, S2, e1, e2, h1.st w2 f2 rfl (k_M_danger e2) (by omega) (by omega), w1, (f1.f1), f2⟩
theorem sc_13 {k g : Nat} {S : SS} {x : Nat → Int32} (h : Bs k g S) (hk : k < 512) : ∃ (d : Nat) (r1 r2 : Int32) (S1 S2 : SS), f_Yard_hold (x (1)) (x (2)) (gho S d) = some (r1, S1) ∧ f_M_hold (x (1)) (x (2)) S1 = some (r2, S2) ∧ Bs (k + 1) (g + d) S2 ∧ WR S1 ∧ F1 [77, 79, 81, 82, 83, 84, 85, 86, 87, 88, 89, 90] [(62, 2), (62, 3), (62, 4), (62, 5), (62, 6), (64, 3), (64, 4), (64, 5), (64, 6), (64, 7)] S S1 ∧ Fr [1, 25, 40, 41, 42] [(0, 0), (0, 1), (0, 2), (0, 3), (0, 5), (0, 60), (0, 61), (0, 62)] S1 S2 := by
  have h0 := h.gh 0
  obtain ⟨r1, S1, e1, w1, f1, -⟩ := t_Yard_hold (a1 := (x (1))) (a2 := (x (2))) h0.1
  have h1 : Bs k g S1 := h0.sc w1 f1 rfl
  obtain ⟨r2, S2, e2, w2, f2, -⟩ := t_M_hold (a1 := (x (1))) (a2 := (x (2))) h1.1 (h1.x62 (by omega))
  exact ⟨0, r1, r2, S1, S2, e1, e2, h1.st w2 f2 rfl (k_M_hold e2) (by omega) (by omega), w1, (f1.f1), f2⟩
theorem sc_14 {k g : Nat} {S : SS} {x : Nat → Int32} (h : Bs k g S) (hk : k < 512) : ∃ (d : Nat) (r1 r2 : Int32) (S1 S2 : SS), f_Yard_jam (x (1)) (x (2)) (gho S d) = some (r1, S1) ∧ f_M_jam (x (1)) (x (2)) S1 = some (r2, S2) ∧ Bs (k + 1) (g + d) S2 ∧ WR S1 ∧ F1 [77, 79, 81, 82, 83, 84, 85, 86, 87, 88, 89, 90] [(62, 2), (62, 3), (62, 4), (62, 5), (62, 6), (64, 3), (64, 4), (64, 5), (64, 6), (64, 7)] S S1 ∧ Fr [1, 26, 40, 41, 42] [(0, 0), (0, 1), (0, 2), (0, 3), (0, 5), (0, 60), (0, 61), (0, 62)] S1 S2 := by
  have h0 := h.gh 0
  obtain ⟨r1, S1, e1, w1, f1, -⟩ := t_Yard_jam (a1 := (x (1))) (a2 := (x (2))) h0.1
  have h1 : Bs k g S1 := h0.sc w1 f1 rfl
  obtain ⟨r2, S2, e2, w2, f2, -⟩ := t_M_jam (a1 := (x (1))) (a2 := (x (2))) h1.1 (h1.x62 (by omega))
  exact ⟨0, r1, r2, S1, S2, e1, e2, h1.st w2 f2 rfl (k_M_jam e2) (by omega) (by omega), w1, (f1.f1), f2⟩
theorem sc_15 {k g : Nat} {S : SS} {x : Nat → Int32} (h : Bs k g S) (hk : k < 512) : ∃ (d : Nat) (r1 r2 : Int32) (S1 S2 : SS), f_Yard_raise (x (1)) (gho S d) = some (r1, S1) ∧ f_M_raise (x (1)) S1 = some (r2, S2) ∧ Bs (k + 1) (g + d) S2 ∧ WR S1 ∧ F1 [77] [(62, 2), (62, 3), (62, 4), (62, 5), (62, 6)] S S1 ∧ Fr [1] [(0, 0), (0, 1), (0, 2), (0, 3), (0, 5)] S1 S2 := by
  have h0 := h.gh 0
  obtain ⟨r1, S1, e1, w1, f1, -⟩ := t_Yard_raise (a1 := (x (1))) h0.1
  have h1 : Bs k g S1 := h0.sc w1 f1 rfl
  obtain ⟨r2, S2, e2, w2, f2, -⟩ := t_M_raise (a1 := (x (1))) h1.1
  exact ⟨0, r1, r2, S1, S2, e1, e2, h1.st w2 f2 rfl (nn_fr f2.f1 rfl rfl) (by omega) (by omega), w1, (f1.f1), f2⟩
theorem sc_16 {k g : Nat} {S : SS} {x : Nat → Int32} (h : Bs k g S) (hk : k < 512) : ∃ (d : Nat) (r1 r2 : Int32) (S1 S2 : SS), f_Yard_turn (x (1)) (x (2)) (gho S d) = some (r1, S1) ∧ f_M_turn (x (1)) (x (2)) S1 = some (r2, S2) ∧ Bs (k + 1) (g + d) S2 ∧ WR S1 ∧ F1 [77, 79, 81, 82, 83, 84, 85, 86, 87, 88, 89, 90] [(62, 2), (62, 3), (62, 4), (62, 5), (62, 6), (64, 3), (64, 4), (64, 5), (64, 6), (64, 7)] S S1 ∧ Fr [1, 10, 40, 41, 42] [(0, 0), (0, 1), (0, 2), (0, 3), (0, 5), (0, 60), (0, 61), (0, 62)] S1 S2 := by
  have h0 := h.gh 0
  obtain ⟨r1, S1, e1, w1, f1, -⟩ := t_Yard_turn (a1 := (x (1))) (a2 := (x (2))) h0.1
  have h1 : Bs k g S1 := h0.sc w1 f1 rfl
  obtain ⟨r2, S2, e2, w2, f2, -⟩ := t_M_turn (a1 := (x (1))) (a2 := (x (2))) h1.1 (h1.x62 (by omega))
  exact ⟨0, r1, r2, S1, S2, e1, e2, h1.st w2 f2 rfl (k_M_turn e2) (by omega) (by omega), w1, (f1.f1), f2⟩
theorem sc_17 {k g : Nat} {S : SS} {x : Nat → Int32} (h : Bs k g S) (hk : k < 512) : ∃ (d : Nat) (r1 r2 : Int32) (S1 S2 : SS), f_Yard_lock (x (1)) (gho S d) = some (r1, S1) ∧ f_M_lock (x (1)) S1 = some (r2, S2) ∧ Bs (k + 1) (g + d) S2 ∧ WR S1 ∧ F1 [77, 79, 81, 82, 83, 84, 85, 86, 87, 88, 89, 90, 103] [(62, 2), (62, 3), (62, 4), (62, 5), (62, 6), (64, 3), (64, 4), (64, 5), (64, 6), (64, 7)] S S1 ∧ Fr [1, 10, 11, 40, 41, 42, 43] [(0, 0), (0, 1), (0, 2), (0, 3), (0, 5), (0, 60), (0, 61), (0, 62)] S1 S2 := by
  have h0 := h.gh 0
  obtain ⟨r1, S1, e1, w1, f1, -⟩ := t_Yard_lock (a1 := (x (1))) h0.1
  have h1 : Bs k g S1 := h0.sc w1 f1 rfl
  obtain ⟨r2, S2, e2, w2, f2, -⟩ := t_M_lock (a1 := (x (1))) h1.1 (h1.x62 (by omega))
  exact ⟨0, r1, r2, S1, S2, e1, e2, h1.st w2 f2 rfl (k_M_lock e2) (by omega) (by omega), w1, (f1.f1), f2⟩
theorem sc_18 {k g : Nat} {S : SS} {x : Nat → Int32} (h : Bs k g S) (hk : k < 512) : ∃ (d : Nat) (r1 r2 : Int32) (S1 S2 : SS), f_Yard_free (x (1)) (gho S d) = some (r1, S1) ∧ f_M_free (x (1)) S1 = some (r2, S2) ∧ Bs (k + 1) (g + d) S2 ∧ WR S1 ∧ F1 [77, 79, 81, 82, 83, 84, 85, 86, 87, 88, 89, 90] [(62, 2), (62, 3), (62, 4), (62, 5), (62, 6), (64, 3), (64, 4), (64, 5), (64, 6), (64, 7)] S S1 ∧ Fr [1, 11, 40, 41, 42] [(0, 0), (0, 1), (0, 2), (0, 3), (0, 5), (0, 60), (0, 61), (0, 62)] S1 S2 := by
  have h0 := h.gh 0
  obtain ⟨r1, S1, e1, w1, f1, -⟩ := t_Yard_free (a1 := (x (1))) h0.1
  have h1 : Bs k g S1 := h0.sc w1 f1 rfl
  obtain ⟨r2, S2, e2, w2, f2, -⟩ := t_M_free (a1 := (x (1))) h1.1 (h1.x62 (by omega))
  exact ⟨0, r1, r2, S1, S2, e1, e2, h1.st w2 f2 rfl (k_M_free e2) (by omega) (by omega), w1, (f1.f1), f2⟩
theorem sc_19 {k g : Nat} {S : SS} {x : Nat → Int32} (h : Bs k g S) (hk : k < 512) : ∃ (d : Nat) (r1 r2 : Int32) (S1 S2 : SS), f_Yard_couple (x (1)) (x (2)) (gho S d) = some (r1, S1) ∧ f_M_couple (x (1)) (x (2)) S1 = some (r2, S2) ∧ Bs (k + 1) (g + d) S2 ∧ WR S1 ∧ F1 [77, 78, 79, 81, 82, 83, 84, 85, 86, 87, 88, 89, 90, 104] [(62, 2), (62, 3), (62, 4), (62, 5), (62, 6), (64, 3), (64, 4), (64, 5), (64, 6), (64, 7), (68, 4), (68, 5)] S S1 ∧ Fr [1, 2, 23, 24, 34, 39, 40, 41, 42] [(0, 0), (0, 1), (0, 2), (0, 3), (0, 5), (0, 26), (0, 27), (0, 28), (0, 49), (0, 56), (0, 57), (0, 58), (0, 60), (0, 61), (0, 62), (0, 66), (0, 67)] S1 S2 := by
  have h0 := h.gh 0
  obtain ⟨r1, S1, e1, w1, f1, -⟩ := t_Yard_couple (a1 := (x (1))) (a2 := (x (2))) h0.1
  have h1 : Bs k g S1 := h0.sc w1 f1 rfl
  obtain ⟨r2, S2, e2, w2, f2, -⟩ := t_M_couple (a1 := (x (1))) (a2 := (x (2))) h1.1 (h1.x62 (by omega))
  exact ⟨0, r1, r2, S1, S2, e1, e2, h1.st w2 f2 rfl (k_M_couple e2) (by omega) (by omega), w1, (f1.f1), f2⟩
theorem sc_20 {k g : Nat} {S : SS} {x : Nat → Int32} (h : Bs k g S) (hk : k < 512) : ∃ (d : Nat) (r1 r2 : Int32) (S1 S2 : SS), f_Yard_part (x (1)) (x (2)) (gho S d) = some (r1, S1) ∧ f_M_part (x (1)) (x (2)) S1 = some (r2, S2) ∧ Bs (k + 1) (g + d) S2 ∧ WR S1 ∧ F1 [77, 79, 81, 82, 83, 84, 85, 86, 87, 88, 89, 90, 104] [(62, 2), (62, 3), (62, 4), (62, 5), (62, 6), (64, 3), (64, 4), (64, 5), (64, 6), (64, 7), (68, 4), (68, 5)] S S1 ∧ Fr [1, 23, 24, 34, 39, 40, 41, 42] [(0, 0), (0, 1), (0, 2), (0, 3), (0, 5), (0, 49), (0, 56), (0, 57), (0, 58), (0, 60), (0, 61), (0, 62)] S1 S2 := by
  have h0 := h.gh 0
  obtain ⟨r1, S1, e1, w1, f1, -⟩ := t_Yard_part (a1 := (x (1))) (a2 := (x (2))) h0.1
  have h1 : Bs k g S1 := h0.sc w1 f1 rfl
  obtain ⟨r2, S2, e2, w2, f2, -⟩ := t_M_part (a1 := (x (1))) (a2 := (x (2))) h1.1 (h1.x62 (by omega))
  exact ⟨0, r1, r2, S1, S2, e1, e2, h1.st w2 f2 rfl (k_M_part e2) (by omega) (by omega), w1, (f1.f1), f2⟩
theorem sc_21 {k g : Nat} {S : SS} {x : Nat → Int32} (h : Bs k g S) (hk : k < 512) : ∃ (d : Nat) (r1 r2 : Int32) (S1 S2 : SS), f_Yard_pull (x (1)) (x (2)) (x (3)) (gho S d) = some (r1, S1) ∧ f_M_pull (x (1)) (x (2)) (x (3)) S1 = some (r2, S2) ∧ Bs (k + 1) (g + d) S2 ∧ WR S1 ∧ F1 [77, 78, 79, 81, 82, 83, 84, 85, 86, 87, 88, 89, 90, 104] [(62, 2), (62, 3), (62, 4), (62, 5), (62, 6), (64, 3), (64, 4), (64, 5), (64, 6), (64, 7), (68, 4)] S S1 ∧ Fr [1, 2, 20, 21, 22, 26, 39, 40, 41, 42, 44, 45] [(0, 0), (0, 1), (0, 2), (0, 3), (0, 5), (0, 26), (0, 27), (0, 28), (0, 56), (0, 57), (0, 58), (0, 60), (0, 61), (0, 62), (0, 70)] S1 S2 := by
  have h0 := h.gh 0
  obtain ⟨r1, S1, e1, w1, f1, -⟩ := t_Yard_pull (a1 := (x (1))) (a2 := (x (2))) (a3 := (x (3))) h0.1
  have h1 : Bs k g S1 := h0.sc w1 f1 rfl
  obtain ⟨r2, S2, e2, w2, f2, -⟩ := t_M_pull (a1 := (x (1))) (a2 := (x (2))) (a3 := (x (3))) h1.1 (h1.x62 (by omega))
  exact ⟨0, r1, r2, S1, S2, e1, e2, h1.st w2 f2 rfl (k_M_pull e2) (by omega) (by omega), w1, (f1.f1), f2⟩
theorem sc_22 {k g : Nat} {S : SS} {x : Nat → Int32} (h : Bs k g S) (hk : k < 512) : ∃ (d : Nat) (r1 r2 : Int32) (S1 S2 : SS), f_Yard_kick (x (1)) (x (2)) (gho S d) = some (r1, S1) ∧ f_M_kick (x (1)) (x (2)) S1 = some (r2, S2) ∧ Bs (k + 1) (g + d) S2 ∧ WR S1 ∧ F1 [77, 78, 79, 81, 82, 83, 84, 85, 86, 87, 88, 89, 90] [(62, 2), (62, 3), (62, 4), (62, 5), (62, 6), (64, 3), (64, 4), (64, 5), (64, 6), (64, 7)] S S1 ∧ Fr [1, 2, 30, 31, 32, 33, 40, 41, 42] [(0, 0), (0, 1), (0, 2), (0, 3), (0, 5), (0, 47), (0, 60), (0, 61), (0, 62)] S1 S2 := by
  have h0 := h.gh 0
  obtain ⟨r1, S1, e1, w1, f1, -⟩ := t_Yard_kick (a1 := (x (1))) (a2 := (x (2))) h0.1
  have h1 : Bs k g S1 := h0.sc w1 f1 rfl
  obtain ⟨r2, S2, e2, w2, f2, -⟩ := t_M_kick (a1 := (x (1))) (a2 := (x (2))) h1.1 (h1.x62 (by omega)) (h1.x47 (by omega))
  exact ⟨0, r1, r2, S1, S2, e1, e2, h1.st w2 f2 rfl (k_M_kick e2) (by omega) (by omega), w1, (f1.f1), f2⟩
theorem sc_23 {k g : Nat} {S : SS} {x : Nat → Int32} (h : Bs k g S) (hk : k < 512) : ∃ (d : Nat) (r1 r2 : Int32) (S1 S2 : SS), f_Yard_step (x (1)) (gho S d) = some (r1, S1) ∧ f_M_step (x (1)) S1 = some (r2, S2) ∧ Bs (k + 1) (g + d) S2 ∧ WR S1 ∧ F1 [79, 81, 82, 83, 84, 85, 86, 87, 88, 89, 90] [(64, 3), (64, 4), (64, 5), (64, 6), (64, 7)] S S1 ∧ Fr [20, 21, 22, 30, 31, 40, 41, 42] [(0, 26), (0, 27), (0, 28), (0, 48), (0, 60), (0, 61), (0, 62)] S1 S2 := by
  have h0 := h.gh 0
  obtain ⟨r1, S1, e1, w1, f1, -⟩ := t_Yard_step (a1 := (x (1))) h0.1
  have h1 : Bs k g S1 := h0.sc w1 f1 rfl
  obtain ⟨r2, S2, e2, w2, f2, -⟩ := t_M_step (a1 := (x (1))) h1.1 (h1.x62 (by omega))
  exact ⟨0, r1, r2, S1, S2, e1, e2, h1.st w2 f2 rfl (k_M_step e2) (by omega) (by omega), w1, (f1.f1), f2⟩
theorem sc_24 {k g : Nat} {S : SS} {x : Nat → Int32} (h : Bs k g S) (hk : k < 512) : ∃ (d : Nat) (r1 r2 : Int32) (S1 S2 : SS), f_Yard_test (x (1)) (gho S d) = some (r1, S1) ∧ f_M_test (x (1)) S1 = some (r2, S2) ∧ Bs (k + 1) (g + d) S2 ∧ WR S1 ∧ F1 [77, 78, 79, 81, 82, 83, 84, 85, 86, 87, 88, 89, 90, 104] [(62, 2), (62, 3), (62, 4), (62, 5), (62, 6), (64, 3), (64, 4), (64, 5), (64, 6), (64, 7), (68, 4)] S S1 ∧ Fr [1, 2, 34, 39, 40, 41, 42] [(0, 0), (0, 1), (0, 2), (0, 3), (0, 5), (0, 54), (0, 56), (0, 57), (0, 58), (0, 60), (0, 61), (0, 62)] S1 S2 := by
  have h0 := h.gh 0
  obtain ⟨r1, S1, e1, w1, f1, -⟩ := t_Yard_test (a1 := (x (1))) h0.1
  have h1 : Bs k g S1 := h0.sc w1 f1 rfl
  obtain ⟨r2, S2, e2, w2, f2, -⟩ := t_M_test (a1 := (x (1))) h1.1 (h1.x62 (by omega))
  exact ⟨0, r1, r2, S1, S2, e1, e2, h1.st w2 f2 rfl (k_M_test e2) (by omega) (by omega), w1, (f1.f1), f2⟩
theorem sc_25 {k g : Nat} {S : SS} {x : Nat → Int32} (h : Bs k g S) (hk : k < 512) : ∃ (d : Nat) (r1 r2 : Int32) (S1 S2 : SS), f_Yard_leave (x (1)) (gho S d) = some (r1, S1) ∧ f_M_leave (x (1)) S1 = some (r2, S2) ∧ Bs (k + 1) (g + d) S2 ∧ WR S1 ∧ F1 [77, 79, 81, 82, 83, 84, 85, 86, 87, 88, 89, 90, 104] [(62, 2), (62, 3), (62, 4), (62, 5), (62, 6), (64, 3), (64, 4), (64, 5), (64, 6), (64, 7), (68, 4)] S S1 ∧ Fr [1, 19, 39, 40, 41, 42] [(0, 0), (0, 1), (0, 2), (0, 3), (0, 5), (0, 56), (0, 57), (0, 58), (0, 60), (0, 61), (0, 62)] S1 S2 := by
  have h0 := h.gh 0
  obtain ⟨r1, S1, e1, w1, f1, -⟩ := t_Yard_leave (a1 := (x (1))) h0.1
  have h1 : Bs k g S1 := h0.sc w1 f1 rfl
  obtain ⟨r2, S2, e2, w2, f2, -⟩ := t_M_leave (a1 := (x (1))) h1.1 (h1.x62 (by omega))
  exact ⟨0, r1, r2, S1, S2, e1, e2, h1.st w2 f2 rfl (k_M_leave e2) (by omega) (by omega), w1, (f1.f1), f2⟩
theorem sc_26 {k g : Nat} {S : SS} {x : Nat → Int32} (h : Bs k g S) (hk : k < 512) : ∃ (d : Nat) (r1 r2 : Int32) (S1 S2 : SS), f_Yard_roll (x (1)) (x (2)) (x (3)) (gho S d) = some (r1, S1) ∧ f_M_roll (x (1)) (x (2)) (x (3)) S1 = some (r2, S2) ∧ Bs (k + 1) (g + d) S2 ∧ WR S1 ∧ F1 [76, 77] [(62, 2), (62, 3), (62, 4), (62, 5), (62, 6)] S S1 ∧ Fr [1, 38] [(0, 0), (0, 1), (0, 2), (0, 3), (0, 5)] S1 S2 := by
  have h0 := h.gh 0
  obtain ⟨r1, S1, e1, w1, f1, -⟩ := t_Yard_roll (a1 := (x (1))) (a2 := (x (2))) (a3 := (x (3))) h0.1
  have h1 : Bs k g S1 := h0.sc w1 f1 rfl
  obtain ⟨r2, S2, e2, w2, f2, -⟩ := t_M_roll (a1 := (x (1))) (a2 := (x (2))) (a3 := (x (3))) h1.1
  exact ⟨0, r1, r2, S1, S2, e1, e2, h1.st w2 f2 rfl (nn_fr f2.f1 rfl rfl) (by omega) (by omega), w1, (f1.f1), f2⟩
theorem sc_27 {k g : Nat} {S : SS} {x : Nat → Int32} (h : Bs k g S) (hk : k < 512) : ∃ (d : Nat) (r1 r2 : Int32) (S1 S2 : SS), f_Yard_store (x (1)) (x (2)) (gho S d) = some (r1, S1) ∧ f_M_store (x (1)) (x (2)) S1 = some (r2, S2) ∧ Bs (k + 1) (g + d) S2 ∧ WR S1 ∧ F1 [76, 77] [(62, 2), (62, 3), (62, 4), (62, 5), (62, 6)] S S1 ∧ Fr [1, 38] [(0, 0), (0, 1), (0, 2), (0, 3), (0, 5)] S1 S2 := by
  have h0 := h.gh 0
  obtain ⟨r1, S1, e1, w1, f1, -⟩ := t_Yard_store (a1 := (x (1))) (a2 := (x (2))) h0.1
  have h1 : Bs k g S1 := h0.sc w1 f1 rfl
  obtain ⟨r2, S2, e2, w2, f2, -⟩ := t_M_store (a1 := (x (1))) (a2 := (x (2))) h1.1
  exact ⟨0, r1, r2, S1, S2, e1, e2, h1.st w2 f2 rfl (nn_fr f2.f1 rfl rfl) (by omega) (by omega), w1, (f1.f1), f2⟩
theorem sc_28 {k g : Nat} {S : SS} {x : Nat → Int32} (h : Bs k g S) (hk : k < 512) : ∃ (d : Nat) (r1 r2 : Int32) (S1 S2 : SS), f_Yard_rolled (x (1)) (gho S d) = some (r1, S1) ∧ f_M_rolled (x (1)) S1 = some (r2, S2) ∧ Bs (k + 1) (g + d) S2 ∧ WR S1 ∧ F1 [77] [(62, 2), (62, 3), (62, 4), (62, 5), (62, 6)] S S1 ∧ Fr [1] [(0, 0), (0, 1), (0, 2), (0, 3), (0, 5)] S1 S2 := by
  have h0 := h.gh 0
  obtain ⟨r1, S1, e1, w1, f1, -⟩ := t_Yard_rolled (a1 := (x (1))) h0.1
  have h1 : Bs k g S1 := h0.sc w1 f1 rfl
  obtain ⟨r2, S2, e2, w2, f2, -⟩ := t_M_rolled (a1 := (x (1))) h1.1
  exact ⟨0, r1, r2, S1, S2, e1, e2, h1.st w2 f2 rfl (nn_fr f2.f1 rfl rfl) (by omega) (by omega), w1, (f1.f1), f2⟩
theorem sc_29 {k g : Nat} {S : SS} {x : Nat → Int32} (h : Bs k g S) (hk : k < 512) : ∃ (d : Nat) (r1 r2 : Int32) (S1 S2 : SS), f_Yard_at (x (1)) (x (2)) (gho S d) = some (r1, S1) ∧ f_M_at (x (1)) (x (2)) S1 = some (r2, S2) ∧ Bs (k + 1) (g + d) S2 ∧ WR S1 ∧ F1 [77] [(62, 2), (62, 3), (62, 4), (62, 5), (62, 6)] S S1 ∧ Fr [1] [(0, 0), (0, 1), (0, 2), (0, 3), (0, 5)] S1 S2 := by
  have h0 := h.gh 0
  obtain ⟨r1, S1, e1, w1, f1, -⟩ := t_Yard_at (a1 := (x (1))) (a2 := (x (2))) h0.1
  have h1 : Bs k g S1 := h0.sc w1 f1 rfl
  obtain ⟨r2, S2, e2, w2, f2, -⟩ := t_M_at (a1 := (x (1))) (a2 := (x (2))) h1.1
  exact ⟨0, r1, r2, S1, S2, e1, e2, h1.st w2 f2 rfl (nn_fr f2.f1 rfl rfl) (by omega) (by omega), w1, (f1.f1), f2⟩
theorem sc_30 {k g : Nat} {S : SS} {x : Nat → Int32} (h : Bs k g S) (hk : k < 512) : ∃ (d : Nat) (r1 r2 : Int32) (S1 S2 : SS), f_Yard_thing (x (1)) (x (2)) (gho S d) = some (r1, S1) ∧ f_M_thing (x (1)) (x (2)) S1 = some (r2, S2) ∧ Bs (k + 1) (g + d) S2 ∧ WR S1 ∧ F1 [77] [(62, 2), (62, 3), (62, 4), (62, 5), (62, 6)] S S1 ∧ Fr [1] [(0, 0), (0, 1), (0, 2), (0, 3), (0, 5)] S1 S2 := by
  have h0 := h.gh 0
  obtain ⟨r1, S1, e1, w1, f1, -⟩ := t_Yard_thing (a1 := (x (1))) (a2 := (x (2))) h0.1
  have h1 : Bs k g S1 := h0.sc w1 f1 rfl
  obtain ⟨r2, S2, e2, w2, f2, -⟩ := t_M_thing (a1 := (x (1))) (a2 := (x (2))) h1.1
  exact ⟨0, r1, r2, S1, S2, e1, e2, h1.st w2 f2 rfl (nn_fr f2.f1 rfl rfl) (by omega) (by omega), w1, (f1.f1), f2⟩
theorem sc_31 {k g : Nat} {S : SS} {x : Nat → Int32} (h : Bs k g S) (hk : k < 512) : ∃ (d : Nat) (r1 r2 : Int32) (S1 S2 : SS), f_Yard_pointed (x (1)) (x (2)) (gho S d) = some (r1, S1) ∧ f_M_pointed (x (1)) (x (2)) S1 = some (r2, S2) ∧ Bs (k + 1) (g + d) S2 ∧ WR S1 ∧ F1 [77] [(62, 2), (62, 3), (62, 4), (62, 5), (62, 6)] S S1 ∧ Fr [1] [(0, 0), (0, 1), (0, 2), (0, 3), (0, 5)] S1 S2 := by
  have h0 := h.gh 0
  obtain ⟨r1, S1, e1, w1, f1, -⟩ := t_Yard_pointed (a1 := (x (1))) (a2 := (x (2))) h0.1
  have h1 : Bs k g S1 := h0.sc w1 f1 rfl
  obtain ⟨r2, S2, e2, w2, f2, -⟩ := t_M_pointed (a1 := (x (1))) (a2 := (x (2))) h1.1
  exact ⟨0, r1, r2, S1, S2, e1, e2, h1.st w2 f2 rfl (nn_fr f2.f1 rfl rfl) (by omega) (by omega), w1, (f1.f1), f2⟩
theorem sc_32 {k g : Nat} {S : SS} {x : Nat → Int32} (h : Bs k g S) (hk : k < 512) : ∃ (d : Nat) (r1 r2 : Int32) (S1 S2 : SS), f_Yard_ask (x (1)) (x (2)) (gho S d) = some (r1, S1) ∧ f_M_ask (x (1)) (x (2)) S1 = some (r2, S2) ∧ Bs (k + 1) (g + d) S2 ∧ WR S1 ∧ F1 [77, 78] [(62, 2), (62, 3), (62, 4), (62, 5), (62, 6)] S S1 ∧ Fr [1, 2] [(0, 0), (0, 1), (0, 2), (0, 3), (0, 5), (0, 54)] S1 S2 := by
  have h0 := h.gh 0
  obtain ⟨r1, S1, e1, w1, f1, -⟩ := t_Yard_ask (a1 := (x (1))) (a2 := (x (2))) h0.1
  have h1 : Bs k g S1 := h0.sc w1 f1 rfl
  obtain ⟨r2, S2, e2, w2, f2, -⟩ := t_M_ask (a1 := (x (1))) (a2 := (x (2))) h1.1
  exact ⟨0, r1, r2, S1, S2, e1, e2, h1.st w2 f2 rfl (nn_fr f2.f1 rfl rfl) (by omega) (by omega), w1, (f1.f1), f2⟩
theorem sc_33 {k g : Nat} {S : SS} {x : Nat → Int32} (h : Bs k g S) (hk : k < 512) : ∃ (d : Nat) (r1 r2 : Int32) (S1 S2 : SS), f_Yard_meet (x (1)) (x (2)) (x (3)) (gho S d) = some (r1, S1) ∧ f_M_meet (x (1)) (x (2)) (x (3)) S1 = some (r2, S2) ∧ Bs (k + 1) (g + d) S2 ∧ WR S1 ∧ F1 [77] [(62, 2), (62, 3), (62, 4), (62, 5), (62, 6)] S S1 ∧ Fr [1] [(0, 0), (0, 1), (0, 2), (0, 3), (0, 5)] S1 S2 := by
  have h0 := h.gh 0
  obtain ⟨r1, S1, e1, w1, f1, -⟩ := t_Yard_meet (a1 := (x (1))) (a2 := (x (2))) (a3 := (x (3))) h0.1
  have h1 : Bs k g S1 := h0.sc w1 f1 rfl
  obtain ⟨r2, S2, e2, w2, f2, -⟩ := t_M_meet (a1 := (x (1))) (a2 := (x (2))) (a3 := (x (3))) h1.1
  exact ⟨0, r1, r2, S1, S2, e1, e2, h1.st w2 f2 rfl (nn_fr f2.f1 rfl rfl) (by omega) (by omega), w1, (f1.f1), f2⟩
theorem sc_34 {k g : Nat} {S : SS} {x : Nat → Int32} (h : Bs k g S) (hk : k < 512) : ∃ (d : Nat) (r1 r2 : Int32) (S1 S2 : SS), f_Yard_weigh (x (1)) (gho S d) = some (r1, S1) ∧ f_M_weigh (x (1)) S1 = some (r2, S2) ∧ Bs (k + 1) (g + d) S2 ∧ WR S1 ∧ F1 [77, 78, 104] [(62, 2), (62, 3), (62, 4), (62, 5), (62, 6), (68, 4)] S S1 ∧ Fr [1, 2, 39] [(0, 0), (0, 1), (0, 2), (0, 3), (0, 5), (0, 56), (0, 57), (0, 58)] S1 S2 := by
  have h0 := h.gh 0
  obtain ⟨r1, S1, e1, w1, f1, -⟩ := t_Yard_weigh (a1 := (x (1))) h0.1
  have h1 : Bs k g S1 := h0.sc w1 f1 rfl
  obtain ⟨r2, S2, e2, w2, f2, -⟩ := t_M_weigh (a1 := (x (1))) h1.1
  exact ⟨0, r1, r2, S1, S2, e1, e2, h1.st w2 f2 rfl (nn_fr f2.f1 rfl rfl) (by omega) (by omega), w1, (f1.f1), f2⟩
theorem sc_35 {k g : Nat} {S : SS} {x : Nat → Int32} (h : Bs k g S) (hk : k < 512) : ∃ (d : Nat) (r1 r2 : Int32) (S1 S2 : SS), f_Yard_share (x (1)) (gho S d) = some (r1, S1) ∧ f_M_share (x (1)) S1 = some (r2, S2) ∧ Bs (k + 1) (g + d) S2 ∧ WR S1 ∧ F1 [77, 78, 104] [(62, 2), (62, 3), (62, 4), (62, 5), (62, 6), (68, 4)] S S1 ∧ Fr [1, 2, 39] [(0, 0), (0, 1), (0, 2), (0, 3), (0, 5), (0, 56), (0, 57), (0, 58)] S1 S2 := by
  have h0 := h.gh 0
  obtain ⟨r1, S1, e1, w1, f1, -⟩ := t_Yard_share (a1 := (x (1))) h0.1
  have h1 : Bs k g S1 := h0.sc w1 f1 rfl
  obtain ⟨r2, S2, e2, w2, f2, -⟩ := t_M_share (a1 := (x (1))) h1.1
  exact ⟨0, r1, r2, S1, S2, e1, e2, h1.st w2 f2 rfl (nn_fr f2.f1 rfl rfl) (by omega) (by omega), w1, (f1.f1), f2⟩
theorem sc_36 {k g : Nat} {S : SS} {x : Nat → Int32} (h : Bs k g S) (hk : k < 512) : ∃ (d : Nat) (r1 r2 : Int32) (S1 S2 : SS), f_Yard_consist (x (1)) (x (2)) (gho S d) = some (r1, S1) ∧ f_M_consist (x (1)) (x (2)) S1 = some (r2, S2) ∧ Bs (k + 1) (g + d) S2 ∧ WR S1 ∧ F1 [77, 104] [(62, 2), (62, 3), (62, 4), (62, 5), (62, 6), (68, 4)] S S1 ∧ Fr [1, 39] [(0, 0), (0, 1), (0, 2), (0, 3), (0, 5), (0, 56), (0, 57), (0, 58)] S1 S2 := by
  have h0 := h.gh 0
  obtain ⟨r1, S1, e1, w1, f1, -⟩ := t_Yard_consist (a1 := (x (1))) (a2 := (x (2))) h0.1
  have h1 : Bs k g S1 := h0.sc w1 f1 rfl
  obtain ⟨r2, S2, e2, w2, f2, -⟩ := t_M_consist (a1 := (x (1))) (a2 := (x (2))) h1.1
  exact ⟨0, r1, r2, S1, S2, e1, e2, h1.st w2 f2 rfl (nn_fr f2.f1 rfl rfl) (by omega) (by omega), w1, (f1.f1), f2⟩
theorem sc_37 {k g : Nat} {S : SS} {x : Nat → Int32} (h : Bs k g S) (hk : k < 512) : ∃ (d : Nat) (r1 r2 : Int32) (S1 S2 : SS), f_Yard_finding (x (1)) (gho S d) = some (r1, S1) ∧ f_M_finding (x (1)) S1 = some (r2, S2) ∧ Bs (k + 1) (g + d) S2 ∧ WR S1 ∧ F1 [] [] S S1 ∧ Fr [] [] S1 S2 := by
  have h0 := h.gh 0
  obtain ⟨r1, S1, e1, w1, f1, -⟩ := t_Yard_finding (a1 := (x (1))) h0.1
  have h1 : Bs k g S1 := h0.sc w1 f1 rfl
  obtain ⟨r2, S2, e2, w2, f2, -⟩ := t_M_finding (a1 := (x (1))) h1.1
  exact ⟨0, r1, r2, S1, S2, e1, e2, h1.st w2 f2 rfl (nn_fr f2.f1 rfl rfl) (by omega) (by omega), w1, (f1.f1), f2⟩
theorem sc_38 {k g : Nat} {S : SS} {x : Nat → Int32} (h : Bs k g S) (hk : k < 512) : ∃ (d : Nat) (r1 r2 : Int32) (S1 S2 : SS), f_Yard_count (x (1)) (gho S d) = some (r1, S1) ∧ f_M_count (x (1)) S1 = some (r2, S2) ∧ Bs (k + 1) (g + d) S2 ∧ WR S1 ∧ F1 [] [] S S1 ∧ Fr [] [] S1 S2 := by
  have h0 := h.gh 0
  obtain ⟨r1, S1, e1, w1, f1, -⟩ := t_Yard_count (a1 := (x (1))) h0.1
  have h1 : Bs k g S1 := h0.sc w1 f1 rfl
  obtain ⟨r2, S2, e2, w2, f2, -⟩ := t_M_count (a1 := (x (1))) h1.1
  exact ⟨0, r1, r2, S1, S2, e1, e2, h1.st w2 f2 rfl (nn_fr f2.f1 rfl rfl) (by omega) (by omega), w1, (f1.f1), f2⟩
theorem sc_39 {k g : Nat} {S : SS} {x : Nat → Int32} (h : Bs k g S) (hk : k < 512) : ∃ (d : Nat) (r1 r2 : Int32) (S1 S2 : SS), f_Yard_trace (x (1)) (gho S d) = some (r1, S1) ∧ f_M_trace (x (1)) S1 = some (r2, S2) ∧ Bs (k + 1) (g + d) S2 ∧ WR S1 ∧ F1 [] [] S S1 ∧ Fr [] [] S1 S2 := by
  have h0 := h.gh 0
  obtain ⟨r1, S1, e1, w1, f1, -⟩ := t_Yard_trace (a1 := (x (1))) h0.1
  have h1 : Bs k g S1 := h0.sc w1 f1 rfl
  obtain ⟨r2, S2, e2, w2, f2, -⟩ := t_M_trace (a1 := (x (1))) h1.1
  exact ⟨0, r1, r2, S1, S2, e1, e2, h1.st w2 f2 rfl (nn_fr f2.f1 rfl rfl) (by omega) (by omega), w1, (f1.f1), f2⟩
theorem sc_40 {k g : Nat} {S : SS} {x : Nat → Int32} (h : Bs k g S) (hk : k < 512) : ∃ (d : Nat) (r1 r2 : Int32) (S1 S2 : SS), f_Yard_undo  (gho S d) = some (r1, S1) ∧ f_M_undo  S1 = some (r2, S2) ∧ Bs (k + 1) (g + d) S2 ∧ WR S1 ∧ F1 [79, 81, 82, 83, 84, 85, 86, 87, 88] [(64, 6), (64, 7)] S S1 ∧ Fr [10, 11, 19, 20, 21, 22, 23, 24, 25, 26, 27, 30, 31, 32, 33, 34, 40] [(0, 48), (0, 60), (0, 61)] S1 S2 := by
  have h0 := h.gh 0
  obtain ⟨r1, S1, e1, w1, f1, -⟩ := t_Yard_undo h0.1
  have h1 : Bs k g S1 := h0.sc w1 f1 rfl
  obtain ⟨r2, S2, e2, w2, f2, -⟩ := t_M_undo h1.1
  exact ⟨0, r1, r2, S1, S2, e1, e2, h1.st w2 f2 rfl (nn_fr f2.f1 rfl rfl) (by omega) (by omega), w1, (f1.f1), f2⟩
theorem sc_41 {k g : Nat} {S : SS} {x : Nat → Int32} (h : Bs k g S) (hk : k < 512) : ∃ (d : Nat) (r1 r2 : Int32) (S1 S2 : SS), f_Yard_back  (gho S d) = some (r1, S1) ∧ f_M_back  S1 = some (r2, S2) ∧ Bs (k + 1) (g + d) S2 ∧ WR S1 ∧ F1 [79, 81, 82, 83, 84, 85, 86, 87, 88] [(64, 6), (64, 7)] S S1 ∧ Fr [10, 11, 19, 20, 21, 22, 23, 24, 25, 26, 27, 30, 31, 32, 33, 34, 40] [(0, 48), (0, 60), (0, 61)] S1 S2 := by
  have h0 := h.gh 0
  obtain ⟨r1, S1, e1, w1, f1, -⟩ := t_Yard_back h0.1
  have h1 : Bs k g S1 := h0.sc w1 f1 rfl
  obtain ⟨r2, S2, e2, w2, f2, -⟩ := t_M_back h1.1
  exact ⟨0, r1, r2, S1, S2, e1, e2, h1.st w2 f2 rfl (nn_fr f2.f1 rfl rfl) (by omega) (by omega), w1, (f1.f1), f2⟩
theorem sc_42 {k g : Nat} {S : SS} {x : Nat → Int32} (h : Bs k g S) (hk : k < 512) : ∃ (d : Nat) (r1 r2 : Int64) (S1 S2 : SS), f_Yard_digest  (gho S d) = some (r1, S1) ∧ f_M_digest  S1 = some (r2, S2) ∧ Bs (k + 1) (g + d) S2 ∧ WR S1 ∧ F1 [] [] S S1 ∧ Fr [] [] S1 S2 := by
  have h0 := h.gh 0
  obtain ⟨r1, S1, e1, w1, f1, -⟩ := t_Yard_digest h0.1
  have h1 : Bs k g S1 := h0.sc w1 f1 rfl
  obtain ⟨r2, S2, e2, w2, f2, -⟩ := t_M_digest h1.1
  exact ⟨0, r1, r2, S1, S2, e1, e2, h1.st w2 f2 rfl (nn_fr f2.f1 rfl rfl) (by omega) (by omega), w1, (f1.f1), f2⟩
theorem sc_43 {k g : Nat} {S : SS} {x : Nat → Int32} (h : Bs k g S) (hk : k < 512) : ∃ (d : Nat) (r1 r2 : Int32) (S1 S2 : SS), f_Yard_log (x (1)) (x (2)) (gho S d) = some (r1, S1) ∧ f_M_log (x (1)) (x (2)) S1 = some (r2, S2) ∧ Bs (k + 1) (g + d) S2 ∧ WR S1 ∧ F1 [] [] S S1 ∧ Fr [] [] S1 S2 := by
  have h0 := h.gh 0
  obtain ⟨r1, S1, e1, w1, f1, -⟩ := t_Yard_log (a1 := (x (1))) (a2 := (x (2))) h0.1
  have h1 : Bs k g S1 := h0.sc w1 f1 rfl
  obtain ⟨r2, S2, e2, w2, f2, -⟩ := t_M_log (a1 := (x (1))) (a2 := (x (2))) h1.1
  exact ⟨0, r1, r2, S1, S2, e1, e2, h1.st w2 f2 rfl (nn_fr f2.f1 rfl rfl) (by omega) (by omega), w1, (f1.f1), f2⟩
theorem sc_44 {k g : Nat} {S : SS} {x : Nat → Int32} (h : Bs k g S) (hk : k < 512) : ∃ (d : Nat) (r1 r2 : Int32) (S1 S2 : SS), f_Yard_room (x (1)) (x (2)) (gho S d) = some (r1, S1) ∧ f_M_room (x (1)) (x (2)) S1 = some (r2, S2) ∧ Bs (k + 1) (g + d) S2 ∧ WR S1 ∧ F1 [106] [] S S1 ∧ Fr [46] [] S1 S2 := by
  have h0 := h.gh 0
  obtain ⟨r1, S1, e1, w1, f1, -⟩ := t_Yard_room (a1 := (x (1))) (a2 := (x (2))) h0.1
  have h1 : Bs k g S1 := h0.sc w1 f1 rfl
  obtain ⟨r2, S2, e2, w2, p2, f2⟩ := r_M_room (a1 := (x (1))) (a2 := (x (2))) h1.1 h1.2.1
  exact ⟨0, r1, r2, S1, S2, e1, e2, h1.sp w2 p2 f2 rfl, w1, (f1.f1), f2⟩
theorem sc_45 {k g : Nat} {S : SS} {x : Nat → Int32} (h : Bs k g S) (hk : k < 512) : ∃ (d : Nat) (r1 r2 : Int32) (S1 S2 : SS), f_Yard_lay ((if x (1) = 0 then (0 : Int32) else 1)) (x (2)) (x (3)) (gho S d) = some (r1, S1) ∧ f_M_lay ((if x (1) = 0 then (0 : Int32) else 1)) (x (2)) (x (3)) S1 = some (r2, S2) ∧ Bs (k + 1) (g + d) S2 ∧ WR S1 ∧ F1 [122, 123, 124, 125] [] S S1 ∧ Fr [47, 48, 49, 50] [] S1 S2 := by
  have h0 := h.gh 0
  obtain ⟨r1, S1, e1, w1, f1, -⟩ := t_Yard_lay (a1 := ((if x (1) = 0 then (0 : Int32) else 1))) (a2 := (x (2))) (a3 := (x (3))) h0.1
  have h1 : Bs k g S1 := h0.sc w1 f1 rfl
  obtain ⟨r2, S2, e2, w2, p2, f2⟩ := r_M_lay (a1 := ((if x (1) = 0 then (0 : Int32) else 1))) (a2 := (x (2))) (a3 := (x (3))) h1.1 h1.2.1
  exact ⟨0, r1, r2, S1, S2, e1, e2, h1.sp w2 p2 f2 rfl, w1, (f1.f1), f2⟩
theorem sc_46 {k g : Nat} {S : SS} {x : Nat → Int32} (h : Bs k g S) (hk : k < 512) : ∃ (d : Nat) (r1 r2 : Int32) (S1 S2 : SS), f_Yard_wipe  (gho S d) = some (r1, S1) ∧ f_M_wipe  S1 = some (r2, S2) ∧ Bs (k + 1) (g + d) S2 ∧ WR S1 ∧ F1 [123, 125] [(70, 7), (70, 8)] S S1 ∧ Fr [47, 49] [(0, 76), (0, 77)] S1 S2 := by
  have h0 := h.gh 0
  obtain ⟨r1, S1, e1, w1, f1, -⟩ := t_Yard_wipe h0.1
  have h1 : Bs k g S1 := h0.sc w1 f1 rfl
  obtain ⟨r2, S2, e2, w2, p2, f2⟩ := r_M_wipe h1.1 h1.2.1
  exact ⟨0, r1, r2, S1, S2, e1, e2, h1.sp w2 p2 f2 rfl, w1, (f1.f1), f2⟩
theorem sc_47 {k g : Nat} {S : SS} {x : Nat → Int32} (h : Bs k g S) (hk : k < 512) : ∃ (d : Nat) (r1 r2 : Int32) (S1 S2 : SS), f_Yard_plan (x (1)) (gho S d) = some (r1, S1) ∧ f_M_plan (x (1)) S1 = some (r2, S2) ∧ Bs (k + 1) (g + d) S2 ∧ WR S1 ∧ F1 YL MFl S S1 ∧ Fr [51, 52, 53, 54, 55, 56, 57, 58, 59, 60] [(0, 76), (0, 77), (0, 81)] S1 S2 := by
  obtain ⟨-, -, ⟨G, hC, hG⟩, -⟩ := id h
  obtain ⟨d, hd, r1, S1, e1, w1, f1, G', c1, hG'⟩ := c_Yard_plan (a := (x (1))) h.1 hC
  have h1 : Bs k (g + d) S1 := h.sq w1 c1 (by omega) f1 rfl
  obtain ⟨r2, S2, e2, w2, p2, f2⟩ := r_M_plan (a1 := (x (1))) h1.1 h1.2.1
  exact ⟨d, r1, r2, S1, S2, e1, e2, h1.sp w2 p2 f2 rfl, w1, f1, f2⟩
theorem sc_48 {k g : Nat} {S : SS} {x : Nat → Int32} (h : Bs k g S) (hk : k < 512) : ∃ (d : Nat) (r1 r2 : Int32) (S1 S2 : SS), f_Yard_move (x (1)) (x (2)) (gho S d) = some (r1, S1) ∧ f_M_move (x (1)) (x (2)) S1 = some (r2, S2) ∧ Bs (k + 1) (g + d) S2 ∧ WR S1 ∧ F1 [] [] S S1 ∧ Fr [] [] S1 S2 := by
  have h0 := h.gh 0
  obtain ⟨r1, S1, e1, w1, f1, -⟩ := t_Yard_move (a1 := (x (1))) (a2 := (x (2))) h0.1
  have h1 : Bs k g S1 := h0.sc w1 f1 rfl
  obtain ⟨r2, S2, e2, w2, f2, -⟩ := t_M_move (a1 := (x (1))) (a2 := (x (2))) h1.1
  exact ⟨0, r1, r2, S1, S2, e1, e2, h1.st w2 f2 rfl (nn_fr f2.f1 rfl rfl) (by omega) (by omega), w1, (f1.f1), f2⟩
theorem sc_49 {k g : Nat} {S : SS} {x : Nat → Int32} (h : Bs k g S) (hk : k < 512) : ∃ (d : Nat) (r1 r2 : Int32) (S1 S2 : SS), f_Yard_bound  (gho S d) = some (r1, S1) ∧ f_M_bound  S1 = some (r2, S2) ∧ Bs (k + 1) (g + d) S2 ∧ WR S1 ∧ F1 [] [] S S1 ∧ Fr [] [] S1 S2 := by
  have h0 := h.gh 0
  obtain ⟨r1, S1, e1, w1, f1, -⟩ := t_Yard_bound h0.1
  have h1 : Bs k g S1 := h0.sc w1 f1 rfl
  obtain ⟨r2, S2, e2, w2, f2, -⟩ := t_M_bound h1.1
  exact ⟨0, r1, r2, S1, S2, e1, e2, h1.st w2 f2 rfl (nn_fr f2.f1 rfl rfl) (by omega) (by omega), w1, (f1.f1), f2⟩
theorem sc_50 {k g : Nat} {S : SS} {x : Nat → Int32} (h : Bs k g S) (hk : k < 512) : ∃ (d : Nat) (r1 r2 : Int32) (S1 S2 : SS), f_Yard_proof (x (1)) (gho S d) = some (r1, S1) ∧ f_M_proof (x (1)) S1 = some (r2, S2) ∧ Bs (k + 1) (g + d) S2 ∧ WR S1 ∧ F1 [] [] S S1 ∧ Fr [] [] S1 S2 := by
  have h0 := h.gh 0
  obtain ⟨-, -, ⟨G, hC, hG⟩, -⟩ := id h0
  obtain ⟨r1, S1, e1, w1, c1, f1⟩ := c_Yard_proof (a := (x (1))) h0.1 hC
  have h1 : Bs k g S1 := h0.sq w1 c1 hG f1.f1 rfl
  obtain ⟨r2, S2, e2, w2, f2, -⟩ := t_M_proof (a1 := (x (1))) h1.1
  exact ⟨0, r1, r2, S1, S2, e1, e2, h1.st w2 f2 rfl (nn_fr f2.f1 rfl rfl) (by omega) (by omega), w1, (f1.f1), f2⟩
theorem sc_51 {k g : Nat} {S : SS} {x : Nat → Int32} (h : Bs k g S) (hk : k < 512) : ∃ (d : Nat) (r1 r2 : Int32) (S1 S2 : SS), f_Yard_spoil (x (1)) (x (2)) (gho S d) = some (r1, S1) ∧ f_M_spoil (x (1)) (x (2)) S1 = some (r2, S2) ∧ Bs (k + 1) (g + d) S2 ∧ WR S1 ∧ F1 [120] [] S S1 ∧ Fr [55] [] S1 S2 := by
  have h0 := h.gh 0
  obtain ⟨-, -, ⟨G, hC, hG⟩, -⟩ := id h0
  obtain ⟨r1, S1, e1, w1, c1, f1⟩ := c_Yard_spoil (a := (x (1))) (v := (x (2))) h0.1 hC
  have h1 : Bs k g S1 := h0.sq w1 c1 hG f1.f1 rfl
  obtain ⟨r2, S2, e2, w2, p2, f2⟩ := r_M_spoil (a1 := (x (1))) (a2 := (x (2))) h1.1 h1.2.1
  exact ⟨0, r1, r2, S1, S2, e1, e2, h1.sp w2 p2 f2 rfl, w1, (f1.f1), f2⟩
theorem sc_52 {k g : Nat} {S : SS} {x : Nat → Int32} (h : Bs k g S) (hk : k < 512) : ∃ (d : Nat) (r1 r2 : Int32) (S1 S2 : SS), f_Yard_check  (gho S d) = some (r1, S1) ∧ f_M_check  S1 = some (r2, S2) ∧ Bs (k + 1) (g + d) S2 ∧ WR S1 ∧ F1 HL [] S S1 ∧ Fr [57, 58, 59] [] S1 S2 := by
  have h0 := h.gh 0
  obtain ⟨-, -, ⟨G, hC, hG⟩, -⟩ := id h0
  obtain ⟨r1, S1, e1, w1, c1, f1⟩ := c_Yard_check h0.1 hC
  have h1 : Bs k g S1 := h0.sq w1 c1 hG f1.f1 rfl
  obtain ⟨r2, S2, e2, w2, p2, f2⟩ := r_M_check h1.1 h1.2.1
  exact ⟨0, r1, r2, S1, S2, e1, e2, h1.sp w2 p2 f2 rfl, w1, (f1.f1), f2⟩
end
section
/-! ===== track: both answer alike ===== -/
theorem st_no {S : SS} {k i a b : Nat} {v : Int32} (h : ¬ (a = k ∧ b = i)) : (st S k i v).1 a b = S.1 a b := by
  rw [st_at]
  by_cases ha : a = k
  · by_cases hb : b = i
    · exact absurd ⟨ha, hb⟩ h
    · rw [if_pos ha, if_neg hb]
  · rw [if_neg ha]
theorem yt_x {a r : Int32} {S U : SS} (h : f_Yard_track a S = some (r, U)) : ((a = 0 ∨ ¬ a ≤ 24) ∧ r = -1 ∧ U.1 66 7 = S.1 66 7) ∨ (¬ a = 0 ∧ a ≤ 24 ∧ ((¬ S.1 66 7 < 24 ∧ r = -3 ∧ U.1 66 7 = S.1 66 7) ∨ (S.1 66 7 < 24 ∧ 0 ≤ a ∧ r = (S.1 66 7 + 1) - 1 ∧ U.1 66 7 = S.1 66 7 + 1) ∨ (S.1 66 7 < 24 ∧ ¬ 0 ≤ a ∧ r = -2 ∧ U.1 66 7 = S.1 66 7))) := by
  rw [f_Yard_track.eq_1] at h
  by_cases q1 : a = 0
  · rw [if_pos q1] at h
    injection h with h; injection h with h1 h2
    subst h1 h2
    exact Or.inl ⟨Or.inl q1, rfl, rfl⟩
  rw [if_neg q1] at h
  by_cases q2 : a ≤ 24
  · rw [if_pos q2] at h
    refine Or.inr ⟨q1, q2, ?_⟩
    by_cases q3 : S.1 66 7 < 24
    · rw [if_pos q3] at h
      refine Or.inr ?_
      have hb : f_Report_begin S = some (st (st (st (st (st S 62 2 0) 62 3 0) 62 4 (-4)) 62 5 0) 62 6 (-4)) := rfl
      rw [hb] at h
      have e66 : (st (st (st (st (st S 62 2 0) 62 3 0) 62 4 (-4)) 62 5 0) 62 6 (-4)).1 66 7 = S.1 66 7 := by
        rw [st_no (by omega), st_no (by omega), st_no (by omega), st_no (by omega), st_no (by omega)]
      generalize (st (st (st (st (st S 62 2 0) 62 3 0) 62 4 (-4)) 62 5 0) 62 6 (-4)) = S1 at h e66
      have h : (if 0 ≤ a then bndv (f_History_forget S1) (fun S2 => bnd (f_Layout_addTrack a S2) (fun r4 S3 => some (r4, S3))) else bnd (f_Report_found (5 : Int32) S1) (fun r6 S5 => some (r6, S5))) = some (r, U) := h
      by_cases q4 : 0 ≤ a
      · rw [if_pos q4] at h
        refine Or.inl ⟨q3, q4, ?_⟩
        have hf : f_History_forget S1 = some (st (st S1 64 6 0) 64 7 0) := rfl
        rw [hf] at h
        have e2 : (st (st S1 64 6 0) 64 7 0).1 66 7 = S.1 66 7 := by
          rw [st_no (by omega), st_no (by omega), e66]
        generalize (st (st S1 64 6 0) 64 7 0) = S2 at h e2
        have h : bnd (f_Layout_addTrack a S2) (fun r4 S3 => some (r4, S3)) = some (r, U) := h
        obtain ⟨r4, S3, h4, h⟩ := bnd_t h
        injection h with h; injection h with h1 h2
        subst h1 h2
        rw [f_Layout_addTrack.eq_1, e2, if_pos q3] at h4
        obtain ⟨-, h4⟩ := grd_t h4
        have h4 : some ((st (st S2 93 (S.1 66 7).toNatClampNeg a) 66 7 ((st S2 93 (S.1 66 7).toNatClampNeg a).1 66 7 + 1)).1 66 7 - 1, st (st S2 93 (S.1 66 7).toNatClampNeg a) 66 7 ((st S2 93 (S.1 66 7).toNatClampNeg a).1 66 7 + 1)) = some (r4, S3) := h4
        injection h4 with h4; injection h4 with h1 h2
        subst h1 h2
        rw [st_here, st_no (by omega), e2]
        exact ⟨rfl, rfl⟩
      · rw [if_neg q4] at h
        refine Or.inr ⟨q3, q4, ?_⟩
        obtain ⟨r6, S5, h6, h⟩ := bnd_t h
        injection h with h; injection h with h1 h2
        subst h1 h2
        rw [f_Report_found.eq_1] at h6
        obtain ⟨T, eT, h6⟩ := wr_t h6
        have h6 : (if (5 : Int32) ≤ 0 then some ((-2 : Int32), T) else if (17 : Int32) < 5 then some ((-2 : Int32), T) else grd (inb (5 : Int32) 18) (grd (inb (5 : Int32) 18) (wr T 77 (5 : Int32).toNatClampNeg ((T.1 77 (5 : Int32).toNatClampNeg) + (1 : Int32)) (fun S2 => some ((-2 : Int32), S2))))) = some (r6, S5) := h6
        rw [if_neg (by decide), if_neg (by decide)] at h6
        obtain ⟨-, h6⟩ := grd_t h6
        obtain ⟨-, h6⟩ := grd_t h6
        obtain ⟨T2, eT2, h6⟩ := wr_t h6
        injection h6 with h6; injection h6 with h1 h2
        subst h1 h2
        refine ⟨rfl, ?_⟩
        rw [eT2, st_no (by omega), eT, st_no (by omega), e66]
    · rw [if_neg q3] at h
      injection h with h; injection h with h1 h2
      subst h1 h2
      exact Or.inl ⟨q3, rfl, rfl⟩
  · rw [if_neg q2] at h
    injection h with h; injection h with h1 h2
    subst h1 h2
    exact Or.inl ⟨Or.inr q2, rfl, rfl⟩
theorem mt_x {a r : Int32} {S U : SS} (h : f_M_track a S = some (r, U)) : ((a = 0 ∨ ¬ a ≤ 24) ∧ r = -1 ∧ U.1 0 7 = S.1 0 7) ∨ (¬ a = 0 ∧ a ≤ 24 ∧ ((S.1 0 7 = 24 ∧ r = -3 ∧ U.1 0 7 = S.1 0 7) ∨ (¬ S.1 0 7 = 24 ∧ 0 ≤ a ∧ r = (S.1 0 7 + 1) - 1 ∧ U.1 0 7 = S.1 0 7 + 1) ∨ (¬ S.1 0 7 = 24 ∧ ¬ 0 ≤ a ∧ r = -2 ∧ U.1 0 7 = S.1 0 7))) := by
  rw [f_M_track.eq_1] at h
  by_cases q1 : a = 0
  · rw [if_pos q1] at h
    injection h with h; injection h with h1 h2
    subst h1 h2
    exact Or.inl ⟨Or.inl q1, rfl, rfl⟩
  rw [if_neg q1] at h
  by_cases q2 : a ≤ 24
  · rw [if_pos q2] at h
    refine Or.inr ⟨q1, q2, ?_⟩
    by_cases q3 : S.1 0 7 = 24
    · rw [if_pos q3] at h
      injection h with h; injection h with h1 h2
      subst h1 h2
      exact Or.inl ⟨q3, rfl, rfl⟩
    · rw [if_neg q3] at h
      refine Or.inr ?_
      have hb : f_M_begin S = some (st (st (st (st (st S 0 0 0) 0 1 (-4)) 0 2 0) 0 3 (-4)) 0 5 0) := rfl
      rw [hb] at h
      have e7 : (st (st (st (st (st S 0 0 0) 0 1 (-4)) 0 2 0) 0 3 (-4)) 0 5 0).1 0 7 = S.1 0 7 := by
        rw [st_no (by omega), st_no (by omega), st_no (by omega), st_no (by omega), st_no (by omega)]
      generalize (st (st (st (st (st S 0 0 0) 0 1 (-4)) 0 2 0) 0 3 (-4)) 0 5 0) = S1 at h e7
      have h : (if 0 ≤ a then grd (inb (S1.1 0 7) 24) (wr S1 3 (S1.1 0 7).toNatClampNeg a (fun S2 => wr S2 0 7 ((S2.1 0 7) + (1 : Int32)) (fun S3 => bndv (f_M_forget S3) (fun S4 => some ((S4.1 0 7) - (1 : Int32), S4))))) else bnd (f_M_found (5 : Int32) S1) (fun r6 S5 => some (r6, S5))) = some (r, U) := h
      by_cases q4 : 0 ≤ a
      · rw [if_pos q4] at h
        refine Or.inl ⟨q3, q4, ?_⟩
        obtain ⟨-, h⟩ := grd_t h
        obtain ⟨S2, e2, h⟩ := wr_t h
        obtain ⟨S3, e3, h⟩ := wr_t h
        obtain ⟨S4, h4, h⟩ := bndv_t h
        injection h with h; injection h with h1 h2
        subst h1 h2
        have hf : f_M_forget S3 = some (st (st S3 0 60 0) 0 61 0) := rfl
        rw [hf] at h4
        injection h4 with h4
        subst h4
        have e37 : S3.1 0 7 = S.1 0 7 + 1 := by
          rw [e3, st_here, e2, st_no (by omega), e7]
        rw [st_no (by omega), st_no (by omega), e37]
        exact ⟨rfl, rfl⟩
      · rw [if_neg q4] at h
        refine Or.inr ⟨q3, q4, ?_⟩
        obtain ⟨r6, S5, h6, h⟩ := bnd_t h
        injection h with h; injection h with h1 h2
        subst h1 h2
        rw [f_M_found.eq_1] at h6
        obtain ⟨T, eT, h6⟩ := wr_t h6
        obtain ⟨-, h6⟩ := grd_t h6
        obtain ⟨-, h6⟩ := grd_t h6
        obtain ⟨T2, eT2, h6⟩ := wr_t h6
        injection h6 with h6; injection h6 with h1 h2
        subst h1 h2
        refine ⟨rfl, ?_⟩
        rw [eT2, st_no (by omega), eT, st_no (by omega), e7]
  · rw [if_neg q2] at h
    injection h with h; injection h with h1 h2
    subst h1 h2
    exact Or.inl ⟨Or.inr q2, rfl, rfl⟩
theorem track_eq {a r1 r2 : Int32} {S S1 S2 : SS} (hW : WR S) (h : S.1 66 7 = S.1 0 7) (e1 : f_Yard_track a S = some (r1, S1)) (e2 : f_M_track a S1 = some (r2, S2)) (k : S1.1 0 7 = S.1 0 7) (k2 : S2.1 66 7 = S1.1 66 7) : r1 = r2 ∧ S2.1 66 7 = S2.1 0 7 := by
  have iff : S.1 66 7 < 24 ↔ ¬ S1.1 0 7 = 24 := by
    rw [k, ← h]
    obtain ⟨j, ej, j1, j2, j3⟩ := rg_ex (ro_66_7 hW) (by omega)
    rw [ej]
    constructor
    · intro q e
      rw [e] at q
      exact absurd q (by decide)
    · intro q
      have hj : j < 24 := by
        rcases Nat.lt_or_ge j 24 with c | c
        · exact c
        · have : j = 24 := by omega
          subst this
          exact absurd rfl q
      exact (nI_ltJ (b := 24) (by omega) (by omega)).mpr hj
  rw [k2]
  rcases yt_x e1 with ⟨p, p1, p2⟩ | ⟨z1, z2, p⟩
  · rcases mt_x e2 with ⟨-, m1, m2⟩ | ⟨y1, y2, -⟩
    · exact ⟨by rw [p1, m1], by rw [p2, m2, k]; exact h⟩
    · rcases p with p | p
      · exact absurd p y1
      · exact absurd y2 p
  · rcases mt_x e2 with ⟨m, -⟩ | ⟨-, -, m⟩
    · rcases m with m | m
      · exact absurd m z1
      · exact absurd z2 m
    · rcases p with ⟨q, p1, p2⟩ | ⟨q, q', p1, p2⟩ | ⟨q, q', p1, p2⟩
      · rcases m with ⟨m, m1, m2⟩ | ⟨m, -⟩ | ⟨m, -⟩
        · exact ⟨by rw [p1, m1], by rw [p2, m2, k]; exact h⟩
        · exact absurd (iff.mpr m) q
        · exact absurd (iff.mpr m) q
      · rcases m with ⟨m, -⟩ | ⟨m, m', m1, m2⟩ | ⟨m, m', -⟩
        · exact absurd m (iff.mp q)
        · exact ⟨by rw [p1, m1, k, h], by rw [p2, m2, k, h]⟩
        · exact absurd q' m'
      · rcases m with ⟨m, -⟩ | ⟨m, m', -⟩ | ⟨m, m', m1, m2⟩
        · exact absurd m (iff.mp q)
        · exact absurd m' q'
        · exact ⟨by rw [p1, m1], by rw [p2, m2, k]; exact h⟩
end
section
/-! ===== both sides' small methods, told by what they answer and leave ===== -/
theorem rb_t {S U : SS} (h : f_Report_begin S = some U) : F1 [62] [] S U := by
  have h : some (st (st (st (st (st S 62 2 0) 62 3 0) 62 4 (-4)) 62 5 0) 62 6 (-4)) = some U := h
  injection h with h
  subst h
  exact F1.tr (F1.tr (F1.tr (F1.tr (F1.tr F1.rf (fr_stA _ _ _ _).f1 rfl) (fr_stA _ _ _ _).f1 rfl) (fr_stA _ _ _ _).f1 rfl) (fr_stA _ _ _ _).f1 rfl) (fr_stA _ _ _ _).f1 rfl
theorem hf_t {S U : SS} (h : f_History_forget S = some U) : F1 [64] [] S U := by
  have h : some (st (st S 64 6 0) 64 7 0) = some U := h
  injection h with h
  subst h
  exact F1.tr (F1.tr F1.rf (fr_stA _ _ _ _).f1 rfl) (fr_stA _ _ _ _).f1 rfl
theorem mb_t {S U : SS} (h : f_M_begin S = some U) : F1 [] [(0, 0), (0, 1), (0, 2), (0, 3), (0, 5)] S U := by
  have h : some (st (st (st (st (st S 0 0 0) 0 1 (-4)) 0 2 0) 0 3 (-4)) 0 5 0) = some U := h
  injection h with h
  subst h
  exact F1.tr (F1.tr (F1.tr (F1.tr (F1.tr F1.rf (fr_stO _ _ _ _).f1 rfl) (fr_stO _ _ _ _).f1 rfl) (fr_stO _ _ _ _).f1 rfl) (fr_stO _ _ _ _).f1 rfl) (fr_stO _ _ _ _).f1 rfl
theorem mf_t {S U : SS} (h : f_M_forget S = some U) : F1 [] [(0, 60), (0, 61)] S U := by
  have h : some (st (st S 0 60 0) 0 61 0) = some U := h
  injection h with h
  subst h
  exact F1.tr (F1.tr F1.rf (fr_stO _ _ _ _).f1 rfl) (fr_stO _ _ _ _).f1 rfl
theorem rf_t {a r : Int32} {S U : SS} (h : f_Report_found a S = some (r, U)) : r = -2 ∧ F1 [62, 77] [] S U := by
  rw [f_Report_found.eq_1] at h
  replace h := wr_t h
  obtain ⟨T, eT, h⟩ := h
  have g : F1 [62, 77] [] S T := by rw [eT]; exact F1.tr F1.rf (fr_stA _ _ _ _).f1 rfl
  rcases ite_or h with h | h
  · injection h with h; injection h with h1 h2
    subst h1 h2
    exact ⟨rfl, g⟩
  · rcases ite_or h with h | h
    · injection h with h; injection h with h1 h2
      subst h1 h2
      exact ⟨rfl, g⟩
    · replace h := grd_t h
      obtain ⟨-, h⟩ := h
      replace h := grd_t h
      obtain ⟨-, h⟩ := h
      replace h := wr_t h
      obtain ⟨T2, eT2, h⟩ := h
      injection h with h; injection h with h1 h2
      subst h1 h2
      exact ⟨rfl, F1.tr g (by rw [eT2]; exact (fr_stA _ _ _ _).f1) rfl⟩
theorem mo_t {a r : Int32} {S U : SS} (h : f_M_found a S = some (r, U)) : r = -2 ∧ F1 [1] [(0, 0)] S U := by
  rw [f_M_found.eq_1] at h
  replace h := wr_t h
  obtain ⟨T, eT, h⟩ := h
  have g : F1 [1] [(0, 0)] S T := by rw [eT]; exact F1.tr F1.rf (fr_stO _ _ _ _).f1 rfl
  replace h := grd_t h
  obtain ⟨-, h⟩ := h
  replace h := grd_t h
  obtain ⟨-, h⟩ := h
  replace h := wr_t h
  obtain ⟨T2, eT2, h⟩ := h
  injection h with h; injection h with h1 h2
  subst h1 h2
  exact ⟨rfl, F1.tr g (by rw [eT2]; exact (fr_stA _ _ _ _).f1) rfl⟩
theorem in_t {a lo hi r : Int32} {S U : SS} (h : f_Yard_isNot a lo hi S = some (r, U)) : U = S ∧ ((r = 0 ∧ ¬ a < lo ∧ a ≤ hi) ∨ (r = 1 ∧ ¬ (¬ a < lo ∧ a ≤ hi))) := by
  rw [f_Yard_isNot.eq_1] at h
  by_cases q1 : a < lo
  · rw [if_pos q1] at h
    injection h with h; injection h with h1 h2
    subst h1 h2
    exact ⟨rfl, Or.inr ⟨rfl, fun k => k.1 q1⟩⟩
  · rw [if_neg q1] at h
    by_cases q2 : a ≤ hi
    · rw [if_pos q2] at h
      injection h with h; injection h with h1 h2
      subst h1 h2
      exact ⟨rfl, Or.inl ⟨rfl, q1, q2⟩⟩
    · rw [if_neg q2] at h
      injection h with h; injection h with h1 h2
      subst h1 h2
      exact ⟨rfl, Or.inr ⟨rfl, fun k => q2 k.2⟩⟩
theorem nm_q {α ρ : Type} {x : α} {f : α → Option ρ} {r : ρ} (h : nm x f = some r) : ∃ z, z = x ∧ f z = some r := ⟨x, rfl, h⟩
/-! ===== route ===== -/
theorem route_eq {r1 r2 : Int32} {S S1 S2 : SS} (hW : WR S) (h : S.1 67 8 = S.1 0 19) (e1 : f_Yard_route S = some (r1, S1)) (e2 : f_M_route S1 = some (r2, S2)) (k : S1.1 0 19 = S.1 0 19) (k2 : S2.1 67 8 = S1.1 67 8) : r1 = r2 ∧ S2.1 67 8 = S2.1 0 19 := by
  have iff : S.1 67 8 < 12 ↔ ¬ S1.1 0 19 = 12 := by
    rw [k, ← h]
    obtain ⟨j, ej, j1, j2, j3⟩ := rg_ex (ro_67_8 hW) (by omega)
    rw [ej]
    constructor
    · intro q e
      rw [e] at q
      exact absurd q (by decide)
    · intro q
      have hj : j < 12 := by
        rcases Nat.lt_or_ge j 12 with c | c
        · exact c
        · have : j = 12 := by omega
          subst this
          exact absurd rfl q
      exact (nI_ltJ (b := 12) (by omega) (by omega)).mpr hj
  rw [k2]
  rw [f_Yard_route.eq_1] at e1
  rw [f_M_route.eq_1] at e2
  by_cases q : S.1 67 8 < 12
  · rw [if_pos q] at e1
    rw [if_neg (iff.mp q)] at e2
    replace e1 := bndv_t e1
    obtain ⟨T, hT, e1⟩ := e1
    have gT := hf_t hT
    replace e1 := bnd_t e1
    obtain ⟨r3, T3, h3, e1⟩ := e1
    injection e1 with e1; injection e1 with a1 a2
    subst a1 a2
    rw [f_Routes_addRoute.eq_1, gT 67 8 rfl, if_pos q] at h3
    replace h3 := wr_t h3
    obtain ⟨T4, e4, h3⟩ := h3
    injection h3 with h3; injection h3 with a1 a2
    subst a1 a2
    have v4 : T4.1 67 8 = S.1 67 8 + 1 := by rw [e4, st_here]
    replace e2 := grd_t e2
    obtain ⟨-, e2⟩ := e2
    replace e2 := wr_t e2
    obtain ⟨U1, u1, e2⟩ := e2
    replace e2 := wr_t e2
    obtain ⟨U2, u2, e2⟩ := e2
    replace e2 := bndv_t e2
    obtain ⟨U3, h3, e2⟩ := e2
    have g3 := mf_t h3
    injection e2 with e2; injection e2 with a1 a2
    subst a1 a2
    have v3 : U3.1 0 19 = S.1 0 19 + 1 := by
      rw [g3 0 19 rfl, u2, st_here, u1, st_at, if_neg (by decide), k]
    rw [v4, v3, h]
    exact ⟨rfl, rfl⟩
  · rw [if_neg q] at e1
    rw [if_pos (Classical.byContradiction (fun c => q (iff.mpr c)))] at e2
    injection e1 with e1; injection e1 with a1 a2
    injection e2 with e2; injection e2 with b1 b2
    subst a1 a2 b1 b2
    exact ⟨rfl, by rw [k]; exact h⟩
def inV (a lo hi : Int32) : Int32 := if a < lo then 1 else if a ≤ hi then 0 else 1
theorem in_v (a lo hi : Int32) (S : SS) : f_Yard_isNot a lo hi S = some (inV a lo hi, S) := by
  rw [f_Yard_isNot.eq_1]
  unfold inV
  by_cases q1 : a < lo
  · rw [if_pos q1, if_pos q1]
  · rw [if_neg q1, if_neg q1]
    by_cases q2 : a ≤ hi
    · rw [if_pos q2, if_pos q2]
    · rw [if_neg q2, if_neg q2]
theorem inV0 {a lo hi : Int32} : inV a lo hi = 0 ↔ ¬ a < lo ∧ a ≤ hi := by
  unfold inV
  by_cases q1 : a < lo
  · rw [if_pos q1]
    exact ⟨fun k => absurd k (by decide), fun k => absurd q1 k.1⟩
  · rw [if_neg q1]
    by_cases q2 : a ≤ hi
    · rw [if_pos q2]; exact ⟨fun _ => ⟨q1, q2⟩, fun _ => rfl⟩
    · rw [if_neg q2]; exact ⟨fun k => absurd k (by decide), fun k => absurd k.2 q2⟩
theorem bnd_s {ρ : Type} {z : Option (Int32 × SS)} {v : Int32} {T : SS} {g : Int32 → SS → Option ρ} {r : ρ} (h : bnd z g = some r) (e : z = some (v, T)) : g v T = some r := by
  rw [e] at h
  exact h
theorem le_nlt {a b : Int32} : a ≤ b ↔ ¬ b < a := by
  rw [Int32.le_iff_toInt_le, Int32.lt_iff_toInt_lt]
  omega
/-! ===== table ===== -/
theorem table_eq {a b r1 r2 : Int32} {S S1 S2 : SS} (h : ∀ i, S.1 75 i = S.1 17 i) (e1 : f_Yard_table a b S = some (r1, S1)) (e2 : f_M_table a b S1 = some (r2, S2)) (k : ∀ i, S1.1 17 i = S.1 17 i) (k2 : ∀ i, S2.1 75 i = S1.1 75 i) : r1 = r2 ∧ ∀ i, S2.1 75 i = S2.1 17 i := by
  rw [f_Yard_table.eq_1] at e1
  rw [f_M_table.eq_1] at e2
  replace e1 := bnd_s e1 (in_v _ _ _ _)
  by_cases p1 : inV a 0 7 = 0
  · rw [if_pos p1] at e1
    obtain ⟨z1, z2⟩ := inV0.mp p1
    rw [if_neg z1, if_neg (le_nlt.mp z2)] at e2
    replace e1 := bnd_s e1 (in_v _ _ _ _)
    by_cases p2 : inV b 0 99 = 0
    · rw [if_pos p2] at e1
      obtain ⟨y1, y2⟩ := inV0.mp p2
      rw [if_neg y1, if_pos y2] at e2
      replace e1 := bndv_t e1
      obtain ⟨T3, h3, e1⟩ := e1
      have g3 := hf_t h3
      replace e1 := grd_t e1
      obtain ⟨-, e1⟩ := e1
      replace e1 := nm_q e1
      obtain ⟨z, ez, e1⟩ := e1
      replace e1 := grd_t e1
      obtain ⟨-, e1⟩ := e1
      replace e1 := wr_t e1
      obtain ⟨T4, e4, e1⟩ := e1
      injection e1 with e1; injection e1 with a1 a2
      subst a1 a2
      replace e2 := grd_t e2
      obtain ⟨-, e2⟩ := e2
      replace e2 := nm_q e2
      obtain ⟨y, ey, e2⟩ := e2
      replace e2 := grd_t e2
      obtain ⟨-, e2⟩ := e2
      replace e2 := wr_t e2
      obtain ⟨U1, u1, e2⟩ := e2
      replace e2 := bndv_t e2
      obtain ⟨U2, h4, e2⟩ := e2
      have g4 := mf_t h4
      injection e2 with e2; injection e2 with a1 a2
      subst a1 a2
      refine ⟨?_, fun i => ?_⟩
      · rw [ez, ey, g3 75 _ rfl, k, h]
      · rw [k2, e4, st_at, if_pos rfl, g4 17 i rfl, u1, st_at, if_pos rfl]
        by_cases c : i = a.toNatClampNeg
        · rw [if_pos c, if_pos c]
        · rw [if_neg c, if_neg c, g3 75 i rfl, k, h]
    · rw [if_neg p2] at e1
      have e3 : some ((-1 : Int32), S1) = some (r2, S2) := by
        by_cases c : b < 0
        · rw [if_pos c] at e2; exact e2
        · rw [if_neg c, if_neg (fun q => p2 (inV0.mpr ⟨c, q⟩))] at e2; exact e2
      injection e1 with e1; injection e1 with a1 a2
      injection e3 with e3; injection e3 with b1 b2
      subst a1 a2 b1 b2
      exact ⟨rfl, h⟩
  · rw [if_neg p1] at e1
    have e3 : some ((-1 : Int32), S1) = some (r2, S2) := by
      by_cases c : a < 0
      · rw [if_pos c] at e2; exact e2
      · rw [if_neg c, if_pos (Classical.byContradiction (fun q => p1 (inV0.mpr ⟨c, le_nlt.mpr q⟩)))] at e2
        exact e2
    injection e1 with e1; injection e1 with a1 a2
    injection e3 with e3; injection e3 with b1 b2
    subst a1 a2 b1 b2
    exact ⟨rfl, h⟩
end
section
/-! ===== small questions, told as values ===== -/
def sdV (a : Int32) : Int32 := if a = 0 then 1 else if a = 1 then 1 else 0
theorem sd_v (a : Int32) (S : SS) : f_M_isSide a S = some (sdV a, S) := by
  rw [f_M_isSide.eq_1]
  unfold sdV
  by_cases q1 : a = 0
  · rw [if_pos q1, if_pos q1]
  · rw [if_neg q1, if_neg q1]
    by_cases q2 : a = 1
    · rw [if_pos q2, if_pos q2]
    · rw [if_neg q2, if_neg q2]
def tfV (n a : Int32) : Int32 := if a < 0 then 3 else if a < 24 then (if a < n then 0 else 1) else 3
theorem tf_v (a : Int32) (S : SS) : f_Layout_trackFinding a S = some (tfV (S.1 66 7) a, S) := by
  rw [f_Layout_trackFinding.eq_1]
  unfold tfV
  by_cases q1 : a < 0
  · rw [if_pos q1, if_pos q1]
  · rw [if_neg q1, if_neg q1]
    by_cases q2 : a < 24
    · rw [if_pos q2, if_pos q2]
      by_cases q3 : a < S.1 66 7
      · rw [if_pos q3, if_neg]
        intro k
        rw [Int32.lt_iff_toInt_lt] at q3
        rw [Int32.le_iff_toInt_le] at k
        omega
      · rw [if_neg q3, if_pos]
        rw [Int32.lt_iff_toInt_lt] at q3
        rw [Int32.le_iff_toInt_le]
        omega
    · rw [if_neg q2, if_neg q2]
theorem ms_v (a : Int32) (S : SS) : f_M_missTrack a S = some (tfV (S.1 0 7) a, S) := by
  rw [f_M_missTrack.eq_1]
  unfold tfV
  by_cases q1 : a < 0
  · rw [if_pos q1, if_pos q1]
  · rw [if_neg q1, if_neg q1]
    by_cases q2 : a < 24
    · rw [if_pos q2, if_pos q2]
      by_cases q3 : a < S.1 0 7
      · rw [if_pos q3, if_pos q3]
      · rw [if_neg q3, if_neg q3]
    · rw [if_neg q2, if_neg q2]
theorem sd_in {a : Int32} : inV a 0 1 = 0 ↔ ¬ sdV a = 0 := by
  unfold inV sdV
  constructor
  · intro h k
    by_cases q1 : a < 0
    · rw [if_pos q1] at h; exact absurd h (by decide)
    · rw [if_neg q1] at h
      by_cases q2 : a ≤ 1
      · obtain ⟨j, rfl, j1, j2, j3⟩ := rg_ex (le_l (nlt_l (rgt a) (rgl 0 0 0 rfl) q1) (rgl 1 1 1 rfl) q2) (by omega)
        rcases (show j = 0 ∨ j = 1 by omega) with rfl | rfl
        · exact absurd k (by decide)
        · exact absurd k (by decide)
      · rw [if_neg q2] at h; exact absurd h (by decide)
  · intro h
    by_cases q1 : a = 0
    · subst q1; rfl
    · rw [if_neg q1] at h
      by_cases q2 : a = 1
      · subst q2; rfl
      · rw [if_neg q2] at h; exact absurd rfl h
theorem in01 {a : Int32} (h : inV a 0 1 = 0) : ∃ s, s < 2 ∧ a = nI s := by
  unfold inV at h
  by_cases q1 : a < 0
  · rw [if_pos q1] at h; exact absurd h (by decide)
  · rw [if_neg q1] at h
    by_cases q2 : a ≤ 1
    · obtain ⟨j, rfl, j1, j2, j3⟩ := rg_ex (le_l (nlt_l (rgt a) (rgl 0 0 0 rfl) q1) (rgl 1 1 1 rfl) q2) (by omega)
      exact ⟨j, by omega, rfl⟩
    · rw [if_neg q2] at h; exact absurd h (by decide)
theorem tf0 {n a : Int32} (h : tfV n a = 0) : ∃ t, t < 24 ∧ a = nI t := by
  unfold tfV at h
  by_cases q1 : a < 0
  · rw [if_pos q1] at h; exact absurd h (by decide)
  · rw [if_neg q1] at h
    by_cases q2 : a < 24
    · obtain ⟨j, rfl, j1, j2, j3⟩ := rg_ex (nlt_l (rgt a) (rgl 0 0 0 rfl) q1) (by omega)
      exact ⟨j, (nI_ltJ (b := 24) j3 (by omega)).mp q2, rfl⟩
    · rw [if_neg q2] at h; exact absurd h (by decide)
theorem en_0 (S : SS) : f_M_ends 0 S = some (0, S) := by
  rw [f_M_ends.eq_1, if_pos rfl, f_M_ends_j10.eq_1, if_pos rfl]
theorem en_1 {r v : Int32} {S U : SS} (hr : ¬ r = 0) (h : f_M_ends r S = some (v, U)) : v = 1 ∧ F1 [1] [(0, 0)] S U := by
  rw [f_M_ends.eq_1, if_neg hr] at h
  replace h := bnd_t h
  obtain ⟨w, T, h1, h⟩ := h
  rw [f_M_ends_j10.eq_1, if_neg hr] at h
  injection h with h; injection h with a1 a2
  subst a1 a2
  exact ⟨rfl, (mo_t h1).2⟩
theorem ie_n {k : Nat} (S : SS) (hk : k < 48) : f_Layout_isEnd (nI k) S = some (1, S) := by
  rw [f_Layout_isEnd.eq_1, if_neg (nI_nn (by omega)), if_neg (show ¬ ((48 : Int32) ≤ nI k) from nI_ge (b := 48) hk (by omega))]
theorem idx_n {t s : Nat} : (2 : Int32) * nI t + nI s = nI (2 * t + s) := by
  rw [show (2 : Int32) * nI t = nI (2 * t) from nI_mul 2 t, nI_add]
/-! ===== exit ===== -/
theorem exit_eq {a b c r1 r2 : Int32} {S S1 S2 : SS} (ht : S.1 66 7 = S.1 0 7) (h : ∀ i, S.1 98 i = S.1 4 i) (e1 : f_Yard_exit a b c S = some (r1, S1)) (e2 : f_M_exit a b c S1 = some (r2, S2)) (k7 : S1.1 0 7 = S.1 0 7) (k : ∀ i, S1.1 4 i = S.1 4 i) (k2 : ∀ i, S2.1 98 i = S1.1 98 i) : r1 = r2 ∧ ∀ i, S2.1 98 i = S2.1 4 i := by
  rw [f_Yard_exit.eq_1] at e1
  rw [f_M_exit.eq_1] at e2
  replace e1 := bnd_s e1 (in_v _ _ _ _)
  replace e2 := bnd_s e2 (sd_v _ _)
  by_cases q : inV b 0 1 = 0
  · rw [if_pos q] at e1
    rw [if_neg (sd_in.mp q)] at e2
    replace e1 := bndv_t e1
    obtain ⟨T, hT, e1⟩ := e1
    have gT := rb_t hT
    replace e1 := bnd_s e1 (tf_v _ _)
    replace e2 := bndv_t e2
    obtain ⟨V, hV, e2⟩ := e2
    have gV := mb_t hV
    replace e2 := bnd_s e2 (ms_v _ _)
    rw [gT 66 7 rfl, ht] at e1
    rw [gV 0 7 rfl, k7] at e2
    by_cases qt : tfV (S.1 0 7) a = 0
    · rw [if_pos qt] at e1
      rw [qt] at e2
      replace e2 := bnd_s e2 (en_0 _)
      rw [if_pos rfl] at e2
      obtain ⟨t, t1, rfl⟩ := tf0 qt
      obtain ⟨s, s1, rfl⟩ := in01 q
      rw [idx_n] at e1 e2
      replace e1 := bndv_t e1
      obtain ⟨T2, hT2, e1⟩ := e1
      have gT2 := hf_t hT2
      replace e1 := bnd_t e1
      obtain ⟨r8, T3, h3, e1⟩ := e1
      rw [f_Layout_setExit.eq_1] at h3
      replace h3 := bnd_s h3 (ie_n _ (by omega))
      rw [if_neg (by decide)] at h3
      replace h3 := grd_t h3
      obtain ⟨-, h3⟩ := h3
      replace h3 := nm_q h3
      obtain ⟨z, ez, h3⟩ := h3
      replace h3 := grd_t h3
      obtain ⟨-, h3⟩ := h3
      replace h3 := wr_t h3
      obtain ⟨T4, e4, h3⟩ := h3
      replace h3 := grd_t h3
      obtain ⟨-, h3⟩ := h3
      injection h3 with h3; injection h3 with a1 a2
      subst a1 a2
      rw [nI_clamp (n := 2 * t + s) (by omega)] at ez e4 e2
      replace e2 := grd_t e2
      obtain ⟨-, e2⟩ := e2
      have c98 : z = V.1 4 (2 * t + s) := by rw [ez, gT2 98 _ rfl, gT 98 _ rfl, h, gV 4 _ rfl, k]
      have key : ∀ y : Int32, f_M_exit_j46 (nI t) (nI s) c y V = some (r2, S2) → r2 = y ∧ ∀ i, S2.1 98 i = S2.1 4 i := fun y hy => by
        rw [f_M_exit_j46.eq_1, idx_n] at hy
        replace hy := grd_t hy
        obtain ⟨-, hy⟩ := hy
        replace hy := wr_t hy
        obtain ⟨U1, u1, hy⟩ := hy
        replace hy := bndv_t hy
        obtain ⟨U2, hU2, hy⟩ := hy
        have g2 := mf_t hU2
        injection hy with hy; injection hy with b1 b2
        subst b1 b2
        refine ⟨rfl, fun i => ?_⟩
        rw [nI_clamp (n := 2 * t + s) (by omega)] at u1
        rw [k2, g2 4 i rfl, u1, st_at, if_pos rfl]
        have e98 : S1.1 98 i = T4.1 98 i := by
          rcases ite_or e1 with e | e <;> (injection e with e; injection e with b1 b2; rw [← b2])
        rw [e98, e4, st_at, if_pos rfl]
        by_cases ci : i = 2 * t + s
        · rw [if_pos ci, if_pos ci]
        · rw [if_neg ci, if_neg ci, gT2 98 i rfl, gT 98 i rfl, h, gV 4 i rfl, k]
      by_cases qz : z = 0
      · rw [if_pos qz] at e1
        rw [if_pos (c98 ▸ qz)] at e2
        obtain ⟨p1, p2⟩ := key 0 e2
        injection e1 with e1; injection e1 with b1 b2
        exact ⟨by rw [← b1, p1], p2⟩
      · rw [if_neg qz] at e1
        rw [if_neg (fun k => qz (c98.trans k))] at e2
        obtain ⟨p1, p2⟩ := key 1 e2
        injection e1 with e1; injection e1 with b1 b2
        exact ⟨by rw [← b1, p1], p2⟩
    · rw [if_neg qt] at e1
      replace e1 := bnd_t e1
      obtain ⟨r10, T9, h9, e1⟩ := e1
      obtain ⟨p1, p2⟩ := rf_t h9
      injection e1 with e1; injection e1 with b1 b2
      subst b1 b2
      replace e2 := bnd_t e2
      obtain ⟨v, U, hU, e2⟩ := e2
      obtain ⟨u1, u2⟩ := en_1 qt hU
      rw [if_neg (by rw [u1]; decide)] at e2
      injection e2 with e2; injection e2 with b1 b2
      subst b1 b2
      refine ⟨p1, fun i => ?_⟩
      rw [k2, p2 98 i rfl, gT 98 i rfl, h, u2 4 i rfl, gV 4 i rfl, k]
  · rw [if_neg q] at e1
    rw [if_pos (Classical.byContradiction (fun c => q (sd_in.mpr c)))] at e2
    injection e1 with e1; injection e1 with b1 b2
    injection e2 with e2; injection e2 with c1 c2
    subst b1 b2 c1 c2
    exact ⟨rfl, h⟩
end
section
/-! ===== point ===== -/
theorem pa_n {k : Nat} (S : SS) (hk : k < 48) : f_Layout_pointAt (nI k) S = some (S.1 94 k, S) := by
  rw [f_Layout_pointAt.eq_1, if_neg (nI_nn (by omega)), if_neg (show ¬ ((48 : Int32) ≤ nI k) from nI_ge (b := 48) hk (by omega)), inb_nI hk (by omega), nI_clamp (by omega)]
  rfl
theorem sp_f {a b c : Int32} {S U : SS} (h : f_State_setPoint a b c S = some U) : F1 [79] [] S U := by
  rw [f_State_setPoint.eq_1] at h
  rcases ite_or h with h | h
  · injection h with h
    rw [← h]
    exact F1.rf
  · rcases ite_or h with h | h
    · injection h with h
      rw [← h]
      exact F1.rf
    · replace h := (grd_t h).2
      replace h := wr_t h
      obtain ⟨T, eT, h⟩ := h
      replace h := (grd_t h).2
      replace h := wr_t h
      obtain ⟨T2, eT2, h⟩ := h
      injection h with h
      rw [← h, eT2, eT]
      exact F1.tr (F1.tr F1.rf (fr_stA _ _ _ _).f1 rfl) (fr_stA _ _ _ _).f1 rfl
theorem point_eq {a b r1 r2 : Int32} {S S1 S2 : SS} (hW : WR S) (ht : S.1 66 7 = S.1 0 7) (hp : S.1 66 8 = S.1 0 15) (h : ∀ i, S.1 94 i = S.1 5 i) (e1 : f_Yard_point a b S = some (r1, S1)) (e2 : f_M_point a b S1 = some (r2, S2)) (k7 : S1.1 0 7 = S.1 0 7) (k15 : S1.1 0 15 = S.1 0 15) (k : ∀ i, S1.1 5 i = S.1 5 i) (k8 : S2.1 66 8 = S1.1 66 8) (k2 : ∀ i, S2.1 94 i = S1.1 94 i) : r1 = r2 ∧ S2.1 66 8 = S2.1 0 15 ∧ ∀ i, S2.1 94 i = S2.1 5 i := by
  have iff : S.1 66 8 < 40 ↔ ¬ S1.1 0 15 = 40 := by
    rw [k15, ← hp]
    obtain ⟨j, ej, j1, j2, j3⟩ := rg_ex (ro_66_8 hW) (by omega)
    rw [ej]
    constructor
    · intro q e
      rw [e] at q
      exact absurd q (by decide)
    · intro q
      have hj : j < 40 := by
        rcases Nat.lt_or_ge j 40 with c | c
        · exact c
        · have : j = 40 := by omega
          subst this
          exact absurd rfl q
      exact (nI_ltJ (b := 40) (by omega) (by omega)).mpr hj
  rw [f_Yard_point.eq_1] at e1
  rw [f_M_point.eq_1] at e2
  replace e1 := bnd_s e1 (in_v _ _ _ _)
  replace e2 := bnd_s e2 (sd_v _ _)
  by_cases q : inV b 0 1 = 0
  · rw [if_pos q] at e1
    rw [if_neg (sd_in.mp q)] at e2
    by_cases q8 : S.1 66 8 < 40
    · rw [if_pos q8] at e1
      rw [if_neg (iff.mp q8)] at e2
      replace e1 := bndv_t e1
      obtain ⟨T, hT, e1⟩ := e1
      have gT := rb_t hT
      replace e1 := bnd_s e1 (tf_v _ _)
      replace e2 := bndv_t e2
      obtain ⟨V, hV, e2⟩ := e2
      have gV := mb_t hV
      replace e2 := bnd_s e2 (ms_v _ _)
      rw [gT 66 7 rfl, ht] at e1
      rw [gV 0 7 rfl, k7] at e2
      have no : ∀ {x : Int32} {T' : SS}, ¬ x = 0 → F1 [62] [] S T' → f_Yard_point_j66 a b x T' = some (r1, S1) → r1 = -2 ∧ S1.1 66 8 = S.1 66 8 ∧ ∀ i, S1.1 94 i = S.1 94 i := fun {x T'} hx gx hj => by
        rw [f_Yard_point_j66.eq_1, if_neg hx] at hj
        replace hj := bnd_t hj
        obtain ⟨v, T9, h9, hj⟩ := hj
        obtain ⟨p1, p2⟩ := rf_t h9
        injection hj with hj; injection hj with b1 b2
        rw [← b1, ← b2]
        exact ⟨p1, (p2 66 8 rfl).trans (gx 66 8 rfl), fun i => (p2 94 i rfl).trans (gx 94 i rfl)⟩
      by_cases qt : tfV (S.1 0 7) a = 0
      · rw [if_pos qt] at e1
        rw [qt] at e2
        replace e2 := bnd_s e2 (en_0 _)
        rw [if_pos rfl] at e2
        obtain ⟨t, t1, rfl⟩ := tf0 qt
        obtain ⟨s, s1, rfl⟩ := in01 q
        rw [idx_n] at e1 e2
        replace e1 := bnd_s e1 (pa_n T (by omega))
        replace e2 := (grd_t e2).2
        rw [nI_clamp (n := 2 * t + s) (by omega)] at e2
        have c94 : T.1 94 (2 * t + s) = V.1 5 (2 * t + s) := by rw [gT 94 _ rfl, h, gV 5 _ rfl, k]
        by_cases qc : T.1 94 (2 * t + s) = -4
        · rw [if_pos qc] at e1
          rw [if_pos (c94 ▸ qc)] at e2
          rw [qt, f_Yard_point_j66.eq_1, if_pos rfl] at e1
          replace e1 := bndv_t e1
          obtain ⟨T2, hT2, e1⟩ := e1
          have gT2 := hf_t hT2
          replace e1 := bnd_t e1
          obtain ⟨r8, T3, h3, e1⟩ := e1
          injection e1 with e1; injection e1 with b1 b2
          have n8 : T2.1 66 8 = S.1 66 8 := by rw [gT2 66 8 rfl, gT 66 8 rfl]
          rw [f_Layout_addPoint.eq_1, n8, if_neg (fun z => le_nlt.mp z q8), idx_n] at h3
          replace h3 := bnd_s h3 (ie_n _ (by omega))
          rw [if_neg (by decide)] at h3
          replace h3 := (grd_t h3).2
          replace h3 := wr_t h3
          obtain ⟨T4, e4, h3⟩ := h3
          replace h3 := (grd_t h3).2
          replace h3 := wr_t h3
          obtain ⟨T5, e5, h3⟩ := h3
          replace h3 := bndv_t h3
          obtain ⟨T6, h6, h3⟩ := h3
          have g6 := sp_f h6
          replace h3 := wr_t h3
          obtain ⟨T7, e7, h3⟩ := h3
          injection h3 with h3; injection h3 with c1 c2
          have v7 : T7.1 66 8 = S.1 66 8 + 1 := by
            rw [e7, st_here, g6 66 8 rfl, e5, st_at, if_neg (by decide), e4, st_at, if_neg (by decide), n8]
          rw [nI_clamp (n := 2 * t + s) (by omega)] at e4
          have w7 : ∀ i, T7.1 94 i = if i = 2 * t + s then S.1 66 8 else S.1 94 i := fun i => by
            rw [e7, st_at, if_neg (by decide), g6 94 i rfl, e5, st_at, if_neg (by decide), e4, st_at, if_pos rfl, n8, gT2 94 i rfl, gT 94 i rfl]
          have n15 : V.1 0 15 = S.1 0 15 := by rw [gV 0 15 rfl, k15]
          replace e2 := (grd_t e2).2
          replace e2 := wr_t e2
          obtain ⟨V1, f1, e2⟩ := e2
          replace e2 := (grd_t e2).2
          replace e2 := wr_t e2
          obtain ⟨V2, f2, e2⟩ := e2
          replace e2 := (grd_t e2).2
          replace e2 := wr_t e2
          obtain ⟨V3, f3, e2⟩ := e2
          replace e2 := (grd_t e2).2
          replace e2 := wr_t e2
          obtain ⟨V4, f4, e2⟩ := e2
          replace e2 := wr_t e2
          obtain ⟨V5, f5, e2⟩ := e2
          replace e2 := bndv_t e2
          obtain ⟨V6, h6', e2⟩ := e2
          have gV6 := mf_t h6'
          injection e2 with e2; injection e2 with d1 d2
          have v6 : V6.1 0 15 = S.1 0 15 + 1 := by
            rw [gV6 0 15 rfl, f5, st_here, f4, st_at, if_neg (by decide), f3, st_at, if_neg (by decide), f2, st_at, if_neg (by decide), f1, st_at, if_neg (by decide), n15]
          have w6 : ∀ i, V6.1 5 i = if i = 2 * t + s then S.1 0 15 else S.1 5 i := fun i => by
            rw [gV6 5 i rfl, f5, st_at, if_neg (by decide), f4, st_at, if_neg (by decide), f3, st_at, if_neg (by decide), f2, st_at, if_neg (by decide), f1, st_at, if_pos rfl, n15, gV 5 i rfl, k]
          refine ⟨?_, ?_, fun i => ?_⟩
          · rw [← b1, ← c1, ← d1, v7, v6, hp]
          · rw [k8, ← d2, v6, ← b2, ← c2, v7, hp]
          · rw [k2, ← d2, w6, ← b2, ← c2, w7, hp, h]
        · rw [if_neg qc] at e1
          rw [if_neg (fun z => qc (c94.trans z))] at e2
          obtain ⟨p1, p2, p3⟩ := no (by decide) gT e1
          replace e2 := bnd_t e2
          obtain ⟨v, U, hU, e2⟩ := e2
          obtain ⟨u1, u2⟩ := mo_t hU
          injection e2 with e2; injection e2 with d1 d2
          refine ⟨?_, ?_, fun i => ?_⟩
          · rw [p1, ← d1, u1]
          · rw [k8, p2, ← d2, u2 0 15 rfl, gV 0 15 rfl, k15, hp]
          · rw [k2, p3, ← d2, u2 5 i rfl, gV 5 i rfl, k, h]
      · rw [if_neg qt] at e1
        obtain ⟨p1, p2, p3⟩ := no qt gT e1
        replace e2 := bnd_t e2
        obtain ⟨v, U, hU, e2⟩ := e2
        obtain ⟨u1, u2⟩ := en_1 qt hU
        rw [if_neg (by rw [u1]; decide)] at e2
        injection e2 with e2; injection e2 with d1 d2
        refine ⟨?_, ?_, fun i => ?_⟩
        · rw [p1, ← d1]
        · rw [k8, p2, ← d2, u2 0 15 rfl, gV 0 15 rfl, k15, hp]
        · rw [k2, p3, ← d2, u2 5 i rfl, gV 5 i rfl, k, h]
    · rw [if_neg q8] at e1
      rw [if_pos (Classical.byContradiction (fun c => q8 (iff.mpr c)))] at e2
      injection e1 with e1; injection e1 with b1 b2
      injection e2 with e2; injection e2 with c1 c2
      refine ⟨by rw [← b1, ← c1], ?_, fun i => ?_⟩
      · rw [k8, ← b2, ← c2, k15, hp]
      · rw [k2, ← b2, ← c2, k, h]
  · rw [if_neg q] at e1
    rw [if_pos (Classical.byContradiction (fun c => q (sd_in.mpr c)))] at e2
    injection e1 with e1; injection e1 with b1 b2
    injection e2 with e2; injection e2 with c1 c2
    refine ⟨by rw [← b1, ← c1], ?_, fun i => ?_⟩
    · rw [k8, ← b2, ← c2, k15, hp]
    · rw [k2, ← b2, ← c2, k, h]
/-! ===== bar ===== -/
theorem bar_eq {a b c r1 r2 : Int32} {S S1 S2 : SS} (h : ∀ i, S.1 105 i = S.1 16 i) (e1 : f_Yard_bar a b c S = some (r1, S1)) (e2 : f_M_bar a b c S1 = some (r2, S2)) (k : ∀ i, S1.1 16 i = S.1 16 i) (k2 : ∀ i, S2.1 105 i = S1.1 105 i) : r1 = r2 ∧ ∀ i, S2.1 105 i = S2.1 16 i := by
  rw [f_Yard_bar.eq_1] at e1
  rw [f_M_bar.eq_1] at e2
  replace e1 := bnd_s e1 (in_v _ _ _ _)
  by_cases p1 : inV a 0 9 = 0
  · rw [if_pos p1] at e1
    obtain ⟨z1, z2⟩ := inV0.mp p1
    rw [if_neg z1, if_neg (le_nlt.mp z2)] at e2
    replace e1 := bnd_s e1 (in_v _ _ _ _)
    by_cases p2 : inV b 0 9 = 0
    · rw [if_pos p2] at e1
      obtain ⟨y1, y2⟩ := inV0.mp p2
      rw [if_neg y1, if_pos y2] at e2
      replace e1 := bndv_t e1
      obtain ⟨T, hT, e1⟩ := e1
      have gT := hf_t hT
      replace e1 := bnd_t e1
      obtain ⟨r7, T2, h7, e1⟩ := e1
      rw [f_Bodies_setBarred.eq_1] at h7
      replace h7 := bnd_t h7
      obtain ⟨rb, T3, hb, h7⟩ := h7
      rw [f_Bodies_isBarred.eq_1] at hb
      replace hb := bnd_s hb (in_v _ _ _ _)
      rw [if_pos p1] at hb
      replace hb := bnd_s hb (in_v _ _ _ _)
      rw [if_pos p2] at hb
      replace hb := (grd_t hb).2
      have hb2 : T3 = T ∧ ((T.1 105 ((10 : Int32) * a + b).toNatClampNeg = 0 ∧ rb = 0) ∨ (¬ T.1 105 ((10 : Int32) * a + b).toNatClampNeg = 0 ∧ rb = 1)) := by
        by_cases c0 : T.1 105 ((10 : Int32) * a + b).toNatClampNeg = 0
        · rw [if_pos c0] at hb
          injection hb with hb; injection hb with b1 b2
          exact ⟨b2.symm, Or.inl ⟨c0, b1.symm⟩⟩
        · rw [if_neg c0] at hb
          injection hb with hb; injection hb with b1 b2
          exact ⟨b2.symm, Or.inr ⟨c0, b1.symm⟩⟩
      obtain ⟨e3, hb2⟩ := hb2
      replace h7 := bnd_s h7 (in_v _ _ _ _)
      rw [if_pos p1] at h7
      replace h7 := bnd_s h7 (in_v _ _ _ _)
      rw [if_pos p2] at h7
      replace h7 := (grd_t h7).2
      replace h7 := wr_t h7
      obtain ⟨T4, e4, h7⟩ := h7
      replace h7 := (grd_t h7).2
      replace h7 := wr_t h7
      obtain ⟨T5, e5, h7⟩ := h7
      replace h7 := (grd_t h7).2
      injection h7 with h7; injection h7 with c1 c2
      replace e2 := (grd_t e2).2
      have e105 : ∀ i, S1.1 105 i = T5.1 105 i := fun i => by
        rcases ite_or e1 with e | e <;> (injection e with e; injection e with d1 d2; rw [← d2, ← c2])
      have cell : T.1 105 ((10 : Int32) * a + b).toNatClampNeg = S1.1 16 ((10 : Int32) * a + b).toNatClampNeg := by rw [gT 105 _ rfl, h, k]
      have key : ∀ y : Int32, f_M_bar_j41 a b c y S1 = some (r2, S2) → r2 = y ∧ ∀ i, S2.1 105 i = S2.1 16 i := fun y hy => by
        rw [f_M_bar_j41.eq_1] at hy
        replace hy := (grd_t hy).2
        replace hy := wr_t hy
        obtain ⟨U1, u1, hy⟩ := hy
        replace hy := (grd_t hy).2
        replace hy := wr_t hy
        obtain ⟨U2, u2, hy⟩ := hy
        replace hy := bndv_t hy
        obtain ⟨U3, hU3, hy⟩ := hy
        have g3 := mf_t hU3
        injection hy with hy; injection hy with d1 d2
        refine ⟨d1.symm, fun i => ?_⟩
        rw [k2, e105, e5, st_at, if_pos rfl, e4, st_at, if_pos rfl, ← d2, g3 16 i rfl, u2, st_at, if_pos rfl, u1, st_at, if_pos rfl, e3, gT 105 i rfl, h, k]
      rcases hb2 with ⟨c0, r0⟩ | ⟨c0, r0⟩
      · rw [if_pos (cell ▸ c0)] at e2
        obtain ⟨p3, p4⟩ := key 0 e2
        rw [if_pos (by rw [← c1, r0])] at e1
        injection e1 with e1; injection e1 with d1 d2
        exact ⟨by rw [← d1, p3], p4⟩
      · rw [if_neg (fun z => c0 (cell.trans z))] at e2
        obtain ⟨p3, p4⟩ := key 1 e2
        rw [if_neg (by rw [← c1, r0]; decide)] at e1
        injection e1 with e1; injection e1 with d1 d2
        exact ⟨by rw [← d1, p3], p4⟩
    · rw [if_neg p2] at e1
      have e3 : some ((-1 : Int32), S1) = some (r2, S2) := by
        by_cases c : b < 0
        · rw [if_pos c] at e2; exact e2
        · rw [if_neg c, if_neg (fun q => p2 (inV0.mpr ⟨c, q⟩))] at e2; exact e2
      injection e1 with e1; injection e1 with a1 a2
      injection e3 with e3; injection e3 with b1 b2
      exact ⟨by rw [← a1, ← b1], fun i => by rw [k2, ← b2, ← a2, h]⟩
  · rw [if_neg p1] at e1
    have e3 : some ((-1 : Int32), S1) = some (r2, S2) := by
      by_cases c : a < 0
      · rw [if_pos c] at e2; exact e2
      · rw [if_neg c, if_pos (Classical.byContradiction (fun q => p1 (inV0.mpr ⟨c, le_nlt.mpr q⟩)))] at e2
        exact e2
    injection e1 with e1; injection e1 with a1 a2
    injection e3 with e3; injection e3 with b1 b2
    exact ⟨by rw [← a1, ← b1], fun i => by rw [k2, ← b2, ← a2, h]⟩
end
section
/-! ===== raise, room ===== -/
theorem raise_eq {a r1 r2 : Int32} {S S1 S2 : SS} (hW : WR S) (w1 : WR S1) (e1 : f_Yard_raise a S = some (r1, S1)) (e2 : f_M_raise a S1 = some (r2, S2)) : r1 = r2 := by
  obtain ⟨ra, Ua, ea, -, -, ha⟩ := t_Yard_raise (a1 := a) hW
  obtain ⟨rb, Ub, eb, -, -, hb⟩ := t_M_raise (a1 := a) w1
  rw [ea] at e1
  rw [eb] at e2
  injection e1 with e1; injection e1 with c1 c2
  injection e2 with e2; injection e2 with d1 d2
  rw [← c1, ← d1]
  exact d_eq ha hb rfl
theorem hs_n {k : Nat} (S : SS) (hk : k < 4) : f_Stacks_height_start (nI k) S = some (S.1 123 k, S) := by
  rw [f_Stacks_height_start.eq_1, if_neg (nI_nn (by omega)), if_neg (show ¬ ((4 : Int32) ≤ nI k) from nI_ge (b := 4) hk (by omega)), inb_nI hk (by omega), nI_clamp (by omega)]
  rfl
theorem hg_n {k : Nat} (S : SS) (hk : k < 4) : f_Stacks_height_goal (nI k) S = some (S.1 125 k, S) := by
  rw [f_Stacks_height_goal.eq_1, if_neg (nI_nn (by omega)), if_neg (show ¬ ((4 : Int32) ≤ nI k) from nI_ge (b := 4) hk (by omega)), inb_nI hk (by omega), nI_clamp (by omega)]
  rfl
theorem in_n {a lo hi : Int32} {l h : Nat} (hl : lo = nI l) (hh : hi = nI h) (hb : h < 2 ^ 31) (hl2 : l < 2 ^ 31) (k : inV a lo hi = 0) : ∃ j, l ≤ j ∧ j ≤ h ∧ a = nI j := by
  obtain ⟨k1, k2⟩ := inV0.mp k
  rw [Int32.lt_iff_toInt_lt, hl, nI_ti hl2] at k1
  rw [Int32.le_iff_toInt_le, hh, nI_ti hb] at k2
  obtain ⟨j, rfl, j1, j2, j3⟩ := rg_ex (x := a) (a := 0) (b := h) ⟨by omega, by omega⟩ (by omega)
  rw [nI_ti j3] at k1 k2
  exact ⟨j, by omega, by omega, rfl⟩
theorem room_eq {a b r1 r2 : Int32} {S S1 S2 : SS} (hr : ∀ i, S.1 106 i = S.1 46 i) (hs : ∀ i, S.1 123 i = S.1 47 i) (hg : ∀ i, S.1 125 i = S.1 49 i) (e1 : f_Yard_room a b S = some (r1, S1)) (e2 : f_M_room a b S1 = some (r2, S2)) (k46 : ∀ i, S1.1 46 i = S.1 46 i) (k47 : ∀ i, S1.1 47 i = S.1 47 i) (k49 : ∀ i, S1.1 49 i = S.1 49 i) (k2 : ∀ i, S2.1 106 i = S1.1 106 i) : r1 = r2 ∧ ∀ i, S2.1 106 i = S2.1 46 i := by
  rw [f_Yard_room.eq_1] at e1
  rw [f_M_room.eq_1] at e2
  have stay : some ((-1 : Int32), S) = some (r1, S1) → some ((-1 : Int32), S1) = some (r2, S2) → r1 = r2 ∧ ∀ i, S2.1 106 i = S2.1 46 i := fun a b => by
    injection a with a; injection a with a1 a2
    injection b with b; injection b with b1 b2
    exact ⟨by rw [← a1, ← b1], fun i => by rw [← b2, ← a2, hr]⟩
  replace e1 := bnd_s e1 (in_v _ _ _ _)
  by_cases p1 : inV a 0 3 = 0
  · rw [if_pos p1] at e1
    obtain ⟨s, s0, s1, rfl⟩ := in_n (l := 0) (h := 3) rfl rfl (by omega) (by omega) p1
    rw [if_neg (nI_nn (by omega)), if_neg (show ¬ ((4 : Int32) ≤ nI s) from nI_ge (b := 4) (by omega) (by omega))] at e2
    replace e1 := bnd_s e1 (in_v _ _ _ _)
    by_cases p2 : inV b 1 10 = 0
    · rw [if_pos p2] at e1
      obtain ⟨z1, z2⟩ := inV0.mp p2
      rw [if_neg z1, if_neg (le_nlt.mp z2)] at e2
      replace e2 := (grd_t e2).2
      rw [nI_clamp (n := s) (by omega), k47] at e2
      replace e1 := bnd_t e1
      obtain ⟨r6, T, h6, e1⟩ := e1
      injection e1 with e1; injection e1 with a1 a2
      rw [f_Plans_setRoom.eq_1, if_neg (nI_nn (by omega)), if_neg (show ¬ ((4 : Int32) ≤ nI s) from nI_ge (b := 4) (by omega) (by omega))] at h6
      replace h6 := bnd_s h6 (hs_n _ (by omega))
      by_cases q1 : b < S.1 47 s
      · rw [hs, if_pos q1] at h6
        rw [if_pos q1] at e2
        injection h6 with h6; injection h6 with c1 c2
        exact stay (by rw [← a1, ← a2, ← c1, ← c2]) e2
      · rw [hs, if_neg q1] at h6
        rw [if_neg q1] at e2
        replace h6 := bnd_s h6 (hg_n _ (by omega))
        replace e2 := (grd_t e2).2
        rw [k49] at e2
        by_cases q2 : S.1 49 s ≤ b
        · rw [hg, if_pos q2] at h6
          rw [if_pos q2] at e2
          replace h6 := (grd_t h6).2
          replace h6 := nm_q h6
          obtain ⟨z, ez, h6⟩ := h6
          replace h6 := (grd_t h6).2
          replace h6 := wr_t h6
          obtain ⟨T2, t2, h6⟩ := h6
          injection h6 with h6; injection h6 with c1 c2
          replace e2 := (grd_t e2).2
          replace e2 := nm_q e2
          obtain ⟨y, ey, e2⟩ := e2
          replace e2 := (grd_t e2).2
          replace e2 := wr_t e2
          obtain ⟨U2, u2, e2⟩ := e2
          injection e2 with e2; injection e2 with d1 d2
          rw [nI_clamp (n := s) (by omega)] at ez t2
          refine ⟨?_, fun i => ?_⟩
          · rw [← a1, ← c1, ← d1, ez, ey, k46, hr]
          · rw [k2, ← a2, ← c2, ← d2, t2, u2, st_at, if_pos rfl, st_at, if_pos rfl]
            by_cases ci : i = s
            · rw [if_pos ci, if_pos ci]
            · rw [if_neg ci, if_neg ci, k46, hr]
        · rw [hg, if_neg q2] at h6
          rw [if_neg q2] at e2
          injection h6 with h6; injection h6 with c1 c2
          exact stay (by rw [← a1, ← a2, ← c1, ← c2]) e2
    · rw [if_neg p2] at e1
      refine stay e1 ?_
      by_cases c : b < 1
      · rw [if_pos c] at e2; exact e2
      · rw [if_neg c, if_pos (Classical.byContradiction (fun q => p2 (inV0.mpr ⟨c, le_nlt.mpr q⟩)))] at e2; exact e2
  · rw [if_neg p1] at e1
    refine stay e1 ?_
    by_cases c : a < 0
    · rw [if_pos c] at e2; exact e2
    · rw [if_neg c, if_pos] at e2
      · exact e2
      · apply Classical.byContradiction
        intro q
        refine p1 (inV0.mpr ⟨c, ?_⟩)
        rw [Int32.le_iff_toInt_le] at q ⊢
        have e3 : (3 : Int32).toInt = 3 := by decide
        have e4 : (4 : Int32).toInt = 4 := by decide
        omega
end
