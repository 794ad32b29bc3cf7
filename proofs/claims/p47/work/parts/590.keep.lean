/-! ===== how much the log and the count of KICKS grow: at most by one in a call ===== -/
def Nn (a b : Nat) (S U : SS) : Prop := (U.1 0 62).toInt ≤ (S.1 0 62).toInt + a ∧ (U.1 0 47).toInt ≤ (S.1 0 47).toInt + b
theorem Nn.rf {S : SS} : Nn 0 0 S S := ⟨by omega, by omega⟩
theorem Nn.tr {a b c d : Nat} {S T U : SS} (h : Nn a b S T) (k : Nn c d T U) : Nn (a + c) (b + d) S U := ⟨by have := h.1; have := k.1; omega, by have := h.2; have := k.2; omega⟩
theorem Nn.le {a b c d : Nat} {S U : SS} (h : Nn a b S U) (h1 : a ≤ c) (h2 : b ≤ d) : Nn c d S U := ⟨by have := h.1; omega, by have := h.2; omega⟩
theorem inc_le (x : Int32) : (x + 1).toInt ≤ x.toInt + 1 := by
  rw [Int32.toInt_add, show (1 : Int32).toInt = 1 by decide, Int.bmod_def]
  have := x.toInt_lt
  have := x.le_toInt
  have e : ((2 ^ 32 : Nat) : Int) = 4294967296 := by decide
  rw [e]
  omega
theorem ite_or {ρ : Type} {P : Prop} [Decidable P] {x y : Option ρ} {r : ρ} (h : (if P then x else y) = some r) : x = some r ∨ y = some r := by
  by_cases c : P
  · rw [if_pos c] at h; exact Or.inl h
  · rw [if_neg c] at h; exact Or.inr h
theorem nm_t {α ρ : Type} {x : α} {f : α → Option ρ} {r : ρ} (h : nm x f = some r) : ∃ z, f z = some r := ⟨x, h⟩
theorem wr_t {ρ : Type} {S : SS} {k i : Nat} {v : Int32} {f : SS → Option ρ} {r : ρ} (h : wr S k i v f = some r) : ∃ T, T = st S k i v ∧ f T = some r := ⟨_, rfl, h⟩
theorem cpw_t {ρ : Type} {S : SS} {k0 k1 a d n : Nat} {f : SS → Option ρ} {r : ρ} (h : cpw S k0 k1 a d n f = some r) : ∃ T, T = cp S k0 k1 a d n ∧ f T = some r := ⟨_, rfl, h⟩
theorem some_1 {S U : SS} (h : some S = some U) : S = U := Option.some.inj h
theorem some_2 {α : Type} {r r' : α} {S U : SS} (h : some (r, S) = some (r', U)) : S = U := by
  injection h with h; injection h
theorem nn_st {S T : SS} {k i : Nat} {v : Int32} (e : T = st S k i v) (h : k ≠ 0) : Nn 0 0 S T := by
  subst e
  unfold Nn
  rw [st_at, if_neg (Ne.symm h), st_at, if_neg (Ne.symm h)]
  exact ⟨by omega, by omega⟩
theorem nn_0 {S T : SS} {k i : Nat} {v : Int32} (e : T = st S k i v) (h : i ≠ 62) (h' : i ≠ 47) : Nn 0 0 S T := by
  subst e
  unfold Nn
  rw [st_at, st_at]
  by_cases c : 0 = k
  · rw [if_pos c, if_neg (Ne.symm h), if_pos c, if_neg (Ne.symm h')]
    exact ⟨by omega, by omega⟩
  · rw [if_neg c, if_neg c]
    exact ⟨by omega, by omega⟩
theorem nn_62 {S T : SS} (e : T = st S 0 62 (S.1 0 62 + 1)) : Nn 1 0 S T := by
  subst e
  unfold Nn
  rw [st_at, if_pos rfl, if_pos rfl, st_at, if_pos rfl, if_neg (by decide)]
  have := inc_le (S.1 0 62)
  exact ⟨by omega, by omega⟩
theorem nn_47 {S T : SS} (e : T = st S 0 47 (S.1 0 47 + 1)) : Nn 0 1 S T := by
  subst e
  unfold Nn
  rw [st_at, if_pos rfl, if_neg (by decide), st_at, if_pos rfl, if_pos rfl]
  have := inc_le (S.1 0 47)
  exact ⟨by omega, by omega⟩
theorem nn_cp {S T : SS} {k0 k1 a d n : Nat} (e : T = cp S k0 k1 a d n) (h : 0 ≠ k1) : Nn 0 0 S T := by
  subst e
  unfold Nn
  rw [cp_row _ _ _ _ _ _ h]
  exact ⟨by omega, by omega⟩
theorem k_M_areTogether_j39 {a b : Nat} (ha : 0 ≤ a) (hb : 0 ≤ b) {K10 : Int32 → Int32 → Int32 → SS → Option (Int32 × SS)} (hK10 : ∀ {y0 y1 y2 : Int32} {S U : SS} {r : Int32}, K10 y0 y1 y2 S = some (r, U) → Nn a b S U) {x2 : Int32} {x4 : Int32} {y0 : Int32} {S U : SS} {r : Int32} (h : f_M_areTogether_j39 K10 x2 x4 y0 S = some (r, U)) : Nn a b S U := by
  rw [f_M_areTogether_j39.eq_1] at h
  have n0 : Nn 0 0 S S := Nn.rf
  obtain ⟨_, h⟩ := nm_t h
  exact (n0.tr (hK10 h)).le (by omega) (by omega)
theorem k_M_areTogether_j34 {a b : Nat} (ha : 0 ≤ a) (hb : 0 ≤ b) {K10 : Int32 → Int32 → Int32 → SS → Option (Int32 × SS)} (hK10 : ∀ {y0 y1 y2 : Int32} {S U : SS} {r : Int32}, K10 y0 y1 y2 S = some (r, U) → Nn a b S U) {x2 : Int32} {x4 : Int32} {S U : SS} {r : Int32} (h : f_M_areTogether_j34 K10 x2 x4 S = some (r, U)) : Nn a b S U := by
  rw [f_M_areTogether_j34.eq_1] at h
  have n0 : Nn 0 0 S S := Nn.rf
  exact (n0.tr (k_M_areTogether_j39 (a := a) (b := b) (by omega) (by omega) hK10 h)).le (by omega) (by omega)
theorem k_M_areTogether_L10 : ∀ {n : Nat} {x2 : Int32} {x3 : Int32} {x4 : Int32} {S U : SS} {r : Int32}, f_M_areTogether_L10 n x2 x3 x4 S = some (r, U) → Nn 0 0 S U := by
  intro n
  induction n with
  | zero =>
    intro x2 x3 x4 S U r h
    rw [f_M_areTogether_L10.eq_1] at h
    cases h
  | succ n ih =>
    intro x2 x3 x4 S U r h
    rw [f_M_areTogether_L10.eq_2] at h
    have n0 : Nn 0 0 S S := Nn.rf
    rcases ite_or h with h | h
    · replace h := (grd_t h).2
      have h := some_2 h
      subst h
      exact n0.le (by omega) (by omega)
    · rcases ite_or h with h | h
      · replace h := (grd_t h).2
        rcases ite_or h with h | h
        · exact (n0.tr (k_M_areTogether_j34 (a := 0) (b := 0) (by omega) (by omega) (fun h => ih h) h)).le (by omega) (by omega)
        · exact (n0.tr (k_M_areTogether_j39 (a := 0) (b := 0) (by omega) (by omega) (fun h => ih h) h)).le (by omega) (by omega)
      · exact (n0.tr (k_M_areTogether_j34 (a := 0) (b := 0) (by omega) (by omega) (fun h => ih h) h)).le (by omega) (by omega)
theorem k_M_sideTo {a1 : Int32} {a2 : Int32} {S U : SS} {r : Int32} (h : f_M_sideTo a1 a2 S = some (r, U)) : Nn 0 0 S U := by
  rw [f_M_sideTo.eq_1] at h
  have n0 : Nn 0 0 S S := Nn.rf
  replace h := (grd_t h).2
  rcases ite_or h with h | h
  · have h := some_2 h
    subst h
    exact n0.le (by omega) (by omega)
  · have h := some_2 h
    subst h
    exact n0.le (by omega) (by omega)
theorem k_M_lineUp_L81 : ∀ {n : Nat} {x2 : Int32} {x3 : Int32} {S U : SS}, f_M_lineUp_L81 n x2 x3 S = some U → Nn 0 0 S U := by
  intro n
  induction n with
  | zero =>
    intro x2 x3 S U h
    rw [f_M_lineUp_L81.eq_1] at h
    cases h
  | succ n ih =>
    intro x2 x3 S U h
    rw [f_M_lineUp_L81.eq_2] at h
    have n0 : Nn 0 0 S S := Nn.rf
    replace h := (grd_t h).2
    rcases ite_or h with h | h
    · obtain ⟨S1, e1, h⟩ := wr_t h
      have n1 := n0.tr (nn_0 e1 (by decide) (by decide))
      have h := some_1 h
      subst h
      exact n1.le (by omega) (by omega)
    · replace h := (grd_t h).2
      obtain ⟨_, h⟩ := nm_t h
      obtain ⟨_, S2, hc2, h⟩ := bnd_t h
      have n2 := n0.tr (k_M_sideTo hc2)
      obtain ⟨_, h⟩ := nm_t h
      replace h := (grd_t h).2
      obtain ⟨S3, e3, h⟩ := wr_t h
      have n3 := n2.tr (nn_st e3 (by decide))
      obtain ⟨S4, e4, h⟩ := wr_t h
      have n4 := n3.tr (nn_0 e4 (by decide) (by decide))
      exact (n4.tr (ih h)).le (by omega) (by omega)
theorem k_M_lineUp_L4 : ∀ {n : Nat} {x2 : Int32} {x3 : Int32} {S U : SS}, f_M_lineUp_L4 n x2 x3 S = some U → Nn 0 0 S U := by
  intro n
  induction n with
  | zero =>
    intro x2 x3 S U h
    rw [f_M_lineUp_L4.eq_1] at h
    cases h
  | succ n ih =>
    intro x2 x3 S U h
    rw [f_M_lineUp_L4.eq_2] at h
    have n0 : Nn 0 0 S S := Nn.rf
    replace h := (grd_t h).2
    rcases ite_or h with h | h
    · obtain ⟨S1, e1, h⟩ := wr_t h
      have n1 := n0.tr (nn_0 e1 (by decide) (by decide))
      obtain ⟨S2, e2, h⟩ := wr_t h
      have n2 := n1.tr (nn_0 e2 (by decide) (by decide))
      obtain ⟨_, h⟩ := nm_t h
      replace h := (grd_t h).2
      obtain ⟨S3, e3, h⟩ := wr_t h
      have n3 := n2.tr (nn_st e3 (by decide))
      obtain ⟨S4, e4, h⟩ := wr_t h
      have n4 := n3.tr (nn_0 e4 (by decide) (by decide))
      exact (n4.tr (k_M_lineUp_L81 h)).le (by omega) (by omega)
    · replace h := (grd_t h).2
      obtain ⟨_, h⟩ := nm_t h
      obtain ⟨_, S5, hc5, h⟩ := bnd_t h
      have n5 := n0.tr (k_M_sideTo hc5)
      obtain ⟨_, h⟩ := nm_t h
      exact (n5.tr (ih h)).le (by omega) (by omega)
theorem k_M_lineUp {a1 : Int32} {S U : SS} (h : f_M_lineUp a1 S = some U) : Nn 0 0 S U := by
  rw [f_M_lineUp.eq_1] at h
  have n0 : Nn 0 0 S S := Nn.rf
  exact (n0.tr (k_M_lineUp_L4 h)).le (by omega) (by omega)
theorem k_M_areTogether {a1 : Int32} {a2 : Int32} {S U : SS} {r : Int32} (h : f_M_areTogether a1 a2 S = some (r, U)) : Nn 0 0 S U := by
  rw [f_M_areTogether.eq_1] at h
  have n0 : Nn 0 0 S S := Nn.rf
  obtain ⟨S1, hc1, h⟩ := bndv_t h
  have n1 := n0.tr (k_M_lineUp hc1)
  exact (n1.tr (k_M_areTogether_L10 h)).le (by omega) (by omega)
theorem k_M_begin {S U : SS} (h : f_M_begin S = some U) : Nn 0 0 S U := by
  rw [f_M_begin.eq_1] at h
  have n0 : Nn 0 0 S S := Nn.rf
  obtain ⟨S1, e1, h⟩ := wr_t h
  have n1 := n0.tr (nn_0 e1 (by decide) (by decide))
  obtain ⟨S2, e2, h⟩ := wr_t h
  have n2 := n1.tr (nn_0 e2 (by decide) (by decide))
  obtain ⟨S3, e3, h⟩ := wr_t h
  have n3 := n2.tr (nn_0 e3 (by decide) (by decide))
  obtain ⟨S4, e4, h⟩ := wr_t h
  have n4 := n3.tr (nn_0 e4 (by decide) (by decide))
  obtain ⟨S5, e5, h⟩ := wr_t h
  have n5 := n4.tr (nn_0 e5 (by decide) (by decide))
  have h := some_1 h
  subst h
  exact n5.le (by omega) (by omega)
theorem k_M_note {a1 : Int32} {S U : SS} (h : f_M_note a1 S = some U) : Nn 0 0 S U := by
  rw [f_M_note.eq_1] at h
  have n0 : Nn 0 0 S S := Nn.rf
  rcases ite_or h with h | h
  · have h := some_1 h
    subst h
    exact n0.le (by omega) (by omega)
  · replace h := (grd_t h).2
    obtain ⟨S1, e1, h⟩ := wr_t h
    have n1 := n0.tr (nn_st e1 (by decide))
    obtain ⟨S2, e2, h⟩ := wr_t h
    have n2 := n1.tr (nn_0 e2 (by decide) (by decide))
    have h := some_1 h
    subst h
    exact n2.le (by omega) (by omega)
theorem k_M_brake {a1 : Int32} {S U : SS} {r : Int32} (h : f_M_brake a1 S = some (r, U)) : Nn 0 0 S U := by
  rw [f_M_brake.eq_1] at h
  have n0 : Nn 0 0 S S := Nn.rf
  replace h := (grd_t h).2
  rcases ite_or h with h | h
  · obtain ⟨S1, hc1, h⟩ := bndv_t h
    have n1 := n0.tr (k_M_note hc1)
    replace h := (grd_t h).2
    have h := some_2 h
    subst h
    exact n1.le (by omega) (by omega)
  · rcases ite_or h with h | h
    · obtain ⟨S2, hc2, h⟩ := bndv_t h
      have n2 := n0.tr (k_M_note hc2)
      replace h := (grd_t h).2
      have h := some_2 h
      subst h
      exact n2.le (by omega) (by omega)
    · rcases ite_or h with h | h
      · obtain ⟨S3, hc3, h⟩ := bndv_t h
        have n3 := n0.tr (k_M_note hc3)
        obtain ⟨S4, hc4, h⟩ := bndv_t h
        have n4 := n3.tr (k_M_note hc4)
        replace h := (grd_t h).2
        have h := some_2 h
        subst h
        exact n4.le (by omega) (by omega)
      · rcases ite_or h with h | h
        · obtain ⟨S5, hc5, h⟩ := bndv_t h
          have n5 := n0.tr (k_M_note hc5)
          replace h := (grd_t h).2
          have h := some_2 h
          subst h
          exact n5.le (by omega) (by omega)
        · rcases ite_or h with h | h
          · obtain ⟨S6, hc6, h⟩ := bndv_t h
            have n6 := n0.tr (k_M_note hc6)
            replace h := (grd_t h).2
            have h := some_2 h
            subst h
            exact n6.le (by omega) (by omega)
          · rcases ite_or h with h | h
            · obtain ⟨S7, hc7, h⟩ := bndv_t h
              have n7 := n0.tr (k_M_note hc7)
              have h := some_2 h
              subst h
              exact n7.le (by omega) (by omega)
            · obtain ⟨S8, hc8, h⟩ := bndv_t h
              have n8 := n0.tr (k_M_note hc8)
              obtain ⟨S9, hc9, h⟩ := bndv_t h
              have n9 := n8.tr (k_M_note hc9)
              have h := some_2 h
              subst h
              exact n9.le (by omega) (by omega)
theorem k_M_ends_j10 {x1 : Int32} {S U : SS} {r : Int32} (h : f_M_ends_j10 x1 S = some (r, U)) : Nn 0 0 S U := by
  rw [f_M_ends_j10.eq_1] at h
  have n0 : Nn 0 0 S S := Nn.rf
  rcases ite_or h with h | h
  · have h := some_2 h
    subst h
    exact n0.le (by omega) (by omega)
  · have h := some_2 h
    subst h
    exact n0.le (by omega) (by omega)
theorem k_M_found {a1 : Int32} {S U : SS} {r : Int32} (h : f_M_found a1 S = some (r, U)) : Nn 0 0 S U := by
  rw [f_M_found.eq_1] at h
  have n0 : Nn 0 0 S S := Nn.rf
  obtain ⟨S1, e1, h⟩ := wr_t h
  have n1 := n0.tr (nn_0 e1 (by decide) (by decide))
  replace h := (grd_t h).2
  replace h := (grd_t h).2
  obtain ⟨S2, e2, h⟩ := wr_t h
  have n2 := n1.tr (nn_st e2 (by decide))
  have h := some_2 h
  subst h
  exact n2.le (by omega) (by omega)
theorem k_M_ends {a1 : Int32} {S U : SS} {r : Int32} (h : f_M_ends a1 S = some (r, U)) : Nn 0 0 S U := by
  rw [f_M_ends.eq_1] at h
  have n0 : Nn 0 0 S S := Nn.rf
  rcases ite_or h with h | h
  · exact (n0.tr (k_M_ends_j10 h)).le (by omega) (by omega)
  · obtain ⟨_, S1, hc1, h⟩ := bnd_t h
    have n1 := n0.tr (k_M_found hc1)
    exact (n1.tr (k_M_ends_j10 h)).le (by omega) (by omega)
theorem k_M_entered {a1 : Int32} {a2 : Int32} {S U : SS} {r : Int32} (h : f_M_entered a1 a2 S = some (r, U)) : Nn 1 0 S U := by
  rw [f_M_entered.eq_1] at h
  have n0 : Nn 0 0 S S := Nn.rf
  replace h := (grd_t h).2
  obtain ⟨S1, e1, h⟩ := wr_t h
  have n1 := n0.tr (nn_st e1 (by decide))
  replace h := (grd_t h).2
  obtain ⟨S2, e2, h⟩ := wr_t h
  have n2 := n1.tr (nn_st e2 (by decide))
  obtain ⟨S3, e3, h⟩ := wr_t h
  have n3 := n2.tr (nn_62 e3)
  have h := some_2 h
  subst h
  exact n3.le (by omega) (by omega)
theorem k_M_save_L272 : ∀ {n : Nat} {x2 : Int32} {x3 : Int32} {S U : SS}, f_M_save_L272 n x2 x3 S = some U → Nn 0 0 S U := by
  intro n
  induction n with
  | zero =>
    intro x2 x3 S U h
    rw [f_M_save_L272.eq_1] at h
    cases h
  | succ n ih =>
    intro x2 x3 S U h
    rw [f_M_save_L272.eq_2] at h
    have n0 : Nn 0 0 S S := Nn.rf
    rcases ite_or h with h | h
    · replace h := (grd_t h).2
      obtain ⟨S1, e1, h⟩ := wr_t h
      have n1 := n0.tr (nn_st e1 (by decide))
      have h := some_1 h
      subst h
      exact n1.le (by omega) (by omega)
    · replace h := (grd_t h).2
      replace h := (grd_t h).2
      obtain ⟨S2, e2, h⟩ := wr_t h
      have n2 := n0.tr (nn_st e2 (by decide))
      replace h := (grd_t h).2
      replace h := (grd_t h).2
      obtain ⟨S3, e3, h⟩ := wr_t h
      have n3 := n2.tr (nn_st e3 (by decide))
      obtain ⟨_, h⟩ := nm_t h
      obtain ⟨_, h⟩ := nm_t h
      exact (n3.tr (ih h)).le (by omega) (by omega)
theorem k_M_save_j260 {a b : Nat} (ha : 0 ≤ a) (hb : 0 ≤ b) {K8 : Int32 → Int32 → SS → Option (SS)} (hK8 : ∀ {y0 y1 : Int32} {S U : SS}, K8 y0 y1 S = some U → Nn a b S U) {x2 : Int32} {x3 : Int32} {y0 : Int32} {y1 : Int32} {S U : SS} (h : f_M_save_j260 K8 x2 x3 y0 y1 S = some U) : Nn a b S U := by
  rw [f_M_save_j260.eq_1] at h
  have n0 : Nn 0 0 S S := Nn.rf
  replace h := (grd_t h).2
  obtain ⟨S1, e1, h⟩ := wr_t h
  have n1 := n0.tr (nn_st e1 (by decide))
  obtain ⟨_, h⟩ := nm_t h
  obtain ⟨_, h⟩ := nm_t h
  exact (n1.tr (hK8 h)).le (by omega) (by omega)
theorem k_M_save_j207 {a b : Nat} (ha : 0 ≤ a) (hb : 0 ≤ b) {K8 : Int32 → Int32 → SS → Option (SS)} (hK8 : ∀ {y0 y1 : Int32} {S U : SS}, K8 y0 y1 S = some U → Nn a b S U) {x2 : Int32} {x3 : Int32} {y0 : Int32} {y1 : Int32} {S U : SS} (h : f_M_save_j207 K8 x2 x3 y0 y1 S = some U) : Nn a b S U := by
  rw [f_M_save_j207.eq_1] at h
  have n0 : Nn 0 0 S S := Nn.rf
  replace h := (grd_t h).2
  obtain ⟨S1, e1, h⟩ := wr_t h
  have n1 := n0.tr (nn_st e1 (by decide))
  replace h := (grd_t h).2
  replace h := (grd_t h).2
  obtain ⟨S2, e2, h⟩ := wr_t h
  have n2 := n1.tr (nn_st e2 (by decide))
  replace h := (grd_t h).2
  replace h := (grd_t h).2
  obtain ⟨S3, e3, h⟩ := wr_t h
  have n3 := n2.tr (nn_st e3 (by decide))
  replace h := (grd_t h).2
  rcases ite_or h with h | h
  · exact (n3.tr (k_M_save_j260 (a := a) (b := b) (by omega) (by omega) hK8 h)).le (by omega) (by omega)
  · exact (n3.tr (k_M_save_j260 (a := a) (b := b) (by omega) (by omega) hK8 h)).le (by omega) (by omega)
theorem k_M_save_j33 {a b : Nat} (ha : 0 ≤ a) (hb : 0 ≤ b) {K8 : Int32 → Int32 → SS → Option (SS)} (hK8 : ∀ {y0 y1 : Int32} {S U : SS}, K8 y0 y1 S = some U → Nn a b S U) {x2 : Int32} {x3 : Int32} {y0 : Int32} {y1 : Int32} {S U : SS} (h : f_M_save_j33 K8 x2 x3 y0 y1 S = some U) : Nn a b S U := by
  rw [f_M_save_j33.eq_1] at h
  have n0 : Nn 0 0 S S := Nn.rf
  replace h := (grd_t h).2
  obtain ⟨S1, e1, h⟩ := wr_t h
  have n1 := n0.tr (nn_st e1 (by decide))
  replace h := (grd_t h).2
  replace h := (grd_t h).2
  obtain ⟨S2, e2, h⟩ := wr_t h
  have n2 := n1.tr (nn_st e2 (by decide))
  replace h := (grd_t h).2
  replace h := (grd_t h).2
  obtain ⟨S3, e3, h⟩ := wr_t h
  have n3 := n2.tr (nn_st e3 (by decide))
  replace h := (grd_t h).2
  replace h := (grd_t h).2
  obtain ⟨S4, e4, h⟩ := wr_t h
  have n4 := n3.tr (nn_st e4 (by decide))
  replace h := (grd_t h).2
  replace h := (grd_t h).2
  obtain ⟨S5, e5, h⟩ := wr_t h
  have n5 := n4.tr (nn_st e5 (by decide))
  replace h := (grd_t h).2
  replace h := (grd_t h).2
  obtain ⟨S6, e6, h⟩ := wr_t h
  have n6 := n5.tr (nn_st e6 (by decide))
  replace h := (grd_t h).2
  replace h := (grd_t h).2
  obtain ⟨S7, e7, h⟩ := wr_t h
  have n7 := n6.tr (nn_st e7 (by decide))
  replace h := (grd_t h).2
  replace h := (grd_t h).2
  obtain ⟨S8, e8, h⟩ := wr_t h
  have n8 := n7.tr (nn_st e8 (by decide))
  replace h := (grd_t h).2
  replace h := (grd_t h).2
  obtain ⟨S9, e9, h⟩ := wr_t h
  have n9 := n8.tr (nn_st e9 (by decide))
  replace h := (grd_t h).2
  replace h := (grd_t h).2
  obtain ⟨S10, e10, h⟩ := wr_t h
  have n10 := n9.tr (nn_st e10 (by decide))
  replace h := (grd_t h).2
  replace h := (grd_t h).2
  obtain ⟨S11, e11, h⟩ := wr_t h
  have n11 := n10.tr (nn_st e11 (by decide))
  replace h := (grd_t h).2
  rcases ite_or h with h | h
  · exact (n11.tr (k_M_save_j207 (a := a) (b := b) (by omega) (by omega) hK8 h)).le (by omega) (by omega)
  · exact (n11.tr (k_M_save_j207 (a := a) (b := b) (by omega) (by omega) hK8 h)).le (by omega) (by omega)
theorem k_M_save_L8 : ∀ {n : Nat} {x2 : Int32} {x3 : Int32} {S U : SS}, f_M_save_L8 n x2 x3 S = some U → Nn 0 0 S U := by
  intro n
  induction n with
  | zero =>
    intro x2 x3 S U h
    rw [f_M_save_L8.eq_1] at h
    cases h
  | succ n ih =>
    intro x2 x3 S U h
    rw [f_M_save_L8.eq_2] at h
    have n0 : Nn 0 0 S S := Nn.rf
    rcases ite_or h with h | h
    · exact (n0.tr (k_M_save_L272 h)).le (by omega) (by omega)
    · replace h := (grd_t h).2
      rcases ite_or h with h | h
      · exact (n0.tr (k_M_save_j33 (a := 0) (b := 0) (by omega) (by omega) (fun h => ih h) h)).le (by omega) (by omega)
      · exact (n0.tr (k_M_save_j33 (a := 0) (b := 0) (by omega) (by omega) (fun h => ih h) h)).le (by omega) (by omega)
theorem k_M_save {a1 : Int32} {S U : SS} (h : f_M_save a1 S = some U) : Nn 0 0 S U := by
  rw [f_M_save.eq_1] at h
  have n0 : Nn 0 0 S S := Nn.rf
  obtain ⟨_, h⟩ := nm_t h
  exact (n0.tr (k_M_save_L8 h)).le (by omega) (by omega)
theorem k_M_keep_j50 {S U : SS} (h : f_M_keep_j50 S = some U) : Nn 0 0 S U := by
  rw [f_M_keep_j50.eq_1] at h
  have n0 : Nn 0 0 S S := Nn.rf
  obtain ⟨S1, hc1, h⟩ := bndv_t h
  have n1 := n0.tr (k_M_save hc1)
  obtain ⟨S2, e2, h⟩ := wr_t h
  have n2 := n1.tr (nn_0 e2 (by decide) (by decide))
  obtain ⟨S3, e3, h⟩ := wr_t h
  have n3 := n2.tr (nn_0 e3 (by decide) (by decide))
  have h := some_1 h
  subst h
  exact n3.le (by omega) (by omega)
theorem k_M_keep_L11 : ∀ {n : Nat} {x1 : Int32} {S U : SS}, f_M_keep_L11 n x1 S = some U → Nn 0 0 S U := by
  intro n
  induction n with
  | zero =>
    intro x1 S U h
    rw [f_M_keep_L11.eq_1] at h
    cases h
  | succ n ih =>
    intro x1 S U h
    rw [f_M_keep_L11.eq_2] at h
    have n0 : Nn 0 0 S S := Nn.rf
    rcases ite_or h with h | h
    · obtain ⟨S1, e1, h⟩ := wr_t h
      have n1 := n0.tr (nn_0 e1 (by decide) (by decide))
      exact (n1.tr (k_M_keep_j50 h)).le (by omega) (by omega)
    · replace h := (grd_t h).2
      replace h := (grd_t h).2
      obtain ⟨S2, e2, h⟩ := wr_t h
      have n2 := n0.tr (nn_st e2 (by decide))
      obtain ⟨_, h⟩ := nm_t h
      exact (n2.tr (ih h)).le (by omega) (by omega)
theorem k_M_keep {S U : SS} (h : f_M_keep S = some U) : Nn 0 0 S U := by
  rw [f_M_keep.eq_1] at h
  have n0 : Nn 0 0 S S := Nn.rf
  rcases ite_or h with h | h
  · exact (n0.tr (k_M_keep_L11 h)).le (by omega) (by omega)
  · exact (n0.tr (k_M_keep_j50 h)).le (by omega) (by omega)
theorem k_M_isOpen_j163 {x1 : Int32} {x2 : Int32} {y0 : Int32} {S U : SS} {r : Int32} (h : f_M_isOpen_j163 x1 x2 y0 S = some (r, U)) : Nn 0 0 S U := by
  rw [f_M_isOpen_j163.eq_1] at h
  have n0 : Nn 0 0 S S := Nn.rf
  obtain ⟨S1, e1, h⟩ := wr_t h
  have n1 := n0.tr (nn_0 e1 (by decide) (by decide))
  rcases ite_or h with h | h
  · rcases ite_or h with h | h
    · have h := some_2 h
      subst h
      exact n1.le (by omega) (by omega)
    · have h := some_2 h
      subst h
      exact n1.le (by omega) (by omega)
  · have h := some_2 h
    subst h
    exact n1.le (by omega) (by omega)
theorem k_M_openLink_j26 {x1 : Int32} {y0 : Int32} {S U : SS} {r : Int32} (h : f_M_openLink_j26 x1 y0 S = some (r, U)) : Nn 0 0 S U := by
  rw [f_M_openLink_j26.eq_1] at h
  have n0 : Nn 0 0 S S := Nn.rf
  replace h := (grd_t h).2
  rcases ite_or h with h | h
  · have h := some_2 h
    subst h
    exact n0.le (by omega) (by omega)
  · have h := some_2 h
    subst h
    exact n0.le (by omega) (by omega)
theorem k_M_openLink {a1 : Int32} {S U : SS} {r : Int32} (h : f_M_openLink a1 S = some (r, U)) : Nn 0 0 S U := by
  rw [f_M_openLink.eq_1] at h
  have n0 : Nn 0 0 S S := Nn.rf
  replace h := (grd_t h).2
  rcases ite_or h with h | h
  · exact (n0.tr (k_M_openLink_j26 h)).le (by omega) (by omega)
  · replace h := (grd_t h).2
    replace h := (grd_t h).2
    exact (n0.tr (k_M_openLink_j26 h)).le (by omega) (by omega)
theorem k_M_placeAtEnd {a1 : Int32} {S U : SS} {r : Int32} (h : f_M_placeAtEnd a1 S = some (r, U)) : Nn 0 0 S U := by
  rw [f_M_placeAtEnd.eq_1] at h
  have n0 : Nn 0 0 S S := Nn.rf
  rcases ite_or h with h | h
  · have h := some_2 h
    subst h
    exact n0.le (by omega) (by omega)
  · replace h := (grd_t h).2
    have h := some_2 h
    subst h
    exact n0.le (by omega) (by omega)
theorem k_M_isOpen_j50 {x1 : Int32} {x2 : Int32} {x3 : Int32} {S U : SS} {r : Int32} (h : f_M_isOpen_j50 x1 x2 x3 S = some (r, U)) : Nn 0 0 S U := by
  rw [f_M_isOpen_j50.eq_1] at h
  have n0 : Nn 0 0 S S := Nn.rf
  obtain ⟨_, h⟩ := nm_t h
  obtain ⟨_, S1, hc1, h⟩ := bnd_t h
  have n1 := n0.tr (k_M_openLink hc1)
  rcases ite_or h with h | h
  · have h := some_2 h
    subst h
    exact n1.le (by omega) (by omega)
  · replace h := (grd_t h).2
    obtain ⟨_, h⟩ := nm_t h
    obtain ⟨_, S2, hc2, h⟩ := bnd_t h
    have n2 := n1.tr (k_M_openLink hc2)
    rcases ite_or h with h | h
    · have h := some_2 h
      subst h
      exact n2.le (by omega) (by omega)
    · replace h := (grd_t h).2
      replace h := (grd_t h).2
      rcases ite_or h with h | h
      · obtain ⟨S3, e3, h⟩ := wr_t h
        have n3 := n2.tr (nn_0 e3 (by decide) (by decide))
        obtain ⟨_, S4, hc4, h⟩ := bnd_t h
        have n4 := n3.tr (k_M_placeAtEnd hc4)
        obtain ⟨S5, e5, h⟩ := wr_t h
        have n5 := n4.tr (nn_0 e5 (by decide) (by decide))
        rcases ite_or h with h | h
        · exact (n5.tr (k_M_isOpen_j163 h)).le (by omega) (by omega)
        · exact (n5.tr (k_M_isOpen_j163 h)).le (by omega) (by omega)
      · have h := some_2 h
        subst h
        exact n2.le (by omega) (by omega)
theorem k_M_isOpen_j14 {x1 : Int32} {x2 : Int32} {x3 : Int32} {y0 : Int32} {S U : SS} {r : Int32} (h : f_M_isOpen_j14 x1 x2 x3 y0 S = some (r, U)) : Nn 0 0 S U := by
  rw [f_M_isOpen_j14.eq_1] at h
  have n0 : Nn 0 0 S S := Nn.rf
  rcases ite_or h with h | h
  · exact (n0.tr (k_M_isOpen_j50 h)).le (by omega) (by omega)
  · replace h := (grd_t h).2
    rcases ite_or h with h | h
    · exact (n0.tr (k_M_isOpen_j50 h)).le (by omega) (by omega)
    · obtain ⟨S1, e1, h⟩ := wr_t h
      have n1 := n0.tr (nn_0 e1 (by decide) (by decide))
      obtain ⟨S2, e2, h⟩ := wr_t h
      have n2 := n1.tr (nn_0 e2 (by decide) (by decide))
      obtain ⟨S3, e3, h⟩ := wr_t h
      have n3 := n2.tr (nn_0 e3 (by decide) (by decide))
      have h := some_2 h
      subst h
      exact n3.le (by omega) (by omega)
theorem k_M_isOpen {a1 : Int32} {a2 : Int32} {a3 : Int32} {S U : SS} {r : Int32} (h : f_M_isOpen a1 a2 a3 S = some (r, U)) : Nn 0 0 S U := by
  rw [f_M_isOpen.eq_1] at h
  have n0 : Nn 0 0 S S := Nn.rf
  rcases ite_or h with h | h
  · exact (n0.tr (k_M_isOpen_j14 h)).le (by omega) (by omega)
  · exact (n0.tr (k_M_isOpen_j14 h)).le (by omega) (by omega)
theorem k_M_suits_j56 {x1 : Int32} {x2 : Int32} {S U : SS} {r : Int32} (h : f_M_suits_j56 x1 x2 S = some (r, U)) : Nn 0 0 S U := by
  rw [f_M_suits_j56.eq_1] at h
  have n0 : Nn 0 0 S S := Nn.rf
  obtain ⟨S1, hc1, h⟩ := bndv_t h
  have n1 := n0.tr (k_M_note hc1)
  replace h := (grd_t h).2
  rcases ite_or h with h | h
  · have h := some_2 h
    subst h
    exact n1.le (by omega) (by omega)
  · replace h := (grd_t h).2
    replace h := (grd_t h).2
    replace h := (grd_t h).2
    rcases ite_or h with h | h
    · have h := some_2 h
      subst h
      exact n1.le (by omega) (by omega)
    · have h := some_2 h
      subst h
      exact n1.le (by omega) (by omega)
theorem k_M_suits {a1 : Int32} {a2 : Int32} {S U : SS} {r : Int32} (h : f_M_suits a1 a2 S = some (r, U)) : Nn 0 0 S U := by
  rw [f_M_suits.eq_1] at h
  have n0 : Nn 0 0 S S := Nn.rf
  replace h := (grd_t h).2
  rcases ite_or h with h | h
  · replace h := (grd_t h).2
    rcases ite_or h with h | h
    · obtain ⟨S1, hc1, h⟩ := bndv_t h
      have n1 := n0.tr (k_M_note hc1)
      replace h := (grd_t h).2
      rcases ite_or h with h | h
      · have h := some_2 h
        subst h
        exact n1.le (by omega) (by omega)
      · replace h := (grd_t h).2
        rcases ite_or h with h | h
        · have h := some_2 h
          subst h
          exact n1.le (by omega) (by omega)
        · exact (n1.tr (k_M_suits_j56 h)).le (by omega) (by omega)
    · exact (n0.tr (k_M_suits_j56 h)).le (by omega) (by omega)
  · obtain ⟨S2, hc2, h⟩ := bndv_t h
    have n2 := n0.tr (k_M_note hc2)
    have h := some_2 h
    subst h
    exact n2.le (by omega) (by omega)
theorem k_M_missCouple_j136 {x1 : Int32} {x4 : Int32} {y0 : Int32} {S U : SS} {r : Int32} (h : f_M_missCouple_j136 x1 x4 y0 S = some (r, U)) : Nn 0 0 S U := by
  rw [f_M_missCouple_j136.eq_1] at h
  have n0 : Nn 0 0 S S := Nn.rf
  obtain ⟨S1, e1, h⟩ := wr_t h
  have n1 := n0.tr (nn_0 e1 (by decide) (by decide))
  replace h := (grd_t h).2
  rcases ite_or h with h | h
  · obtain ⟨_, S2, hc2, h⟩ := bnd_t h
    have n2 := n1.tr (k_M_areTogether hc2)
    rcases ite_or h with h | h
    · obtain ⟨_, S3, hc3, h⟩ := bnd_t h
      have n3 := n2.tr (k_M_suits hc3)
      rcases ite_or h with h | h
      · have h := some_2 h
        subst h
        exact n3.le (by omega) (by omega)
      · obtain ⟨_, S4, hc4, h⟩ := bnd_t h
        have n4 := n3.tr (k_M_suits hc4)
        rcases ite_or h with h | h
        · have h := some_2 h
          subst h
          exact n4.le (by omega) (by omega)
        · have h := some_2 h
          subst h
          exact n4.le (by omega) (by omega)
    · have h := some_2 h
      subst h
      exact n2.le (by omega) (by omega)
  · have h := some_2 h
    subst h
    exact n1.le (by omega) (by omega)
theorem k_M_isSide {a0 : Int32} {S U : SS} {r : Int32} (h : f_M_isSide a0 S = some (r, U)) : Nn 0 0 S U := by
  rw [f_M_isSide.eq_1] at h
  have n0 : Nn 0 0 S S := Nn.rf
  rcases ite_or h with h | h
  · have h := some_2 h
    subst h
    exact n0.le (by omega) (by omega)
  · rcases ite_or h with h | h
    · have h := some_2 h
      subst h
      exact n0.le (by omega) (by omega)
    · have h := some_2 h
      subst h
      exact n0.le (by omega) (by omega)
theorem k_M_isSuch {a1 : Int32} {a2 : Int32} {S U : SS} {r : Int32} (h : f_M_isSuch a1 a2 S = some (r, U)) : Nn 0 0 S U := by
  rw [f_M_isSuch.eq_1] at h
  have n0 : Nn 0 0 S S := Nn.rf
  replace h := (grd_t h).2
  obtain ⟨_, h⟩ := nm_t h
  rcases ite_or h with h | h
  · rcases ite_or h with h | h
    · have h := some_2 h
      subst h
      exact n0.le (by omega) (by omega)
    · have h := some_2 h
      subst h
      exact n0.le (by omega) (by omega)
  · rcases ite_or h with h | h
    · rcases ite_or h with h | h
      · have h := some_2 h
        subst h
        exact n0.le (by omega) (by omega)
      · have h := some_2 h
        subst h
        exact n0.le (by omega) (by omega)
    · rcases ite_or h with h | h
      · rcases ite_or h with h | h
        · have h := some_2 h
          subst h
          exact n0.le (by omega) (by omega)
        · have h := some_2 h
          subst h
          exact n0.le (by omega) (by omega)
      · rcases ite_or h with h | h
        · rcases ite_or h with h | h
          · have h := some_2 h
            subst h
            exact n0.le (by omega) (by omega)
          · have h := some_2 h
            subst h
            exact n0.le (by omega) (by omega)
        · have h := some_2 h
          subst h
          exact n0.le (by omega) (by omega)
theorem k_M_missThing {a1 : Int32} {a2 : Int32} {S U : SS} {r : Int32} (h : f_M_missThing a1 a2 S = some (r, U)) : Nn 0 0 S U := by
  rw [f_M_missThing.eq_1] at h
  have n0 : Nn 0 0 S S := Nn.rf
  rcases ite_or h with h | h
  · have h := some_2 h
    subst h
    exact n0.le (by omega) (by omega)
  · rcases ite_or h with h | h
    · rcases ite_or h with h | h
      · have h := some_2 h
        subst h
        exact n0.le (by omega) (by omega)
      · replace h := (grd_t h).2
        rcases ite_or h with h | h
        · have h := some_2 h
          subst h
          exact n0.le (by omega) (by omega)
        · obtain ⟨_, S1, hc1, h⟩ := bnd_t h
          have n1 := n0.tr (k_M_isSuch hc1)
          rcases ite_or h with h | h
          · have h := some_2 h
            subst h
            exact n1.le (by omega) (by omega)
          · have h := some_2 h
            subst h
            exact n1.le (by omega) (by omega)
    · have h := some_2 h
      subst h
      exact n0.le (by omega) (by omega)
theorem k_M_missSide {a1 : Int32} {a2 : Int32} {a3 : Int32} {S U : SS} {r : Int32} (h : f_M_missSide a1 a2 a3 S = some (r, U)) : Nn 0 0 S U := by
  rw [f_M_missSide.eq_1] at h
  have n0 : Nn 0 0 S S := Nn.rf
  obtain ⟨_, S1, hc1, h⟩ := bnd_t h
  have n1 := n0.tr (k_M_missThing hc1)
  rcases ite_or h with h | h
  · obtain ⟨_, S2, hc2, h⟩ := bnd_t h
    have n2 := n1.tr (k_M_isSide hc2)
    rcases ite_or h with h | h
    · have h := some_2 h
      subst h
      exact n2.le (by omega) (by omega)
    · have h := some_2 h
      subst h
      exact n2.le (by omega) (by omega)
  · have h := some_2 h
    subst h
    exact n1.le (by omega) (by omega)
theorem k_M_standing_j41 {a b : Nat} (ha : 0 ≤ a) (hb : 0 ≤ b) {K2 : Int32 → Int32 → Int32 → SS → Option (Int32 × SS)} (hK2 : ∀ {y0 y1 y2 : Int32} {S U : SS} {r : Int32}, K2 y0 y1 y2 S = some (r, U) → Nn a b S U) {x1 : Int32} {x2 : Int32} {x3 : Int32} {S U : SS} {r : Int32} (h : f_M_standing_j41 K2 x1 x2 x3 S = some (r, U)) : Nn a b S U := by
  rw [f_M_standing_j41.eq_1] at h
  have n0 : Nn 0 0 S S := Nn.rf
  obtain ⟨_, h⟩ := nm_t h
  exact (n0.tr (hK2 h)).le (by omega) (by omega)
theorem k_M_standing_L2 : ∀ {n : Nat} {x1 : Int32} {x2 : Int32} {x3 : Int32} {S U : SS} {r : Int32}, f_M_standing_L2 n x1 x2 x3 S = some (r, U) → Nn 0 0 S U := by
  intro n
  induction n with
  | zero =>
    intro x1 x2 x3 S U r h
    rw [f_M_standing_L2.eq_1] at h
    cases h
  | succ n ih =>
    intro x1 x2 x3 S U r h
    rw [f_M_standing_L2.eq_2] at h
    have n0 : Nn 0 0 S S := Nn.rf
    rcases ite_or h with h | h
    · have h := some_2 h
      subst h
      exact n0.le (by omega) (by omega)
    · replace h := (grd_t h).2
      rcases ite_or h with h | h
      · exact (n0.tr (k_M_standing_j41 (a := 0) (b := 0) (by omega) (by omega) (fun h => ih h) h)).le (by omega) (by omega)
      · replace h := (grd_t h).2
        rcases ite_or h with h | h
        · replace h := (grd_t h).2
          rcases ite_or h with h | h
          · have h := some_2 h
            subst h
            exact n0.le (by omega) (by omega)
          · exact (n0.tr (k_M_standing_j41 (a := 0) (b := 0) (by omega) (by omega) (fun h => ih h) h)).le (by omega) (by omega)
        · exact (n0.tr (k_M_standing_j41 (a := 0) (b := 0) (by omega) (by omega) (fun h => ih h) h)).le (by omega) (by omega)
theorem k_M_standing {a1 : Int32} {a2 : Int32} {S U : SS} {r : Int32} (h : f_M_standing a1 a2 S = some (r, U)) : Nn 0 0 S U := by
  rw [f_M_standing.eq_1] at h
  have n0 : Nn 0 0 S S := Nn.rf
  exact (n0.tr (k_M_standing_L2 h)).le (by omega) (by omega)
theorem k_M_wayOf {a1 : Int32} {a2 : Int32} {S U : SS} {r : Int32} (h : f_M_wayOf a1 a2 S = some (r, U)) : Nn 0 0 S U := by
  rw [f_M_wayOf.eq_1] at h
  have n0 : Nn 0 0 S S := Nn.rf
  rcases ite_or h with h | h
  · replace h := (grd_t h).2
    have h := some_2 h
    subst h
    exact n0.le (by omega) (by omega)
  · replace h := (grd_t h).2
    have h := some_2 h
    subst h
    exact n0.le (by omega) (by omega)
theorem k_M_missCouple {a1 : Int32} {a2 : Int32} {S U : SS} {r : Int32} (h : f_M_missCouple a1 a2 S = some (r, U)) : Nn 0 0 S U := by
  rw [f_M_missCouple.eq_1] at h
  have n0 : Nn 0 0 S S := Nn.rf
  obtain ⟨_, S1, hc1, h⟩ := bnd_t h
  have n1 := n0.tr (k_M_missSide hc1)
  rcases ite_or h with h | h
  · replace h := (grd_t h).2
    rcases ite_or h with h | h
    · replace h := (grd_t h).2
      rcases ite_or h with h | h
      · replace h := (grd_t h).2
        replace h := (grd_t h).2
        obtain ⟨_, S2, hc2, h⟩ := bnd_t h
        have n2 := n1.tr (k_M_wayOf hc2)
        obtain ⟨_, S3, hc3, h⟩ := bnd_t h
        have n3 := n2.tr (k_M_isOpen hc3)
        rcases ite_or h with h | h
        · have h := some_2 h
          subst h
          exact n3.le (by omega) (by omega)
        · obtain ⟨_, S4, hc4, h⟩ := bnd_t h
          have n4 := n3.tr (k_M_standing hc4)
          rcases ite_or h with h | h
          · have h := some_2 h
            subst h
            exact n4.le (by omega) (by omega)
          · replace h := (grd_t h).2
            rcases ite_or h with h | h
            · obtain ⟨S5, e5, h⟩ := wr_t h
              have n5 := n4.tr (nn_0 e5 (by decide) (by decide))
              replace h := (grd_t h).2
              rcases ite_or h with h | h
              · exact (n5.tr (k_M_missCouple_j136 h)).le (by omega) (by omega)
              · exact (n5.tr (k_M_missCouple_j136 h)).le (by omega) (by omega)
            · have h := some_2 h
              subst h
              exact n4.le (by omega) (by omega)
      · have h := some_2 h
        subst h
        exact n1.le (by omega) (by omega)
    · have h := some_2 h
      subst h
      exact n1.le (by omega) (by omega)
  · have h := some_2 h
    subst h
    exact n1.le (by omega) (by omega)
theorem k_M_renumber_L17 : ∀ {n : Nat} {x2 : Int32} {S U : SS}, f_M_renumber_L17 n x2 S = some U → Nn 0 0 S U := by
  intro n
  induction n with
  | zero =>
    intro x2 S U h
    rw [f_M_renumber_L17.eq_1] at h
    cases h
  | succ n ih =>
    intro x2 S U h
    rw [f_M_renumber_L17.eq_2] at h
    have n0 : Nn 0 0 S S := Nn.rf
    rcases ite_or h with h | h
    · have h := some_1 h
      subst h
      exact n0.le (by omega) (by omega)
    · replace h := (grd_t h).2
      replace h := (grd_t h).2
      obtain ⟨S1, e1, h⟩ := wr_t h
      have n1 := n0.tr (nn_st e1 (by decide))
      replace h := (grd_t h).2
      replace h := (grd_t h).2
      obtain ⟨S2, e2, h⟩ := wr_t h
      have n2 := n1.tr (nn_st e2 (by decide))
      obtain ⟨_, h⟩ := nm_t h
      exact (n2.tr (ih h)).le (by omega) (by omega)
theorem k_M_renumber {a1 : Int32} {S U : SS} (h : f_M_renumber a1 S = some U) : Nn 0 0 S U := by
  rw [f_M_renumber.eq_1] at h
  have n0 : Nn 0 0 S S := Nn.rf
  obtain ⟨S1, e1, h⟩ := wr_t h
  have n1 := n0.tr (nn_0 e1 (by decide) (by decide))
  obtain ⟨S2, hc2, h⟩ := bndv_t h
  have n2 := n1.tr (k_M_lineUp hc2)
  exact (n2.tr (k_M_renumber_L17 h)).le (by omega) (by omega)
theorem k_M_couple {a1 : Int32} {a2 : Int32} {S U : SS} {r : Int32} (h : f_M_couple a1 a2 S = some (r, U)) : Nn 1 0 S U := by
  rw [f_M_couple.eq_1] at h
  have n0 : Nn 0 0 S S := Nn.rf
  obtain ⟨S1, hc1, h⟩ := bndv_t h
  have n1 := n0.tr (k_M_begin hc1)
  obtain ⟨S2, hc2, h⟩ := bndv_t h
  have n2 := n1.tr (k_M_keep hc2)
  obtain ⟨_, S3, hc3, h⟩ := bnd_t h
  have n3 := n2.tr (k_M_missCouple hc3)
  obtain ⟨_, S4, hc4, h⟩ := bnd_t h
  have n4 := n3.tr (k_M_ends hc4)
  rcases ite_or h with h | h
  · replace h := (grd_t h).2
    obtain ⟨S5, e5, h⟩ := wr_t h
    have n5 := n4.tr (nn_st e5 (by decide))
    replace h := (grd_t h).2
    obtain ⟨S6, e6, h⟩ := wr_t h
    have n6 := n5.tr (nn_st e6 (by decide))
    obtain ⟨S7, hc7, h⟩ := bndv_t h
    have n7 := n6.tr (k_M_renumber hc7)
    obtain ⟨_, S8, hc8, h⟩ := bnd_t h
    have n8 := n7.tr (k_M_entered hc8)
    have h := some_2 h
    subst h
    exact n8.le (by omega) (by omega)
  · obtain ⟨_, S9, hc9, h⟩ := bnd_t h
    have n9 := n4.tr (k_M_entered hc9)
    have h := some_2 h
    subst h
    exact n9.le (by omega) (by omega)
theorem k_M_danger {a1 : Int32} {a2 : Int32} {S U : SS} {r : Int32} (h : f_M_danger a1 a2 S = some (r, U)) : Nn 1 0 S U := by
  rw [f_M_danger.eq_1] at h
  have n0 : Nn 0 0 S S := Nn.rf
  rcases ite_or h with h | h
  · have h := some_2 h
    subst h
    exact n0.le (by omega) (by omega)
  · rcases ite_or h with h | h
    · obtain ⟨S1, hc1, h⟩ := bndv_t h
      have n1 := n0.tr (k_M_begin hc1)
      obtain ⟨S2, hc2, h⟩ := bndv_t h
      have n2 := n1.tr (k_M_keep hc2)
      obtain ⟨_, S3, hc3, h⟩ := bnd_t h
      have n3 := n2.tr (k_M_missThing hc3)
      obtain ⟨_, S4, hc4, h⟩ := bnd_t h
      have n4 := n3.tr (k_M_ends hc4)
      rcases ite_or h with h | h
      · replace h := (grd_t h).2
        obtain ⟨_, h⟩ := nm_t h
        replace h := (grd_t h).2
        obtain ⟨S5, e5, h⟩ := wr_t h
        have n5 := n4.tr (nn_st e5 (by decide))
        obtain ⟨_, S6, hc6, h⟩ := bnd_t h
        have n6 := n5.tr (k_M_entered hc6)
        have h := some_2 h
        subst h
        exact n6.le (by omega) (by omega)
      · obtain ⟨_, S7, hc7, h⟩ := bnd_t h
        have n7 := n4.tr (k_M_entered hc7)
        have h := some_2 h
        subst h
        exact n7.le (by omega) (by omega)
    · have h := some_2 h
      subst h
      exact n0.le (by omega) (by omega)
theorem k_M_follow_L71 : ∀ {n : Nat} {x3 : Int32} {x4 : Int32} {S U : SS}, f_M_follow_L71 n x3 x4 S = some U → Nn 0 0 S U := by
  intro n
  induction n with
  | zero =>
    intro x3 x4 S U h
    rw [f_M_follow_L71.eq_1] at h
    cases h
  | succ n ih =>
    intro x3 x4 S U h
    rw [f_M_follow_L71.eq_2] at h
    have n0 : Nn 0 0 S S := Nn.rf
    replace h := (grd_t h).2
    rcases ite_or h with h | h
    · have h := some_1 h
      subst h
      exact n0.le (by omega) (by omega)
    · replace h := (grd_t h).2
      obtain ⟨_, h⟩ := nm_t h
      obtain ⟨_, S1, hc1, h⟩ := bnd_t h
      have n1 := n0.tr (k_M_sideTo hc1)
      replace h := (grd_t h).2
      obtain ⟨S2, e2, h⟩ := wr_t h
      have n2 := n1.tr (nn_st e2 (by decide))
      replace h := (grd_t h).2
      obtain ⟨S3, e3, h⟩ := wr_t h
      have n3 := n2.tr (nn_st e3 (by decide))
      obtain ⟨S4, e4, h⟩ := wr_t h
      have n4 := n3.tr (nn_0 e4 (by decide) (by decide))
      exact (n4.tr (ih h)).le (by omega) (by omega)
theorem k_M_follow_L5 : ∀ {n : Nat} {x3 : Int32} {x4 : Int32} {S U : SS}, f_M_follow_L5 n x3 x4 S = some U → Nn 0 0 S U := by
  intro n
  induction n with
  | zero =>
    intro x3 x4 S U h
    rw [f_M_follow_L5.eq_1] at h
    cases h
  | succ n ih =>
    intro x3 x4 S U h
    rw [f_M_follow_L5.eq_2] at h
    have n0 : Nn 0 0 S S := Nn.rf
    replace h := (grd_t h).2
    rcases ite_or h with h | h
    · replace h := (grd_t h).2
      obtain ⟨S1, e1, h⟩ := wr_t h
      have n1 := n0.tr (nn_st e1 (by decide))
      replace h := (grd_t h).2
      obtain ⟨S2, e2, h⟩ := wr_t h
      have n2 := n1.tr (nn_st e2 (by decide))
      obtain ⟨S3, e3, h⟩ := wr_t h
      have n3 := n2.tr (nn_0 e3 (by decide) (by decide))
      exact (n3.tr (k_M_follow_L71 h)).le (by omega) (by omega)
    · replace h := (grd_t h).2
      obtain ⟨_, h⟩ := nm_t h
      obtain ⟨_, S4, hc4, h⟩ := bnd_t h
      have n4 := n0.tr (k_M_sideTo hc4)
      obtain ⟨_, h⟩ := nm_t h
      exact (n4.tr (ih h)).le (by omega) (by omega)
theorem k_M_follow {a1 : Int32} {a2 : Int32} {S U : SS} (h : f_M_follow a1 a2 S = some U) : Nn 0 0 S U := by
  rw [f_M_follow.eq_1] at h
  have n0 : Nn 0 0 S S := Nn.rf
  exact (n0.tr (k_M_follow_L5 h)).le (by omega) (by omega)
theorem k_M_free_j84 {a b : Nat} (ha : 0 ≤ a) (hb : 0 ≤ b) {K32 : Int32 → Int32 → Int32 → SS → Option (Int32 × SS)} (hK32 : ∀ {y0 y1 y2 : Int32} {S U : SS} {r : Int32}, K32 y0 y1 y2 S = some (r, U) → Nn a b S U) {x1 : Int32} {x2 : Int32} {x3 : Int32} {y0 : Int32} {y1 : Int32} {S U : SS} {r : Int32} (h : f_M_free_j84 K32 x1 x2 x3 y0 y1 S = some (r, U)) : Nn a b S U := by
  rw [f_M_free_j84.eq_1] at h
  have n0 : Nn 0 0 S S := Nn.rf
  replace h := (grd_t h).2
  obtain ⟨S1, e1, h⟩ := wr_t h
  have n1 := n0.tr (nn_st e1 (by decide))
  obtain ⟨_, h⟩ := nm_t h
  exact (n1.tr (hK32 h)).le (by omega) (by omega)
theorem k_M_free_j56 {a b : Nat} (ha : 0 ≤ a) (hb : 0 ≤ b) {K32 : Int32 → Int32 → Int32 → SS → Option (Int32 × SS)} (hK32 : ∀ {y0 y1 y2 : Int32} {S U : SS} {r : Int32}, K32 y0 y1 y2 S = some (r, U) → Nn a b S U) {x1 : Int32} {x3 : Int32} {y0 : Int32} {y1 : Int32} {S U : SS} {r : Int32} (h : f_M_free_j56 K32 x1 x3 y0 y1 S = some (r, U)) : Nn a b S U := by
  rw [f_M_free_j56.eq_1] at h
  have n0 : Nn 0 0 S S := Nn.rf
  obtain ⟨_, h⟩ := nm_t h
  replace h := (grd_t h).2
  rcases ite_or h with h | h
  · exact (n0.tr (k_M_free_j84 (a := a) (b := b) (by omega) (by omega) hK32 h)).le (by omega) (by omega)
  · replace h := (grd_t h).2
    exact (n0.tr (k_M_free_j84 (a := a) (b := b) (by omega) (by omega) hK32 h)).le (by omega) (by omega)
theorem k_M_free_L32 : ∀ {n : Nat} {x1 : Int32} {x2 : Int32} {x3 : Int32} {S U : SS} {r : Int32}, f_M_free_L32 n x1 x2 x3 S = some (r, U) → Nn 1 0 S U := by
  intro n
  induction n with
  | zero =>
    intro x1 x2 x3 S U r h
    rw [f_M_free_L32.eq_1] at h
    cases h
  | succ n ih =>
    intro x1 x2 x3 S U r h
    rw [f_M_free_L32.eq_2] at h
    have n0 : Nn 0 0 S S := Nn.rf
    rcases ite_or h with h | h
    · obtain ⟨_, S1, hc1, h⟩ := bnd_t h
      have n1 := n0.tr (k_M_entered hc1)
      have h := some_2 h
      subst h
      exact n1.le (by omega) (by omega)
    · replace h := (grd_t h).2
      rcases ite_or h with h | h
      · exact (n0.tr (k_M_free_j56 (a := 1) (b := 0) (by omega) (by omega) (fun h => ih h) h)).le (by omega) (by omega)
      · exact (n0.tr (k_M_free_j56 (a := 1) (b := 0) (by omega) (by omega) (fun h => ih h) h)).le (by omega) (by omega)
theorem k_M_missRoute {a1 : Int32} {S U : SS} {r : Int32} (h : f_M_missRoute a1 S = some (r, U)) : Nn 0 0 S U := by
  rw [f_M_missRoute.eq_1] at h
  have n0 : Nn 0 0 S S := Nn.rf
  rcases ite_or h with h | h
  · have h := some_2 h
    subst h
    exact n0.le (by omega) (by omega)
  · rcases ite_or h with h | h
    · rcases ite_or h with h | h
      · have h := some_2 h
        subst h
        exact n0.le (by omega) (by omega)
      · have h := some_2 h
        subst h
        exact n0.le (by omega) (by omega)
    · have h := some_2 h
      subst h
      exact n0.le (by omega) (by omega)
theorem k_M_free {a1 : Int32} {S U : SS} {r : Int32} (h : f_M_free a1 S = some (r, U)) : Nn 1 0 S U := by
  rw [f_M_free.eq_1] at h
  have n0 : Nn 0 0 S S := Nn.rf
  obtain ⟨S1, hc1, h⟩ := bndv_t h
  have n1 := n0.tr (k_M_begin hc1)
  obtain ⟨S2, hc2, h⟩ := bndv_t h
  have n2 := n1.tr (k_M_keep hc2)
  obtain ⟨_, S3, hc3, h⟩ := bnd_t h
  have n3 := n2.tr (k_M_missRoute hc3)
  obtain ⟨_, S4, hc4, h⟩ := bnd_t h
  have n4 := n3.tr (k_M_ends hc4)
  rcases ite_or h with h | h
  · exact (n4.tr (k_M_free_L32 h)).le (by omega) (by omega)
  · obtain ⟨_, S5, hc5, h⟩ := bnd_t h
    have n5 := n4.tr (k_M_entered hc5)
    have h := some_2 h
    subst h
    exact n5.le (by omega) (by omega)
theorem k_M_goOn_j116 {a b : Nat} (ha : 0 ≤ a) (hb : 0 ≤ b) {K7 : Int32 → SS → Option (SS)} (hK7 : ∀ {y0 : Int32} {S U : SS}, K7 y0 S = some U → Nn a b S U) {x1 : Int32} {S U : SS} (h : f_M_goOn_j116 K7 x1 S = some U) : Nn a b S U := by
  rw [f_M_goOn_j116.eq_1] at h
  have n0 : Nn 0 0 S S := Nn.rf
  obtain ⟨_, h⟩ := nm_t h
  exact (n0.tr (hK7 h)).le (by omega) (by omega)
theorem k_M_place {a1 : Int32} {a2 : Int32} {a3 : Int32} {a4 : Int32} {a5 : Int32} {S U : SS} (h : f_M_place a1 a2 a3 a4 a5 S = some U) : Nn 0 0 S U := by
  rw [f_M_place.eq_1] at h
  have n0 : Nn 0 0 S S := Nn.rf
  replace h := (grd_t h).2
  obtain ⟨S1, e1, h⟩ := wr_t h
  have n1 := n0.tr (nn_st e1 (by decide))
  replace h := (grd_t h).2
  obtain ⟨S2, e2, h⟩ := wr_t h
  have n2 := n1.tr (nn_st e2 (by decide))
  rcases ite_or h with h | h
  · replace h := (grd_t h).2
    obtain ⟨S3, e3, h⟩ := wr_t h
    have n3 := n2.tr (nn_st e3 (by decide))
    have h := some_1 h
    subst h
    exact n3.le (by omega) (by omega)
  · replace h := (grd_t h).2
    obtain ⟨S4, e4, h⟩ := wr_t h
    have n4 := n2.tr (nn_st e4 (by decide))
    have h := some_1 h
    subst h
    exact n4.le (by omega) (by omega)
theorem k_M_goOn_j39 {a b : Nat} (ha : 0 ≤ a) (hb : 0 ≤ b) {K7 : Int32 → SS → Option (SS)} (hK7 : ∀ {y0 : Int32} {S U : SS}, K7 y0 S = some U → Nn a b S U) {x1 : Int32} {x2 : Int32} {y0 : Int32} {y1 : Int32} {y2 : Int32} {S U : SS} (h : f_M_goOn_j39 K7 x1 x2 y0 y1 y2 S = some U) : Nn a b S U := by
  rw [f_M_goOn_j39.eq_1] at h
  have n0 : Nn 0 0 S S := Nn.rf
  replace h := (grd_t h).2
  obtain ⟨S1, e1, h⟩ := wr_t h
  have n1 := n0.tr (nn_st e1 (by decide))
  rcases ite_or h with h | h
  · replace h := (grd_t h).2
    obtain ⟨S2, hc2, h⟩ := bndv_t h
    have n2 := n1.tr (k_M_place hc2)
    exact (n2.tr (k_M_goOn_j116 (a := a) (b := b) (by omega) (by omega) hK7 h)).le (by omega) (by omega)
  · replace h := (grd_t h).2
    obtain ⟨_, h⟩ := nm_t h
    replace h := (grd_t h).2
    replace h := (grd_t h).2
    replace h := (grd_t h).2
    replace h := (grd_t h).2
    obtain ⟨_, S3, hc3, h⟩ := bnd_t h
    have n3 := n1.tr (k_M_wayOf hc3)
    obtain ⟨S4, hc4, h⟩ := bndv_t h
    have n4 := n3.tr (k_M_place hc4)
    exact (n4.tr (k_M_goOn_j116 (a := a) (b := b) (by omega) (by omega) hK7 h)).le (by omega) (by omega)
theorem k_M_goOn_L7 : ∀ {n : Nat} {x1 : Int32} {S U : SS}, f_M_goOn_L7 n x1 S = some U → Nn 0 0 S U := by
  intro n
  induction n with
  | zero =>
    intro x1 S U h
    rw [f_M_goOn_L7.eq_1] at h
    cases h
  | succ n ih =>
    intro x1 S U h
    rw [f_M_goOn_L7.eq_2] at h
    have n0 : Nn 0 0 S S := Nn.rf
    rcases ite_or h with h | h
    · have h := some_1 h
      subst h
      exact n0.le (by omega) (by omega)
    · replace h := (grd_t h).2
      obtain ⟨_, h⟩ := nm_t h
      replace h := (grd_t h).2
      replace h := (grd_t h).2
      rcases ite_or h with h | h
      · exact (n0.tr (k_M_goOn_j39 (a := 0) (b := 0) (by omega) (by omega) (fun h => ih h) h)).le (by omega) (by omega)
      · exact (n0.tr (k_M_goOn_j39 (a := 0) (b := 0) (by omega) (by omega) (fun h => ih h) h)).le (by omega) (by omega)
theorem k_M_goOn {S U : SS} (h : f_M_goOn S = some U) : Nn 0 0 S U := by
  rw [f_M_goOn.eq_1] at h
  have n0 : Nn 0 0 S S := Nn.rf
  obtain ⟨_, h⟩ := nm_t h
  exact (n0.tr (k_M_goOn_L7 h)).le (by omega) (by omega)
theorem k_M_hasEngine_j48 {a b : Nat} (ha : 0 ≤ a) (hb : 0 ≤ b) {K4 : Int32 → Int32 → Int32 → SS → Option (Int32 × SS)} (hK4 : ∀ {y0 y1 y2 : Int32} {S U : SS} {r : Int32}, K4 y0 y1 y2 S = some (r, U) → Nn a b S U) {x1 : Int32} {x3 : Int32} {y0 : Int32} {S U : SS} {r : Int32} (h : f_M_hasEngine_j48 K4 x1 x3 y0 S = some (r, U)) : Nn a b S U := by
  rw [f_M_hasEngine_j48.eq_1] at h
  have n0 : Nn 0 0 S S := Nn.rf
  obtain ⟨_, h⟩ := nm_t h
  exact (n0.tr (hK4 h)).le (by omega) (by omega)
theorem k_M_hasEngine_j43 {a b : Nat} (ha : 0 ≤ a) (hb : 0 ≤ b) {K4 : Int32 → Int32 → Int32 → SS → Option (Int32 × SS)} (hK4 : ∀ {y0 y1 y2 : Int32} {S U : SS} {r : Int32}, K4 y0 y1 y2 S = some (r, U) → Nn a b S U) {x1 : Int32} {x3 : Int32} {S U : SS} {r : Int32} (h : f_M_hasEngine_j43 K4 x1 x3 S = some (r, U)) : Nn a b S U := by
  rw [f_M_hasEngine_j43.eq_1] at h
  have n0 : Nn 0 0 S S := Nn.rf
  exact (n0.tr (k_M_hasEngine_j48 (a := a) (b := b) (by omega) (by omega) hK4 h)).le (by omega) (by omega)
theorem k_M_hasEngine_j47 {a b : Nat} (ha : 0 ≤ a) (hb : 0 ≤ b) {K4 : Int32 → Int32 → Int32 → SS → Option (Int32 × SS)} (hK4 : ∀ {y0 y1 y2 : Int32} {S U : SS} {r : Int32}, K4 y0 y1 y2 S = some (r, U) → Nn a b S U) {x1 : Int32} {x3 : Int32} {S U : SS} {r : Int32} (h : f_M_hasEngine_j47 K4 x1 x3 S = some (r, U)) : Nn a b S U := by
  rw [f_M_hasEngine_j47.eq_1] at h
  have n0 : Nn 0 0 S S := Nn.rf
  exact (n0.tr (k_M_hasEngine_j48 (a := a) (b := b) (by omega) (by omega) hK4 h)).le (by omega) (by omega)
theorem k_M_hasEngine_L4 : ∀ {n : Nat} {x1 : Int32} {x2 : Int32} {x3 : Int32} {S U : SS} {r : Int32}, f_M_hasEngine_L4 n x1 x2 x3 S = some (r, U) → Nn 0 0 S U := by
  intro n
  induction n with
  | zero =>
    intro x1 x2 x3 S U r h
    rw [f_M_hasEngine_L4.eq_1] at h
    cases h
  | succ n ih =>
    intro x1 x2 x3 S U r h
    rw [f_M_hasEngine_L4.eq_2] at h
    have n0 : Nn 0 0 S S := Nn.rf
    rcases ite_or h with h | h
    · replace h := (grd_t h).2
      have h := some_2 h
      subst h
      exact n0.le (by omega) (by omega)
    · replace h := (grd_t h).2
      obtain ⟨_, h⟩ := nm_t h
      rcases ite_or h with h | h
      · rcases ite_or h with h | h
        · exact (n0.tr (k_M_hasEngine_j47 (a := 0) (b := 0) (by omega) (by omega) (fun h => ih h) h)).le (by omega) (by omega)
        · replace h := (grd_t h).2
          rcases ite_or h with h | h
          · exact (n0.tr (k_M_hasEngine_j43 (a := 0) (b := 0) (by omega) (by omega) (fun h => ih h) h)).le (by omega) (by omega)
          · exact (n0.tr (k_M_hasEngine_j47 (a := 0) (b := 0) (by omega) (by omega) (fun h => ih h) h)).le (by omega) (by omega)
      · exact (n0.tr (k_M_hasEngine_j43 (a := 0) (b := 0) (by omega) (by omega) (fun h => ih h) h)).le (by omega) (by omega)
theorem k_M_hasEngine {a1 : Int32} {S U : SS} {r : Int32} (h : f_M_hasEngine a1 S = some (r, U)) : Nn 0 0 S U := by
  rw [f_M_hasEngine.eq_1] at h
  have n0 : Nn 0 0 S S := Nn.rf
  exact (n0.tr (k_M_hasEngine_L4 h)).le (by omega) (by omega)
theorem k_M_loaded_L9 : ∀ {n : Nat} {x1 : Int32} {x2 : Int32} {x3 : Int32} {S U : SS} {r : Int32}, f_M_loaded_L9 n x1 x2 x3 S = some (r, U) → Nn 0 0 S U := by
  intro n
  induction n with
  | zero =>
    intro x1 x2 x3 S U r h
    rw [f_M_loaded_L9.eq_1] at h
    cases h
  | succ n ih =>
    intro x1 x2 x3 S U r h
    rw [f_M_loaded_L9.eq_2] at h
    have n0 : Nn 0 0 S S := Nn.rf
    replace h := (grd_t h).2
    rcases ite_or h with h | h
    · have h := some_2 h
      subst h
      exact n0.le (by omega) (by omega)
    · replace h := (grd_t h).2
      obtain ⟨_, h⟩ := nm_t h
      obtain ⟨_, h⟩ := nm_t h
      exact (n0.tr (ih h)).le (by omega) (by omega)
theorem k_M_loaded {a1 : Int32} {S U : SS} {r : Int32} (h : f_M_loaded a1 S = some (r, U)) : Nn 0 0 S U := by
  rw [f_M_loaded.eq_1] at h
  have n0 : Nn 0 0 S S := Nn.rf
  replace h := (grd_t h).2
  obtain ⟨_, h⟩ := nm_t h
  exact (n0.tr (k_M_loaded_L9 h)).le (by omega) (by omega)
theorem k_M_weight_j21 {x1 : Int32} {y0 : Int32} {S U : SS} {r : Int32} (h : f_M_weight_j21 x1 y0 S = some (r, U)) : Nn 0 0 S U := by
  rw [f_M_weight_j21.eq_1] at h
  have n0 : Nn 0 0 S S := Nn.rf
  replace h := (grd_t h).2
  rcases ite_or h with h | h
  · obtain ⟨S1, hc1, h⟩ := bndv_t h
    have n1 := n0.tr (k_M_note hc1)
    obtain ⟨_, S2, hc2, h⟩ := bnd_t h
    have n2 := n1.tr (k_M_loaded hc2)
    have h := some_2 h
    subst h
    exact n2.le (by omega) (by omega)
  · rcases ite_or h with h | h
    · obtain ⟨S3, hc3, h⟩ := bndv_t h
      have n3 := n0.tr (k_M_note hc3)
      obtain ⟨S4, hc4, h⟩ := bndv_t h
      have n4 := n3.tr (k_M_note hc4)
      obtain ⟨_, S5, hc5, h⟩ := bnd_t h
      have n5 := n4.tr (k_M_loaded hc5)
      have h := some_2 h
      subst h
      exact n5.le (by omega) (by omega)
    · rcases ite_or h with h | h
      · obtain ⟨S6, hc6, h⟩ := bndv_t h
        have n6 := n0.tr (k_M_note hc6)
        obtain ⟨S7, hc7, h⟩ := bndv_t h
        have n7 := n6.tr (k_M_note hc7)
        obtain ⟨S8, hc8, h⟩ := bndv_t h
        have n8 := n7.tr (k_M_note hc8)
        obtain ⟨_, S9, hc9, h⟩ := bnd_t h
        have n9 := n8.tr (k_M_loaded hc9)
        have h := some_2 h
        subst h
        exact n9.le (by omega) (by omega)
      · rcases ite_or h with h | h
        · obtain ⟨S10, hc10, h⟩ := bndv_t h
          have n10 := n0.tr (k_M_note hc10)
          obtain ⟨_, S11, hc11, h⟩ := bnd_t h
          have n11 := n10.tr (k_M_loaded hc11)
          have h := some_2 h
          subst h
          exact n11.le (by omega) (by omega)
        · rcases ite_or h with h | h
          · obtain ⟨S12, hc12, h⟩ := bndv_t h
            have n12 := n0.tr (k_M_note hc12)
            replace h := (grd_t h).2
            have h := some_2 h
            subst h
            exact n12.le (by omega) (by omega)
          · obtain ⟨S13, hc13, h⟩ := bndv_t h
            have n13 := n0.tr (k_M_note hc13)
            replace h := (grd_t h).2
            have h := some_2 h
            subst h
            exact n13.le (by omega) (by omega)
theorem k_M_weight {a1 : Int32} {S U : SS} {r : Int32} (h : f_M_weight a1 S = some (r, U)) : Nn 0 0 S U := by
  rw [f_M_weight.eq_1] at h
  have n0 : Nn 0 0 S S := Nn.rf
  replace h := (grd_t h).2
  rcases ite_or h with h | h
  · exact (n0.tr (k_M_weight_j21 h)).le (by omega) (by omega)
  · replace h := (grd_t h).2
    exact (n0.tr (k_M_weight_j21 h)).le (by omega) (by omega)
theorem k_M_heavy_j16 {x1 : Int32} {S U : SS} {r : Int32} (h : f_M_heavy_j16 x1 S = some (r, U)) : Nn 0 0 S U := by
  rw [f_M_heavy_j16.eq_1] at h
  have n0 : Nn 0 0 S S := Nn.rf
  obtain ⟨S1, hc1, h⟩ := bndv_t h
  have n1 := n0.tr (k_M_note hc1)
  obtain ⟨_, S2, hc2, h⟩ := bnd_t h
  have n2 := n1.tr (k_M_weight hc2)
  replace h := (grd_t h).2
  replace h := (grd_t h).2
  rcases ite_or h with h | h
  · have h := some_2 h
    subst h
    exact n2.le (by omega) (by omega)
  · have h := some_2 h
    subst h
    exact n2.le (by omega) (by omega)
theorem k_M_heavy {a1 : Int32} {S U : SS} {r : Int32} (h : f_M_heavy a1 S = some (r, U)) : Nn 0 0 S U := by
  rw [f_M_heavy.eq_1] at h
  have n0 : Nn 0 0 S S := Nn.rf
  replace h := (grd_t h).2
  rcases ite_or h with h | h
  · obtain ⟨S1, hc1, h⟩ := bndv_t h
    have n1 := n0.tr (k_M_note hc1)
    exact (n1.tr (k_M_heavy_j16 h)).le (by omega) (by omega)
  · exact (n0.tr (k_M_heavy_j16 h)).le (by omega) (by omega)
theorem k_M_hold_j19 {x1 : Int32} {x2 : Int32} {S U : SS} {r : Int32} (h : f_M_hold_j19 x1 x2 S = some (r, U)) : Nn 1 0 S U := by
  rw [f_M_hold_j19.eq_1] at h
  have n0 : Nn 0 0 S S := Nn.rf
  obtain ⟨S1, hc1, h⟩ := bndv_t h
  have n1 := n0.tr (k_M_begin hc1)
  obtain ⟨S2, hc2, h⟩ := bndv_t h
  have n2 := n1.tr (k_M_keep hc2)
  obtain ⟨_, S3, hc3, h⟩ := bnd_t h
  have n3 := n2.tr (k_M_missThing hc3)
  obtain ⟨_, S4, hc4, h⟩ := bnd_t h
  have n4 := n3.tr (k_M_ends hc4)
  rcases ite_or h with h | h
  · replace h := (grd_t h).2
    obtain ⟨_, h⟩ := nm_t h
    replace h := (grd_t h).2
    obtain ⟨S5, e5, h⟩ := wr_t h
    have n5 := n4.tr (nn_st e5 (by decide))
    obtain ⟨_, S6, hc6, h⟩ := bnd_t h
    have n6 := n5.tr (k_M_entered hc6)
    have h := some_2 h
    subst h
    exact n6.le (by omega) (by omega)
  · obtain ⟨_, S7, hc7, h⟩ := bnd_t h
    have n7 := n4.tr (k_M_entered hc7)
    have h := some_2 h
    subst h
    exact n7.le (by omega) (by omega)
theorem k_M_hold {a1 : Int32} {a2 : Int32} {S U : SS} {r : Int32} (h : f_M_hold a1 a2 S = some (r, U)) : Nn 1 0 S U := by
  rw [f_M_hold.eq_1] at h
  have n0 : Nn 0 0 S S := Nn.rf
  rcases ite_or h with h | h
  · exact (n0.tr (k_M_hold_j19 h)).le (by omega) (by omega)
  · rcases ite_or h with h | h
    · have h := some_2 h
      subst h
      exact n0.le (by omega) (by omega)
    · rcases ite_or h with h | h
      · exact (n0.tr (k_M_hold_j19 h)).le (by omega) (by omega)
      · have h := some_2 h
        subst h
        exact n0.le (by omega) (by omega)
theorem k_M_isUnder {a1 : Int32} {S U : SS} {r : Int32} (h : f_M_isUnder a1 S = some (r, U)) : Nn 0 0 S U := by
  rw [f_M_isUnder.eq_1] at h
  have n0 : Nn 0 0 S S := Nn.rf
  replace h := (grd_t h).2
  replace h := (grd_t h).2
  obtain ⟨_, S1, hc1, h⟩ := bnd_t h
  have n1 := n0.tr (k_M_placeAtEnd hc1)
  obtain ⟨_, S2, hc2, h⟩ := bnd_t h
  have n2 := n1.tr (k_M_standing hc2)
  rcases ite_or h with h | h
  · have h := some_2 h
    subst h
    exact n2.le (by omega) (by omega)
  · have h := some_2 h
    subst h
    exact n2.le (by omega) (by omega)
theorem k_M_jam {a1 : Int32} {a2 : Int32} {S U : SS} {r : Int32} (h : f_M_jam a1 a2 S = some (r, U)) : Nn 1 0 S U := by
  rw [f_M_jam.eq_1] at h
  have n0 : Nn 0 0 S S := Nn.rf
  rcases ite_or h with h | h
  · have h := some_2 h
    subst h
    exact n0.le (by omega) (by omega)
  · rcases ite_or h with h | h
    · obtain ⟨S1, hc1, h⟩ := bndv_t h
      have n1 := n0.tr (k_M_begin hc1)
      obtain ⟨S2, hc2, h⟩ := bndv_t h
      have n2 := n1.tr (k_M_keep hc2)
      obtain ⟨_, S3, hc3, h⟩ := bnd_t h
      have n3 := n2.tr (k_M_missThing hc3)
      obtain ⟨_, S4, hc4, h⟩ := bnd_t h
      have n4 := n3.tr (k_M_ends hc4)
      rcases ite_or h with h | h
      · replace h := (grd_t h).2
        obtain ⟨_, h⟩ := nm_t h
        replace h := (grd_t h).2
        obtain ⟨S5, e5, h⟩ := wr_t h
        have n5 := n4.tr (nn_st e5 (by decide))
        obtain ⟨_, S6, hc6, h⟩ := bnd_t h
        have n6 := n5.tr (k_M_entered hc6)
        have h := some_2 h
        subst h
        exact n6.le (by omega) (by omega)
      · obtain ⟨_, S7, hc7, h⟩ := bnd_t h
        have n7 := n4.tr (k_M_entered hc7)
        have h := some_2 h
        subst h
        exact n7.le (by omega) (by omega)
    · have h := some_2 h
      subst h
      exact n0.le (by omega) (by omega)
theorem k_M_kick_j164 {x5 : Int32} {S U : SS} {r : Int32} (h : f_M_kick_j164 x5 S = some (r, U)) : Nn 1 0 S U := by
  rw [f_M_kick_j164.eq_1] at h
  have n0 : Nn 0 0 S S := Nn.rf
  obtain ⟨_, S1, hc1, h⟩ := bnd_t h
  have n1 := n0.tr (k_M_entered hc1)
  have h := some_2 h
  subst h
  exact n1.le (by omega) (by omega)
theorem k_M_kick_j114 {x1 : Int32} {x2 : Int32} {y0 : Int32} {S U : SS} {r : Int32} (h : f_M_kick_j114 x1 x2 y0 S = some (r, U)) : Nn 1 1 S U := by
  rw [f_M_kick_j114.eq_1] at h
  have n0 : Nn 0 0 S S := Nn.rf
  replace h := (grd_t h).2
  obtain ⟨_, h⟩ := nm_t h
  rcases ite_or h with h | h
  · exact (n0.tr (k_M_kick_j164 h)).le (by omega) (by omega)
  · replace h := (grd_t h).2
    obtain ⟨S1, e1, h⟩ := wr_t h
    have n1 := n0.tr (nn_st e1 (by decide))
    replace h := (grd_t h).2
    obtain ⟨S2, e2, h⟩ := wr_t h
    have n2 := n1.tr (nn_st e2 (by decide))
    replace h := (grd_t h).2
    obtain ⟨S3, e3, h⟩ := wr_t h
    have n3 := n2.tr (nn_st e3 (by decide))
    obtain ⟨S4, e4, h⟩ := wr_t h
    have n4 := n3.tr (nn_47 e4)
    replace h := (grd_t h).2
    obtain ⟨S5, e5, h⟩ := wr_t h
    have n5 := n4.tr (nn_st e5 (by decide))
    exact (n5.tr (k_M_kick_j164 h)).le (by omega) (by omega)
theorem k_M_kick_j69 {x1 : Int32} {x2 : Int32} {x3 : Int32} {S U : SS} {r : Int32} (h : f_M_kick_j69 x1 x2 x3 S = some (r, U)) : Nn 1 1 S U := by
  rw [f_M_kick_j69.eq_1] at h
  have n0 : Nn 0 0 S S := Nn.rf
  obtain ⟨_, S1, hc1, h⟩ := bnd_t h
  have n1 := n0.tr (k_M_ends hc1)
  rcases ite_or h with h | h
  · obtain ⟨_, S2, hc2, h⟩ := bnd_t h
    have n2 := n1.tr (k_M_heavy hc2)
    obtain ⟨_, h⟩ := nm_t h
    rcases ite_or h with h | h
    · exact (n2.tr (k_M_kick_j114 h)).le (by omega) (by omega)
    · exact (n2.tr (k_M_kick_j114 h)).le (by omega) (by omega)
  · obtain ⟨_, S3, hc3, h⟩ := bnd_t h
    have n3 := n1.tr (k_M_entered hc3)
    have h := some_2 h
    subst h
    exact n3.le (by omega) (by omega)
theorem k_M_kick_j68 {x1 : Int32} {x2 : Int32} {y0 : Int32} {S U : SS} {r : Int32} (h : f_M_kick_j68 x1 x2 y0 S = some (r, U)) : Nn 1 1 S U := by
  rw [f_M_kick_j68.eq_1] at h
  have n0 : Nn 0 0 S S := Nn.rf
  exact (n0.tr (k_M_kick_j69 h)).le (by omega) (by omega)
theorem k_M_kick_j48 {x1 : Int32} {x2 : Int32} {S U : SS} {r : Int32} (h : f_M_kick_j48 x1 x2 S = some (r, U)) : Nn 1 1 S U := by
  rw [f_M_kick_j48.eq_1] at h
  have n0 : Nn 0 0 S S := Nn.rf
  exact (n0.tr (k_M_kick_j68 h)).le (by omega) (by omega)
theorem k_M_kick {a1 : Int32} {a2 : Int32} {S U : SS} {r : Int32} (h : f_M_kick a1 a2 S = some (r, U)) : Nn 1 1 S U := by
  rw [f_M_kick.eq_1] at h
  have n0 : Nn 0 0 S S := Nn.rf
  obtain ⟨S1, hc1, h⟩ := bndv_t h
  have n1 := n0.tr (k_M_begin hc1)
  obtain ⟨S2, hc2, h⟩ := bndv_t h
  have n2 := n1.tr (k_M_keep hc2)
  obtain ⟨_, S3, hc3, h⟩ := bnd_t h
  have n3 := n2.tr (k_M_missSide hc3)
  rcases ite_or h with h | h
  · replace h := (grd_t h).2
    rcases ite_or h with h | h
    · replace h := (grd_t h).2
      rcases ite_or h with h | h
      · replace h := (grd_t h).2
        rcases ite_or h with h | h
        · exact (n3.tr (k_M_kick_j68 h)).le (by omega) (by omega)
        · exact (n3.tr (k_M_kick_j68 h)).le (by omega) (by omega)
      · exact (n3.tr (k_M_kick_j48 h)).le (by omega) (by omega)
    · exact (n3.tr (k_M_kick_j48 h)).le (by omega) (by omega)
  · exact (n3.tr (k_M_kick_j69 h)).le (by omega) (by omega)
theorem k_M_leave_L31 : ∀ {n : Nat} {x2 : Int32} {S U : SS} {r : Int32}, f_M_leave_L31 n x2 S = some (r, U) → Nn 1 0 S U := by
  intro n
  induction n with
  | zero =>
    intro x2 S U r h
    rw [f_M_leave_L31.eq_1] at h
    cases h
  | succ n ih =>
    intro x2 S U r h
    rw [f_M_leave_L31.eq_2] at h
    have n0 : Nn 0 0 S S := Nn.rf
    rcases ite_or h with h | h
    · obtain ⟨_, S1, hc1, h⟩ := bnd_t h
      have n1 := n0.tr (k_M_entered hc1)
      have h := some_2 h
      subst h
      exact n1.le (by omega) (by omega)
    · replace h := (grd_t h).2
      replace h := (grd_t h).2
      obtain ⟨S2, e2, h⟩ := wr_t h
      have n2 := n0.tr (nn_st e2 (by decide))
      obtain ⟨_, h⟩ := nm_t h
      exact (n2.tr (ih h)).le (by omega) (by omega)
theorem k_M_mayLeave {a1 : Int32} {a2 : Int32} {S U : SS} {r : Int32} (h : f_M_mayLeave a1 a2 S = some (r, U)) : Nn 0 0 S U := by
  rw [f_M_mayLeave.eq_1] at h
  have n0 : Nn 0 0 S S := Nn.rf
  replace h := (grd_t h).2
  obtain ⟨_, S1, hc1, h⟩ := bnd_t h
  have n1 := n0.tr (k_M_wayOf hc1)
  obtain ⟨_, h⟩ := nm_t h
  replace h := (grd_t h).2
  rcases ite_or h with h | h
  · have h := some_2 h
    subst h
    exact n1.le (by omega) (by omega)
  · replace h := (grd_t h).2
    obtain ⟨_, S2, hc2, h⟩ := bnd_t h
    have n2 := n1.tr (k_M_placeAtEnd hc2)
    rcases ite_or h with h | h
    · have h := some_2 h
      subst h
      exact n2.le (by omega) (by omega)
    · have h := some_2 h
      subst h
      exact n2.le (by omega) (by omega)
theorem k_M_missLeave_L20 : ∀ {n : Nat} {x3 : Int32} {S U : SS} {r : Int32}, f_M_missLeave_L20 n x3 S = some (r, U) → Nn 0 0 S U := by
  intro n
  induction n with
  | zero =>
    intro x3 S U r h
    rw [f_M_missLeave_L20.eq_1] at h
    cases h
  | succ n ih =>
    intro x3 S U r h
    rw [f_M_missLeave_L20.eq_2] at h
    have n0 : Nn 0 0 S S := Nn.rf
    rcases ite_or h with h | h
    · replace h := (grd_t h).2
      obtain ⟨_, S1, hc1, h⟩ := bnd_t h
      have n1 := n0.tr (k_M_mayLeave hc1)
      rcases ite_or h with h | h
      · replace h := (grd_t h).2
        obtain ⟨_, S2, hc2, h⟩ := bnd_t h
        have n2 := n1.tr (k_M_mayLeave hc2)
        rcases ite_or h with h | h
        · have h := some_2 h
          subst h
          exact n2.le (by omega) (by omega)
        · have h := some_2 h
          subst h
          exact n2.le (by omega) (by omega)
      · have h := some_2 h
        subst h
        exact n1.le (by omega) (by omega)
    · replace h := (grd_t h).2
      replace h := (grd_t h).2
      rcases ite_or h with h | h
      · have h := some_2 h
        subst h
        exact n0.le (by omega) (by omega)
      · obtain ⟨_, h⟩ := nm_t h
        exact (n0.tr (ih h)).le (by omega) (by omega)
theorem k_M_missLeave {a1 : Int32} {S U : SS} {r : Int32} (h : f_M_missLeave a1 S = some (r, U)) : Nn 0 0 S U := by
  rw [f_M_missLeave.eq_1] at h
  have n0 : Nn 0 0 S S := Nn.rf
  obtain ⟨_, S1, hc1, h⟩ := bnd_t h
  have n1 := n0.tr (k_M_missThing hc1)
  rcases ite_or h with h | h
  · obtain ⟨S2, hc2, h⟩ := bndv_t h
    have n2 := n1.tr (k_M_lineUp hc2)
    exact (n2.tr (k_M_missLeave_L20 h)).le (by omega) (by omega)
  · have h := some_2 h
    subst h
    exact n1.le (by omega) (by omega)
theorem k_M_leave {a1 : Int32} {S U : SS} {r : Int32} (h : f_M_leave a1 S = some (r, U)) : Nn 1 0 S U := by
  rw [f_M_leave.eq_1] at h
  have n0 : Nn 0 0 S S := Nn.rf
  obtain ⟨S1, hc1, h⟩ := bndv_t h
  have n1 := n0.tr (k_M_begin hc1)
  obtain ⟨S2, hc2, h⟩ := bndv_t h
  have n2 := n1.tr (k_M_keep hc2)
  obtain ⟨_, S3, hc3, h⟩ := bnd_t h
  have n3 := n2.tr (k_M_missLeave hc3)
  obtain ⟨_, S4, hc4, h⟩ := bnd_t h
  have n4 := n3.tr (k_M_ends hc4)
  rcases ite_or h with h | h
  · exact (n4.tr (k_M_leave_L31 h)).le (by omega) (by omega)
  · obtain ⟨_, S5, hc5, h⟩ := bnd_t h
    have n5 := n4.tr (k_M_entered hc5)
    have h := some_2 h
    subst h
    exact n5.le (by omega) (by omega)
theorem k_M_lock_L72 : ∀ {n : Nat} {x1 : Int32} {x2 : Int32} {x4 : Int32} {x5 : Int32} {S U : SS} {r : Int32}, f_M_lock_L72 n x1 x2 x4 x5 S = some (r, U) → Nn 1 0 S U := by
  intro n
  induction n with
  | zero =>
    intro x1 x2 x4 x5 S U r h
    rw [f_M_lock_L72.eq_1] at h
    cases h
  | succ n ih =>
    intro x1 x2 x4 x5 S U r h
    rw [f_M_lock_L72.eq_2] at h
    have n0 : Nn 0 0 S S := Nn.rf
    rcases ite_or h with h | h
    · obtain ⟨_, S1, hc1, h⟩ := bnd_t h
      have n1 := n0.tr (k_M_found hc1)
      obtain ⟨_, S2, hc2, h⟩ := bnd_t h
      have n2 := n1.tr (k_M_entered hc2)
      have h := some_2 h
      subst h
      exact n2.le (by omega) (by omega)
    · replace h := (grd_t h).2
      replace h := (grd_t h).2
      obtain ⟨S3, e3, h⟩ := wr_t h
      have n3 := n0.tr (nn_st e3 (by decide))
      replace h := (grd_t h).2
      replace h := (grd_t h).2
      replace h := (grd_t h).2
      obtain ⟨S4, e4, h⟩ := wr_t h
      have n4 := n3.tr (nn_st e4 (by decide))
      obtain ⟨_, h⟩ := nm_t h
      exact (n4.tr (ih h)).le (by omega) (by omega)
theorem k_M_missEntry {a1 : Int32} {S U : SS} {r : Int32} (h : f_M_missEntry a1 S = some (r, U)) : Nn 0 0 S U := by
  rw [f_M_missEntry.eq_1] at h
  have n0 : Nn 0 0 S S := Nn.rf
  replace h := (grd_t h).2
  obtain ⟨_, h⟩ := nm_t h
  replace h := (grd_t h).2
  obtain ⟨_, h⟩ := nm_t h
  replace h := (grd_t h).2
  rcases ite_or h with h | h
  · replace h := (grd_t h).2
    replace h := (grd_t h).2
    rcases ite_or h with h | h
    · replace h := (grd_t h).2
      rcases ite_or h with h | h
      · have h := some_2 h
        subst h
        exact n0.le (by omega) (by omega)
      · obtain ⟨_, S1, hc1, h⟩ := bnd_t h
        have n1 := n0.tr (k_M_isUnder hc1)
        rcases ite_or h with h | h
        · have h := some_2 h
          subst h
          exact n1.le (by omega) (by omega)
        · have h := some_2 h
          subst h
          exact n1.le (by omega) (by omega)
    · have h := some_2 h
      subst h
      exact n0.le (by omega) (by omega)
  · replace h := (grd_t h).2
    obtain ⟨S2, e2, h⟩ := wr_t h
    have n2 := n0.tr (nn_0 e2 (by decide) (by decide))
    have h := some_2 h
    subst h
    exact n2.le (by omega) (by omega)
theorem k_M_lock_L30 : ∀ {n : Nat} {x1 : Int32} {x2 : Int32} {S U : SS} {r : Int32}, f_M_lock_L30 n x1 x2 S = some (r, U) → Nn 1 0 S U := by
  intro n
  induction n with
  | zero =>
    intro x1 x2 S U r h
    rw [f_M_lock_L30.eq_1] at h
    cases h
  | succ n ih =>
    intro x1 x2 S U r h
    rw [f_M_lock_L30.eq_2] at h
    have n0 : Nn 0 0 S S := Nn.rf
    replace h := (grd_t h).2
    rcases ite_or h with h | h
    · replace h := (grd_t h).2
      obtain ⟨_, S1, hc1, h⟩ := bnd_t h
      have n1 := n0.tr (k_M_entered hc1)
      have h := some_2 h
      subst h
      exact n1.le (by omega) (by omega)
    · replace h := (grd_t h).2
      obtain ⟨_, h⟩ := nm_t h
      obtain ⟨_, S2, hc2, h⟩ := bnd_t h
      have n2 := n0.tr (k_M_missEntry hc2)
      rcases ite_or h with h | h
      · replace h := (grd_t h).2
        replace h := (grd_t h).2
        obtain ⟨S3, e3, h⟩ := wr_t h
        have n3 := n2.tr (nn_st e3 (by decide))
        replace h := (grd_t h).2
        replace h := (grd_t h).2
        obtain ⟨S4, e4, h⟩ := wr_t h
        have n4 := n3.tr (nn_st e4 (by decide))
        replace h := (grd_t h).2
        obtain ⟨S5, e5, h⟩ := wr_t h
        have n5 := n4.tr (nn_st e5 (by decide))
        obtain ⟨_, h⟩ := nm_t h
        exact (n5.tr (ih h)).le (by omega) (by omega)
      · exact (n2.tr (k_M_lock_L72 h)).le (by omega) (by omega)
theorem k_M_lock {a1 : Int32} {S U : SS} {r : Int32} (h : f_M_lock a1 S = some (r, U)) : Nn 1 0 S U := by
  rw [f_M_lock.eq_1] at h
  have n0 : Nn 0 0 S S := Nn.rf
  obtain ⟨S1, hc1, h⟩ := bndv_t h
  have n1 := n0.tr (k_M_begin hc1)
  obtain ⟨S2, hc2, h⟩ := bndv_t h
  have n2 := n1.tr (k_M_keep hc2)
  obtain ⟨_, S3, hc3, h⟩ := bnd_t h
  have n3 := n2.tr (k_M_missRoute hc3)
  obtain ⟨_, S4, hc4, h⟩ := bnd_t h
  have n4 := n3.tr (k_M_ends hc4)
  rcases ite_or h with h | h
  · exact (n4.tr (k_M_lock_L30 h)).le (by omega) (by omega)
  · obtain ⟨_, S5, hc5, h⟩ := bnd_t h
    have n5 := n4.tr (k_M_entered hc5)
    have h := some_2 h
    subst h
    exact n5.le (by omega) (by omega)
theorem k_M_missPoint {a1 : Int32} {S U : SS} {r : Int32} (h : f_M_missPoint a1 S = some (r, U)) : Nn 0 0 S U := by
  rw [f_M_missPoint.eq_1] at h
  have n0 : Nn 0 0 S S := Nn.rf
  rcases ite_or h with h | h
  · have h := some_2 h
    subst h
    exact n0.le (by omega) (by omega)
  · rcases ite_or h with h | h
    · rcases ite_or h with h | h
      · have h := some_2 h
        subst h
        exact n0.le (by omega) (by omega)
      · have h := some_2 h
        subst h
        exact n0.le (by omega) (by omega)
    · have h := some_2 h
      subst h
      exact n0.le (by omega) (by omega)
theorem k_M_missPull_j103 {a b : Nat} (ha : 0 ≤ a) (hb : 0 ≤ b) {K62 : Int32 → Int32 → Int32 → SS → Option (Int32 × SS)} (hK62 : ∀ {y0 y1 y2 : Int32} {S U : SS} {r : Int32}, K62 y0 y1 y2 S = some (r, U) → Nn a b S U) {x4 : Int32} {x5 : Int32} {x6 : Int32} {S U : SS} {r : Int32} (h : f_M_missPull_j103 K62 x4 x5 x6 S = some (r, U)) : Nn a b S U := by
  rw [f_M_missPull_j103.eq_1] at h
  have n0 : Nn 0 0 S S := Nn.rf
  obtain ⟨_, h⟩ := nm_t h
  exact (n0.tr (hK62 h)).le (by omega) (by omega)
theorem k_M_pulls_j27 {x1 : Int32} {S U : SS} {r : Int32} (h : f_M_pulls_j27 x1 S = some (r, U)) : Nn 0 0 S U := by
  rw [f_M_pulls_j27.eq_1] at h
  have n0 : Nn 0 0 S S := Nn.rf
  obtain ⟨S1, hc1, h⟩ := bndv_t h
  have n1 := n0.tr (k_M_note hc1)
  replace h := (grd_t h).2
  have h := some_2 h
  subst h
  exact n1.le (by omega) (by omega)
theorem k_M_pulls {a1 : Int32} {S U : SS} {r : Int32} (h : f_M_pulls a1 S = some (r, U)) : Nn 0 0 S U := by
  rw [f_M_pulls.eq_1] at h
  have n0 : Nn 0 0 S S := Nn.rf
  replace h := (grd_t h).2
  rcases ite_or h with h | h
  · obtain ⟨S1, hc1, h⟩ := bndv_t h
    have n1 := n0.tr (k_M_note hc1)
    obtain ⟨_, S2, hc2, h⟩ := bnd_t h
    have n2 := n1.tr (k_M_hasEngine hc2)
    rcases ite_or h with h | h
    · have h := some_2 h
      subst h
      exact n2.le (by omega) (by omega)
    · exact (n2.tr (k_M_pulls_j27 h)).le (by omega) (by omega)
  · exact (n0.tr (k_M_pulls_j27 h)).le (by omega) (by omega)
theorem k_M_missPull_L62 : ∀ {n : Nat} {x4 : Int32} {x5 : Int32} {x6 : Int32} {S U : SS} {r : Int32}, f_M_missPull_L62 n x4 x5 x6 S = some (r, U) → Nn 0 0 S U := by
  intro n
  induction n with
  | zero =>
    intro x4 x5 x6 S U r h
    rw [f_M_missPull_L62.eq_1] at h
    cases h
  | succ n ih =>
    intro x4 x5 x6 S U r h
    rw [f_M_missPull_L62.eq_2] at h
    have n0 : Nn 0 0 S S := Nn.rf
    rcases ite_or h with h | h
    · rcases ite_or h with h | h
      · have h := some_2 h
        subst h
        exact n0.le (by omega) (by omega)
      · have h := some_2 h
        subst h
        exact n0.le (by omega) (by omega)
    · replace h := (grd_t h).2
      replace h := (grd_t h).2
      rcases ite_or h with h | h
      · exact (n0.tr (k_M_missPull_j103 (a := 0) (b := 0) (by omega) (by omega) (fun h => ih h) h)).le (by omega) (by omega)
      · replace h := (grd_t h).2
        obtain ⟨_, S1, hc1, h⟩ := bnd_t h
        have n1 := n0.tr (k_M_pulls hc1)
        obtain ⟨_, h⟩ := nm_t h
        exact (n1.tr (k_M_missPull_j103 (a := 0) (b := 0) (by omega) (by omega) (fun h => ih h) h)).le (by omega) (by omega)
theorem k_M_missPull_L28 : ∀ {n : Nat} {x4 : Int32} {x5 : Int32} {x6 : Int32} {S U : SS} {r : Int32}, f_M_missPull_L28 n x4 x5 x6 S = some (r, U) → Nn 0 0 S U := by
  intro n
  induction n with
  | zero =>
    intro x4 x5 x6 S U r h
    rw [f_M_missPull_L28.eq_1] at h
    cases h
  | succ n ih =>
    intro x4 x5 x6 S U r h
    rw [f_M_missPull_L28.eq_2] at h
    have n0 : Nn 0 0 S S := Nn.rf
    rcases ite_or h with h | h
    · exact (n0.tr (k_M_missPull_L62 h)).le (by omega) (by omega)
    · replace h := (grd_t h).2
      obtain ⟨_, S1, hc1, h⟩ := bnd_t h
      have n1 := n0.tr (k_M_weight hc1)
      obtain ⟨_, h⟩ := nm_t h
      obtain ⟨_, h⟩ := nm_t h
      exact (n1.tr (ih h)).le (by omega) (by omega)
theorem k_M_missPull {a1 : Int32} {a2 : Int32} {S U : SS} {r : Int32} (h : f_M_missPull a1 a2 S = some (r, U)) : Nn 0 0 S U := by
  rw [f_M_missPull.eq_1] at h
  have n0 : Nn 0 0 S S := Nn.rf
  obtain ⟨_, S1, hc1, h⟩ := bnd_t h
  have n1 := n0.tr (k_M_missSide hc1)
  rcases ite_or h with h | h
  · obtain ⟨S2, hc2, h⟩ := bndv_t h
    have n2 := n1.tr (k_M_lineUp hc2)
    exact (n2.tr (k_M_missPull_L28 h)).le (by omega) (by omega)
  · have h := some_2 h
    subst h
    exact n1.le (by omega) (by omega)
theorem k_M_raised {a1 : Int32} {S U : SS} {r : Int32} (h : f_M_raised a1 S = some (r, U)) : Nn 0 0 S U := by
  rw [f_M_raised.eq_1] at h
  have n0 : Nn 0 0 S S := Nn.rf
  replace h := (grd_t h).2
  obtain ⟨S1, e1, h⟩ := wr_t h
  have n1 := n0.tr (nn_0 e1 (by decide) (by decide))
  replace h := (grd_t h).2
  rcases ite_or h with h | h
  · have h := some_2 h
    subst h
    exact n1.le (by omega) (by omega)
  · have h := some_2 h
    subst h
    exact n1.le (by omega) (by omega)
theorem k_M_missStep_L62 : ∀ {n : Nat} {x2 : Int32} {S U : SS} {r : Int32}, f_M_missStep_L62 n x2 S = some (r, U) → Nn 0 0 S U := by
  intro n
  induction n with
  | zero =>
    intro x2 S U r h
    rw [f_M_missStep_L62.eq_1] at h
    cases h
  | succ n ih =>
    intro x2 S U r h
    rw [f_M_missStep_L62.eq_2] at h
    have n0 : Nn 0 0 S S := Nn.rf
    rcases ite_or h with h | h
    · have h := some_2 h
      subst h
      exact n0.le (by omega) (by omega)
    · replace h := (grd_t h).2
      replace h := (grd_t h).2
      rcases ite_or h with h | h
      · replace h := (grd_t h).2
        obtain ⟨_, S1, hc1, h⟩ := bnd_t h
        have n1 := n0.tr (k_M_raised hc1)
        have h := some_2 h
        subst h
        exact n1.le (by omega) (by omega)
      · obtain ⟨_, h⟩ := nm_t h
        exact (n0.tr (ih h)).le (by omega) (by omega)
theorem k_M_missStep {S U : SS} {r : Int32} (h : f_M_missStep S = some (r, U)) : Nn 0 0 S U := by
  rw [f_M_missStep.eq_1] at h
  have n0 : Nn 0 0 S S := Nn.rf
  replace h := (grd_t h).2
  obtain ⟨_, h⟩ := nm_t h
  replace h := (grd_t h).2
  replace h := (grd_t h).2
  replace h := (grd_t h).2
  obtain ⟨_, S1, hc1, h⟩ := bnd_t h
  have n1 := n0.tr (k_M_wayOf hc1)
  obtain ⟨_, S2, hc2, h⟩ := bnd_t h
  have n2 := n1.tr (k_M_isOpen hc2)
  rcases ite_or h with h | h
  · have h := some_2 h
    subst h
    exact n2.le (by omega) (by omega)
  · obtain ⟨_, S3, hc3, h⟩ := bnd_t h
    have n3 := n2.tr (k_M_standing hc3)
    rcases ite_or h with h | h
    · exact (n3.tr (k_M_missStep_L62 h)).le (by omega) (by omega)
    · have h := some_2 h
      subst h
      exact n3.le (by omega) (by omega)
theorem k_M_missTurn {a1 : Int32} {a2 : Int32} {S U : SS} {r : Int32} (h : f_M_missTurn a1 a2 S = some (r, U)) : Nn 0 0 S U := by
  rw [f_M_missTurn.eq_1] at h
  have n0 : Nn 0 0 S S := Nn.rf
  obtain ⟨_, S1, hc1, h⟩ := bnd_t h
  have n1 := n0.tr (k_M_missPoint hc1)
  rcases ite_or h with h | h
  · rcases ite_or h with h | h
    · have h := some_2 h
      subst h
      exact n1.le (by omega) (by omega)
    · replace h := (grd_t h).2
      replace h := (grd_t h).2
      rcases ite_or h with h | h
      · replace h := (grd_t h).2
        rcases ite_or h with h | h
        · have h := some_2 h
          subst h
          exact n1.le (by omega) (by omega)
        · replace h := (grd_t h).2
          obtain ⟨S2, e2, h⟩ := wr_t h
          have n2 := n1.tr (nn_0 e2 (by decide) (by decide))
          replace h := (grd_t h).2
          rcases ite_or h with h | h
          · obtain ⟨_, S3, hc3, h⟩ := bnd_t h
            have n3 := n2.tr (k_M_isUnder hc3)
            rcases ite_or h with h | h
            · have h := some_2 h
              subst h
              exact n3.le (by omega) (by omega)
            · have h := some_2 h
              subst h
              exact n3.le (by omega) (by omega)
          · have h := some_2 h
            subst h
            exact n2.le (by omega) (by omega)
      · have h := some_2 h
        subst h
        exact n1.le (by omega) (by omega)
  · have h := some_2 h
    subst h
    exact n1.le (by omega) (by omega)
theorem k_M_nextRunning_j64 {a b : Nat} (ha : 0 ≤ a) (hb : 0 ≤ b) {K5 : Int32 → Int32 → Int32 → SS → Option (Int32 × SS)} (hK5 : ∀ {y0 y1 y2 : Int32} {S U : SS} {r : Int32}, K5 y0 y1 y2 S = some (r, U) → Nn a b S U) {x1 : Int32} {x2 : Int32} {x3 : Int32} {S U : SS} {r : Int32} (h : f_M_nextRunning_j64 K5 x1 x2 x3 S = some (r, U)) : Nn a b S U := by
  rw [f_M_nextRunning_j64.eq_1] at h
  have n0 : Nn 0 0 S S := Nn.rf
  obtain ⟨_, h⟩ := nm_t h
  exact (n0.tr (hK5 h)).le (by omega) (by omega)
theorem k_M_nextRunning_j62 {a b : Nat} (ha : 0 ≤ a) (hb : 0 ≤ b) {K5 : Int32 → Int32 → Int32 → SS → Option (Int32 × SS)} (hK5 : ∀ {y0 y1 y2 : Int32} {S U : SS} {r : Int32}, K5 y0 y1 y2 S = some (r, U) → Nn a b S U) {x1 : Int32} {x3 : Int32} {S U : SS} {r : Int32} (h : f_M_nextRunning_j62 K5 x1 x3 S = some (r, U)) : Nn a b S U := by
  rw [f_M_nextRunning_j62.eq_1] at h
  have n0 : Nn 0 0 S S := Nn.rf
  exact (n0.tr (k_M_nextRunning_j64 (a := a) (b := b) (by omega) (by omega) hK5 h)).le (by omega) (by omega)
theorem k_M_nextRunning_L5 : ∀ {n : Nat} {x1 : Int32} {x2 : Int32} {x3 : Int32} {S U : SS} {r : Int32}, f_M_nextRunning_L5 n x1 x2 x3 S = some (r, U) → Nn 0 0 S U := by
  intro n
  induction n with
  | zero =>
    intro x1 x2 x3 S U r h
    rw [f_M_nextRunning_L5.eq_1] at h
    cases h
  | succ n ih =>
    intro x1 x2 x3 S U r h
    rw [f_M_nextRunning_L5.eq_2] at h
    have n0 : Nn 0 0 S S := Nn.rf
    rcases ite_or h with h | h
    · have h := some_2 h
      subst h
      exact n0.le (by omega) (by omega)
    · replace h := (grd_t h).2
      rcases ite_or h with h | h
      · exact (n0.tr (k_M_nextRunning_j64 (a := 0) (b := 0) (by omega) (by omega) (fun h => ih h) h)).le (by omega) (by omega)
      · replace h := (grd_t h).2
        rcases ite_or h with h | h
        · exact (n0.tr (k_M_nextRunning_j64 (a := 0) (b := 0) (by omega) (by omega) (fun h => ih h) h)).le (by omega) (by omega)
        · replace h := (grd_t h).2
          rcases ite_or h with h | h
          · exact (n0.tr (k_M_nextRunning_j64 (a := 0) (b := 0) (by omega) (by omega) (fun h => ih h) h)).le (by omega) (by omega)
          · rcases ite_or h with h | h
            · exact (n0.tr (k_M_nextRunning_j62 (a := 0) (b := 0) (by omega) (by omega) (fun h => ih h) h)).le (by omega) (by omega)
            · replace h := (grd_t h).2
              replace h := (grd_t h).2
              rcases ite_or h with h | h
              · exact (n0.tr (k_M_nextRunning_j64 (a := 0) (b := 0) (by omega) (by omega) (fun h => ih h) h)).le (by omega) (by omega)
              · exact (n0.tr (k_M_nextRunning_j62 (a := 0) (b := 0) (by omega) (by omega) (fun h => ih h) h)).le (by omega) (by omega)
theorem k_M_nextRunning {a1 : Int32} {S U : SS} {r : Int32} (h : f_M_nextRunning a1 S = some (r, U)) : Nn 0 0 S U := by
  rw [f_M_nextRunning.eq_1] at h
  have n0 : Nn 0 0 S S := Nn.rf
  exact (n0.tr (k_M_nextRunning_L5 h)).le (by omega) (by omega)
theorem k_M_part_j45 {x1 : Int32} {x2 : Int32} {y0 : Int32} {S U : SS} {r : Int32} (h : f_M_part_j45 x1 x2 y0 S = some (r, U)) : Nn 1 0 S U := by
  rw [f_M_part_j45.eq_1] at h
  have n0 : Nn 0 0 S S := Nn.rf
  obtain ⟨_, S1, hc1, h⟩ := bnd_t h
  have n1 := n0.tr (k_M_ends hc1)
  rcases ite_or h with h | h
  · replace h := (grd_t h).2
    obtain ⟨_, h⟩ := nm_t h
    obtain ⟨_, S2, hc2, h⟩ := bnd_t h
    have n2 := n1.tr (k_M_sideTo hc2)
    replace h := (grd_t h).2
    obtain ⟨S3, e3, h⟩ := wr_t h
    have n3 := n2.tr (nn_st e3 (by decide))
    replace h := (grd_t h).2
    obtain ⟨S4, e4, h⟩ := wr_t h
    have n4 := n3.tr (nn_st e4 (by decide))
    obtain ⟨S5, hc5, h⟩ := bndv_t h
    have n5 := n4.tr (k_M_renumber hc5)
    obtain ⟨S6, hc6, h⟩ := bndv_t h
    have n6 := n5.tr (k_M_renumber hc6)
    obtain ⟨_, S7, hc7, h⟩ := bnd_t h
    have n7 := n6.tr (k_M_entered hc7)
    have h := some_2 h
    subst h
    exact n7.le (by omega) (by omega)
  · obtain ⟨_, S8, hc8, h⟩ := bnd_t h
    have n8 := n1.tr (k_M_entered hc8)
    have h := some_2 h
    subst h
    exact n8.le (by omega) (by omega)
theorem k_M_part {a1 : Int32} {a2 : Int32} {S U : SS} {r : Int32} (h : f_M_part a1 a2 S = some (r, U)) : Nn 1 0 S U := by
  rw [f_M_part.eq_1] at h
  have n0 : Nn 0 0 S S := Nn.rf
  obtain ⟨S1, hc1, h⟩ := bndv_t h
  have n1 := n0.tr (k_M_begin hc1)
  obtain ⟨S2, hc2, h⟩ := bndv_t h
  have n2 := n1.tr (k_M_keep hc2)
  obtain ⟨_, S3, hc3, h⟩ := bnd_t h
  have n3 := n2.tr (k_M_missSide hc3)
  rcases ite_or h with h | h
  · replace h := (grd_t h).2
    rcases ite_or h with h | h
    · exact (n3.tr (k_M_part_j45 h)).le (by omega) (by omega)
    · exact (n3.tr (k_M_part_j45 h)).le (by omega) (by omega)
  · exact (n3.tr (k_M_part_j45 h)).le (by omega) (by omega)
theorem k_M_perAxle_j27 {x1 : Int32} {x2 : Int32} {y0 : Int32} {S U : SS} {r : Int32} (h : f_M_perAxle_j27 x1 x2 y0 S = some (r, U)) : Nn 0 0 S U := by
  rw [f_M_perAxle_j27.eq_1] at h
  have n0 : Nn 0 0 S S := Nn.rf
  replace h := (grd_t h).2
  obtain ⟨S1, e1, h⟩ := wr_t h
  have n1 := n0.tr (nn_0 e1 (by decide) (by decide))
  rcases ite_or h with h | h
  · replace h := (grd_t h).2
    replace h := (grd_t h).2
    have h := some_2 h
    subst h
    exact n1.le (by omega) (by omega)
  · have h := some_2 h
    subst h
    exact n1.le (by omega) (by omega)
theorem k_M_perAxle {a1 : Int32} {S U : SS} {r : Int32} (h : f_M_perAxle a1 S = some (r, U)) : Nn 0 0 S U := by
  rw [f_M_perAxle.eq_1] at h
  have n0 : Nn 0 0 S S := Nn.rf
  obtain ⟨S1, hc1, h⟩ := bndv_t h
  have n1 := n0.tr (k_M_note hc1)
  obtain ⟨_, S2, hc2, h⟩ := bnd_t h
  have n2 := n1.tr (k_M_weight hc2)
  replace h := (grd_t h).2
  rcases ite_or h with h | h
  · exact (n2.tr (k_M_perAxle_j27 h)).le (by omega) (by omega)
  · exact (n2.tr (k_M_perAxle_j27 h)).le (by omega) (by omega)
theorem k_M_pull_L53 : ∀ {n : Nat} {x3 : Int32} {x4 : Int32} {S U : SS} {r : Int32}, f_M_pull_L53 n x3 x4 S = some (r, U) → Nn 1 0 S U := by
  intro n
  induction n with
  | zero =>
    intro x3 x4 S U r h
    rw [f_M_pull_L53.eq_1] at h
    cases h
  | succ n ih =>
    intro x3 x4 S U r h
    rw [f_M_pull_L53.eq_2] at h
    have n0 : Nn 0 0 S S := Nn.rf
    rcases ite_or h with h | h
    · obtain ⟨_, S1, hc1, h⟩ := bnd_t h
      have n1 := n0.tr (k_M_entered hc1)
      have h := some_2 h
      subst h
      exact n1.le (by omega) (by omega)
    · obtain ⟨_, S2, hc2, h⟩ := bnd_t h
      have n2 := n0.tr (k_M_missStep hc2)
      obtain ⟨_, S3, hc3, h⟩ := bnd_t h
      have n3 := n2.tr (k_M_ends hc3)
      rcases ite_or h with h | h
      · obtain ⟨S4, hc4, h⟩ := bndv_t h
        have n4 := n3.tr (k_M_goOn hc4)
        obtain ⟨S5, e5, h⟩ := wr_t h
        have n5 := n4.tr (nn_0 e5 (by decide) (by decide))
        obtain ⟨_, h⟩ := nm_t h
        exact (n5.tr (ih h)).le (by omega) (by omega)
      · obtain ⟨_, S6, hc6, h⟩ := bnd_t h
        have n6 := n3.tr (k_M_entered hc6)
        have h := some_2 h
        subst h
        exact n6.le (by omega) (by omega)
theorem k_M_pull {a1 : Int32} {a2 : Int32} {a3 : Int32} {S U : SS} {r : Int32} (h : f_M_pull a1 a2 a3 S = some (r, U)) : Nn 1 0 S U := by
  rw [f_M_pull.eq_1] at h
  have n0 : Nn 0 0 S S := Nn.rf
  rcases ite_or h with h | h
  · have h := some_2 h
    subst h
    exact n0.le (by omega) (by omega)
  · rcases ite_or h with h | h
    · obtain ⟨S1, hc1, h⟩ := bndv_t h
      have n1 := n0.tr (k_M_begin hc1)
      obtain ⟨S2, hc2, h⟩ := bndv_t h
      have n2 := n1.tr (k_M_keep hc2)
      obtain ⟨_, S3, hc3, h⟩ := bnd_t h
      have n3 := n2.tr (k_M_missPull hc3)
      obtain ⟨_, S4, hc4, h⟩ := bnd_t h
      have n4 := n3.tr (k_M_ends hc4)
      rcases ite_or h with h | h
      · obtain ⟨S5, hc5, h⟩ := bndv_t h
        have n5 := n4.tr (k_M_follow hc5)
        exact (n5.tr (k_M_pull_L53 h)).le (by omega) (by omega)
      · obtain ⟨_, S6, hc6, h⟩ := bnd_t h
        have n6 := n4.tr (k_M_entered hc6)
        have h := some_2 h
        subst h
        exact n6.le (by omega) (by omega)
    · have h := some_2 h
      subst h
      exact n0.le (by omega) (by omega)
theorem k_M_stop {a1 : Int32} {S U : SS} (h : f_M_stop a1 S = some U) : Nn 0 0 S U := by
  rw [f_M_stop.eq_1] at h
  have n0 : Nn 0 0 S S := Nn.rf
  replace h := (grd_t h).2
  obtain ⟨S1, e1, h⟩ := wr_t h
  have n1 := n0.tr (nn_st e1 (by decide))
  replace h := (grd_t h).2
  obtain ⟨S2, e2, h⟩ := wr_t h
  have n2 := n1.tr (nn_st e2 (by decide))
  have h := some_1 h
  subst h
  exact n2.le (by omega) (by omega)
theorem k_M_run_j109 {x1 : Int32} {S U : SS} (h : f_M_run_j109 x1 S = some U) : Nn 0 0 S U := by
  rw [f_M_run_j109.eq_1] at h
  have n0 : Nn 0 0 S S := Nn.rf
  replace h := (grd_t h).2
  replace h := (grd_t h).2
  obtain ⟨S1, e1, h⟩ := wr_t h
  have n1 := n0.tr (nn_st e1 (by decide))
  replace h := (grd_t h).2
  rcases ite_or h with h | h
  · obtain ⟨S2, hc2, h⟩ := bndv_t h
    have n2 := n1.tr (k_M_stop hc2)
    have h := some_1 h
    subst h
    exact n2.le (by omega) (by omega)
  · have h := some_1 h
    subst h
    exact n1.le (by omega) (by omega)
theorem k_M_run_j80 {x1 : Int32} {x2 : Int32} {S U : SS} (h : f_M_run_j80 x1 x2 S = some U) : Nn 0 0 S U := by
  rw [f_M_run_j80.eq_1] at h
  have n0 : Nn 0 0 S S := Nn.rf
  rcases ite_or h with h | h
  · replace h := (grd_t h).2
    obtain ⟨S1, hc1, h⟩ := bndv_t h
    have n1 := n0.tr (k_M_place hc1)
    exact (n1.tr (k_M_run_j109 h)).le (by omega) (by omega)
  · exact (n0.tr (k_M_run_j109 h)).le (by omega) (by omega)
theorem k_M_run {a1 : Int32} {S U : SS} (h : f_M_run a1 S = some U) : Nn 0 0 S U := by
  rw [f_M_run.eq_1] at h
  have n0 : Nn 0 0 S S := Nn.rf
  replace h := (grd_t h).2
  replace h := (grd_t h).2
  replace h := (grd_t h).2
  obtain ⟨_, S1, hc1, h⟩ := bnd_t h
  have n1 := n0.tr (k_M_wayOf hc1)
  obtain ⟨_, S2, hc2, h⟩ := bnd_t h
  have n2 := n1.tr (k_M_isOpen hc2)
  rcases ite_or h with h | h
  · obtain ⟨S3, hc3, h⟩ := bndv_t h
    have n3 := n2.tr (k_M_stop hc3)
    have h := some_1 h
    subst h
    exact n3.le (by omega) (by omega)
  · obtain ⟨_, S4, hc4, h⟩ := bnd_t h
    have n4 := n2.tr (k_M_standing hc4)
    rcases ite_or h with h | h
    · exact (n4.tr (k_M_run_j80 h)).le (by omega) (by omega)
    · replace h := (grd_t h).2
      rcases ite_or h with h | h
      · obtain ⟨S5, hc5, h⟩ := bndv_t h
        have n5 := n4.tr (k_M_stop hc5)
        obtain ⟨S6, e6, h⟩ := wr_t h
        have n6 := n5.tr (nn_0 e6 (by decide) (by decide))
        have h := some_1 h
        subst h
        exact n6.le (by omega) (by omega)
      · exact (n4.tr (k_M_run_j80 h)).le (by omega) (by omega)
theorem k_M_running_j36 {a b : Nat} (ha : 0 ≤ a) (hb : 0 ≤ b) {K4 : Int32 → Int32 → SS → Option (Int32 × SS)} (hK4 : ∀ {y0 y1 : Int32} {S U : SS} {r : Int32}, K4 y0 y1 S = some (r, U) → Nn a b S U) {x2 : Int32} {y0 : Int32} {y1 : Int32} {S U : SS} {r : Int32} (h : f_M_running_j36 K4 x2 y0 y1 S = some (r, U)) : Nn a b S U := by
  rw [f_M_running_j36.eq_1] at h
  have n0 : Nn 0 0 S S := Nn.rf
  obtain ⟨_, h⟩ := nm_t h
  obtain ⟨_, h⟩ := nm_t h
  exact (n0.tr (hK4 h)).le (by omega) (by omega)
theorem k_M_running_j35 {a b : Nat} (ha : 0 ≤ a) (hb : 0 ≤ b) {K4 : Int32 → Int32 → SS → Option (Int32 × SS)} (hK4 : ∀ {y0 y1 : Int32} {S U : SS} {r : Int32}, K4 y0 y1 S = some (r, U) → Nn a b S U) {x2 : Int32} {y0 : Int32} {S U : SS} {r : Int32} (h : f_M_running_j35 K4 x2 y0 S = some (r, U)) : Nn a b S U := by
  rw [f_M_running_j35.eq_1] at h
  have n0 : Nn 0 0 S S := Nn.rf
  exact (n0.tr (k_M_running_j36 (a := a) (b := b) (by omega) (by omega) hK4 h)).le (by omega) (by omega)
theorem k_M_running_L4 : ∀ {n : Nat} {x1 : Int32} {x2 : Int32} {S U : SS} {r : Int32}, f_M_running_L4 n x1 x2 S = some (r, U) → Nn 0 0 S U := by
  intro n
  induction n with
  | zero =>
    intro x1 x2 S U r h
    rw [f_M_running_L4.eq_1] at h
    cases h
  | succ n ih =>
    intro x1 x2 S U r h
    rw [f_M_running_L4.eq_2] at h
    have n0 : Nn 0 0 S S := Nn.rf
    rcases ite_or h with h | h
    · have h := some_2 h
      subst h
      exact n0.le (by omega) (by omega)
    · replace h := (grd_t h).2
      rcases ite_or h with h | h
      · exact (n0.tr (k_M_running_j35 (a := 0) (b := 0) (by omega) (by omega) (fun h => ih h) h)).le (by omega) (by omega)
      · replace h := (grd_t h).2
        rcases ite_or h with h | h
        · exact (n0.tr (k_M_running_j35 (a := 0) (b := 0) (by omega) (by omega) (fun h => ih h) h)).le (by omega) (by omega)
        · exact (n0.tr (k_M_running_j36 (a := 0) (b := 0) (by omega) (by omega) (fun h => ih h) h)).le (by omega) (by omega)
theorem k_M_running {S U : SS} {r : Int32} (h : f_M_running S = some (r, U)) : Nn 0 0 S U := by
  rw [f_M_running.eq_1] at h
  have n0 : Nn 0 0 S S := Nn.rf
  exact (n0.tr (k_M_running_L4 h)).le (by omega) (by omega)
theorem k_M_step_L30 {a b : Nat} (ha : 0 ≤ a) (hb : 0 ≤ b) {K19 : Int32 → Int32 → SS → Option (Int32 × SS)} (hK19 : ∀ {y0 y1 : Int32} {S U : SS} {r : Int32}, K19 y0 y1 S = some (r, U) → Nn a b S U) : ∀ {n : Nat} {x1 : Int32} {x2 : Int32} {x3 : Int32} {S U : SS} {r : Int32}, f_M_step_L30 K19 n x1 x2 x3 S = some (r, U) → Nn a b S U := by
  intro n
  induction n with
  | zero =>
    intro x1 x2 x3 S U r h
    rw [f_M_step_L30.eq_1] at h
    cases h
  | succ n ih =>
    intro x1 x2 x3 S U r h
    rw [f_M_step_L30.eq_2] at h
    have n0 : Nn 0 0 S S := Nn.rf
    rcases ite_or h with h | h
    · obtain ⟨_, h⟩ := nm_t h
      exact (n0.tr (hK19 h)).le (by omega) (by omega)
    · replace h := (grd_t h).2
      obtain ⟨_, h⟩ := nm_t h
      obtain ⟨S1, hc1, h⟩ := bndv_t h
      have n1 := n0.tr (k_M_run hc1)
      obtain ⟨_, S2, hc2, h⟩ := bnd_t h
      have n2 := n1.tr (k_M_nextRunning hc2)
      exact (n2.tr (ih h)).le (by omega) (by omega)
theorem k_M_step_L19 : ∀ {n : Nat} {x1 : Int32} {x2 : Int32} {S U : SS} {r : Int32}, f_M_step_L19 n x1 x2 S = some (r, U) → Nn 1 0 S U := by
  intro n
  induction n with
  | zero =>
    intro x1 x2 S U r h
    rw [f_M_step_L19.eq_1] at h
    cases h
  | succ n ih =>
    intro x1 x2 S U r h
    rw [f_M_step_L19.eq_2] at h
    have n0 : Nn 0 0 S S := Nn.rf
    rcases ite_or h with h | h
    · obtain ⟨_, S1, hc1, h⟩ := bnd_t h
      have n1 := n0.tr (k_M_running hc1)
      obtain ⟨_, S2, hc2, h⟩ := bnd_t h
      have n2 := n1.tr (k_M_entered hc2)
      have h := some_2 h
      subst h
      exact n2.le (by omega) (by omega)
    · obtain ⟨_, S3, hc3, h⟩ := bnd_t h
      have n3 := n0.tr (k_M_nextRunning hc3)
      exact (n3.tr (k_M_step_L30 (a := 1) (b := 0) (by omega) (by omega) (fun h => ih h) h)).le (by omega) (by omega)
theorem k_M_step {a1 : Int32} {S U : SS} {r : Int32} (h : f_M_step a1 S = some (r, U)) : Nn 1 0 S U := by
  rw [f_M_step.eq_1] at h
  have n0 : Nn 0 0 S S := Nn.rf
  rcases ite_or h with h | h
  · have h := some_2 h
    subst h
    exact n0.le (by omega) (by omega)
  · rcases ite_or h with h | h
    · obtain ⟨S1, hc1, h⟩ := bndv_t h
      have n1 := n0.tr (k_M_keep hc1)
      exact (n1.tr (k_M_step_L19 h)).le (by omega) (by omega)
    · have h := some_2 h
      subst h
      exact n0.le (by omega) (by omega)
theorem k_M_test_j150 {a b : Nat} (ha : 0 ≤ a) (hb : 0 ≤ b) {K119 : Int32 → Int32 → SS → Option (Int32 × SS)} (hK119 : ∀ {y0 y1 : Int32} {S U : SS} {r : Int32}, K119 y0 y1 S = some (r, U) → Nn a b S U) {x2 : Int32} {x3 : Int32} {y0 : Int32} {y1 : Int32} {S U : SS} {r : Int32} (h : f_M_test_j150 K119 x2 x3 y0 y1 S = some (r, U)) : Nn a b S U := by
  rw [f_M_test_j150.eq_1] at h
  have n0 : Nn 0 0 S S := Nn.rf
  replace h := (grd_t h).2
  obtain ⟨S1, e1, h⟩ := wr_t h
  have n1 := n0.tr (nn_st e1 (by decide))
  obtain ⟨_, h⟩ := nm_t h
  exact (n1.tr (hK119 h)).le (by omega) (by omega)
theorem k_M_test_L119 : ∀ {n : Nat} {x2 : Int32} {x3 : Int32} {S U : SS} {r : Int32}, f_M_test_L119 n x2 x3 S = some (r, U) → Nn 1 0 S U := by
  intro n
  induction n with
  | zero =>
    intro x2 x3 S U r h
    rw [f_M_test_L119.eq_1] at h
    cases h
  | succ n ih =>
    intro x2 x3 S U r h
    rw [f_M_test_L119.eq_2] at h
    have n0 : Nn 0 0 S S := Nn.rf
    rcases ite_or h with h | h
    · obtain ⟨_, S1, hc1, h⟩ := bnd_t h
      have n1 := n0.tr (k_M_entered hc1)
      have h := some_2 h
      subst h
      exact n1.le (by omega) (by omega)
    · replace h := (grd_t h).2
      rcases ite_or h with h | h
      · exact (n0.tr (k_M_test_j150 (a := 1) (b := 0) (by omega) (by omega) (fun h => ih h) h)).le (by omega) (by omega)
      · exact (n0.tr (k_M_test_j150 (a := 1) (b := 0) (by omega) (by omega) (fun h => ih h) h)).le (by omega) (by omega)
theorem k_M_test_j109 {a b : Nat} (ha : 0 ≤ a) (hb : 0 ≤ b) {K39 : Int32 → Int32 → SS → Option (Int32 × SS)} (hK39 : ∀ {y0 y1 : Int32} {S U : SS} {r : Int32}, K39 y0 y1 S = some (r, U) → Nn a b S U) {x3 : Int32} {y0 : Int32} {y1 : Int32} {S U : SS} {r : Int32} (h : f_M_test_j109 K39 x3 y0 y1 S = some (r, U)) : Nn a b S U := by
  rw [f_M_test_j109.eq_1] at h
  have n0 : Nn 0 0 S S := Nn.rf
  obtain ⟨_, h⟩ := nm_t h
  obtain ⟨_, h⟩ := nm_t h
  exact (n0.tr (hK39 h)).le (by omega) (by omega)
theorem k_M_test_L39 : ∀ {n : Nat} {x2 : Int32} {x3 : Int32} {S U : SS} {r : Int32}, f_M_test_L39 n x2 x3 S = some (r, U) → Nn 1 0 S U := by
  intro n
  induction n with
  | zero =>
    intro x2 x3 S U r h
    rw [f_M_test_L39.eq_1] at h
    cases h
  | succ n ih =>
    intro x2 x3 S U r h
    rw [f_M_test_L39.eq_2] at h
    have n0 : Nn 0 0 S S := Nn.rf
    rcases ite_or h with h | h
    · exact (n0.tr (k_M_test_L119 h)).le (by omega) (by omega)
    · replace h := (grd_t h).2
      obtain ⟨_, S1, hc1, h⟩ := bnd_t h
      have n1 := n0.tr (k_M_brake hc1)
      replace h := (grd_t h).2
      obtain ⟨_, S2, hc2, h⟩ := bnd_t h
      have n2 := n1.tr (k_M_perAxle hc2)
      rcases ite_or h with h | h
      · rcases ite_or h with h | h
        · exact (n2.tr (k_M_test_j109 (a := 1) (b := 0) (by omega) (by omega) (fun h => ih h) h)).le (by omega) (by omega)
        · exact (n2.tr (k_M_test_j109 (a := 1) (b := 0) (by omega) (by omega) (fun h => ih h) h)).le (by omega) (by omega)
      · obtain ⟨_, S3, hc3, h⟩ := bnd_t h
        have n3 := n2.tr (k_M_found hc3)
        obtain ⟨_, S4, hc4, h⟩ := bnd_t h
        have n4 := n3.tr (k_M_entered hc4)
        have h := some_2 h
        subst h
        exact n4.le (by omega) (by omega)
theorem k_M_test {a1 : Int32} {S U : SS} {r : Int32} (h : f_M_test a1 S = some (r, U)) : Nn 1 0 S U := by
  rw [f_M_test.eq_1] at h
  have n0 : Nn 0 0 S S := Nn.rf
  obtain ⟨S1, hc1, h⟩ := bndv_t h
  have n1 := n0.tr (k_M_begin hc1)
  obtain ⟨S2, hc2, h⟩ := bndv_t h
  have n2 := n1.tr (k_M_keep hc2)
  obtain ⟨_, S3, hc3, h⟩ := bnd_t h
  have n3 := n2.tr (k_M_missThing hc3)
  obtain ⟨_, S4, hc4, h⟩ := bnd_t h
  have n4 := n3.tr (k_M_ends hc4)
  rcases ite_or h with h | h
  · obtain ⟨S5, hc5, h⟩ := bndv_t h
    have n5 := n4.tr (k_M_lineUp hc5)
    exact (n5.tr (k_M_test_L39 h)).le (by omega) (by omega)
  · obtain ⟨_, S6, hc6, h⟩ := bnd_t h
    have n6 := n4.tr (k_M_entered hc6)
    have h := some_2 h
    subst h
    exact n6.le (by omega) (by omega)
theorem k_M_turn {a1 : Int32} {a2 : Int32} {S U : SS} {r : Int32} (h : f_M_turn a1 a2 S = some (r, U)) : Nn 1 0 S U := by
  rw [f_M_turn.eq_1] at h
  have n0 : Nn 0 0 S S := Nn.rf
  obtain ⟨S1, hc1, h⟩ := bndv_t h
  have n1 := n0.tr (k_M_begin hc1)
  obtain ⟨S2, hc2, h⟩ := bndv_t h
  have n2 := n1.tr (k_M_keep hc2)
  obtain ⟨_, S3, hc3, h⟩ := bnd_t h
  have n3 := n2.tr (k_M_missTurn hc3)
  obtain ⟨_, S4, hc4, h⟩ := bnd_t h
  have n4 := n3.tr (k_M_ends hc4)
  rcases ite_or h with h | h
  · replace h := (grd_t h).2
    obtain ⟨_, h⟩ := nm_t h
    replace h := (grd_t h).2
    obtain ⟨S5, e5, h⟩ := wr_t h
    have n5 := n4.tr (nn_st e5 (by decide))
    obtain ⟨_, S6, hc6, h⟩ := bnd_t h
    have n6 := n5.tr (k_M_entered hc6)
    have h := some_2 h
    subst h
    exact n6.le (by omega) (by omega)
  · obtain ⟨_, S7, hc7, h⟩ := bnd_t h
    have n7 := n4.tr (k_M_entered hc7)
    have h := some_2 h
    subst h
    exact n7.le (by omega) (by omega)
