/-! ===== mayMove told exactly ===== -/
theorem nI_ltJ {a b : Nat} (ha : a < 2 ^ 31) (hb : b < 2 ^ 31) : nI a < nI b ↔ a < b := by
  rw [Int32.lt_iff_toInt_lt, nI_toInt ha, nI_toInt hb]
  omega
def rmN (S : SS) (s : Nat) : Nat := (S.1 46 s).toNatClampNeg
theorem rmN_le {S : SS} (hW : WR S) (s : Nat) : rmN S s ≤ 10 ∧ S.1 46 s = nI (rmN S s) := by
  obtain ⟨j, hj, h1, h2, h3⟩ := rg_ex (ro_46 hW s) (by omega)
  have e : rmN S s = j := by unfold rmN; rw [hj]; exact nI_clamp h3
  rw [e]
  exact ⟨by omega, hj⟩
theorem mmx {S : SS} {a b n : Nat} (hW : WR S) (ha : a < 4) (hb : b < 4) (hn : n ≤ 10) : Ex2 (f_M_mayMove (nI a) (nI b) (nI n) S) (fun r U => U = S ∧ ((r = 0 ∧ ¬ (a ≠ b ∧ 1 ≤ n ∧ n ≤ mN S a ∧ mN S b + n ≤ rmN S b)) ∨ (r = 1 ∧ (a ≠ b ∧ 1 ≤ n ∧ n ≤ mN S a ∧ mN S b + n ≤ rmN S b)))) := by
  obtain ⟨la, ea⟩ := mN_le hW a
  obtain ⟨lb, eb⟩ := mN_le hW b
  obtain ⟨lr, er⟩ := rmN_le hW b
  refine e_eq (f_M_mayMove.eq_1 _ _ _ _) ?_
  rw [nI_clamp (n := a) (by omega), nI_clamp (n := b) (by omega), ea, eb, er, nI_add]
  refine e_i (fun q => ?_) (fun q => ?_)
  · have := (nI_eq (by omega) (by omega)).mp q
    exact ⟨_, _, rfl, rfl, Or.inl ⟨rfl, fun h => h.1 this⟩⟩
  · have hab : a ≠ b := fun e => q (by rw [e])
    refine e_i (fun q1 => ?_) (fun q1 => ?_)
    · have := (nI_ltJ (a := n) (b := 1) (by omega) (by omega)).mp q1
      exact ⟨_, _, rfl, rfl, Or.inl ⟨rfl, fun h => by omega⟩⟩
    · have h1 : ¬ n < 1 := fun w => q1 ((nI_ltJ (a := n) (b := 1) (by omega) (by omega)).mpr w)
      refine e_grd (inb_nI (by omega) (by omega)) ?_
      refine e_i (fun q2 => ?_) (fun q2 => ?_)
      · have := (nI_ltJ (by omega) (by omega)).mp q2
        exact ⟨_, _, rfl, rfl, Or.inl ⟨rfl, fun h => by omega⟩⟩
      · have h2 : ¬ mN S a < n := fun w => q2 ((nI_ltJ (by omega) (by omega)).mpr w)
        refine e_grd (inb_nI (by omega) (by omega)) ?_
        refine e_grd (inb_nI (by omega) (by omega)) ?_
        refine e_i (fun q3 => ?_) (fun q3 => ?_)
        · have := (nI_ltJ (by omega) (by omega)).mp q3
          exact ⟨_, _, rfl, rfl, Or.inl ⟨rfl, fun h => by omega⟩⟩
        · have h3 : ¬ rmN S b < mN S b + n := fun w => q3 ((nI_ltJ (by omega) (by omega)).mpr w)
          exact ⟨_, _, rfl, rfl, Or.inr ⟨rfl, hab, by omega, by omega, by omega⟩⟩
