/-! ===== the cells of the used places are WAGONS ===== -/
def NN (S : SS) : Prop := ∀ s i, s < 4 → i < mN S s → ∃ w, w < 10 ∧ S.1 57 (10 * s + i) = nI w
theorem v_and {v : Option SS} {V V' : SS → Prop} (h : Ew v V) (k : Ew v V') : Ew v (fun S => V S ∧ V' S) := by
  obtain ⟨S, e, h⟩ := h
  obtain ⟨T, e', k⟩ := k
  have : S = T := Option.some.inj (e.symm.trans e')
  subst this
  exact ⟨S, e, h, k⟩
theorem shn {S : SS} {a b n : Nat} (hW : WR S) (hN : NN S) (ha : a < 4) (hb : b < 4) (hab : a ≠ b) (hn : n ≤ mN S a) (hr : mN S b + n ≤ 10) : Ew (f_M_shift (nI a) (nI b) (nI n) S) (fun U => (WR U ∧ Fr [57, 58] [] S U ∧ cfS U = mvd a b n (cfS S)) ∧ NN U) := by
  refine v_and (shx hW ha hb hab hn hr) ?_
  obtain ⟨la, ea⟩ := mN_le hW a
  refine v_eq (f_M_shift.eq_1 _ _ _ _) ?_
  refine v_mono (shx_L3 hW ha hb hab hn hr Fr.rf NF 0 S hW Fr.rf (fun j => by rw [if_neg (by omega)]) (by omega) (by have : NF = 100000 := rfl; omega)) (fun U hU => ?_)
  obtain ⟨h1, h2, h3, h4⟩ := hU
  intro s i hs hi
  have hm := h3 s
  have ls := (mN_le hW s).1
  have lu := (mN_le h1 s).1
  rw [h4]
  by_cases c : 10 * b + mN S b ≤ 10 * s + i ∧ 10 * s + i < 10 * b + mN S b + n
  · rw [if_pos c, show 10 * a + mN S a - n + (10 * s + i - (10 * b + mN S b)) = 10 * a + (mN S a - n + (10 * s + i - (10 * b + mN S b))) by omega]
    exact hN a _ ha (by omega)
  · rw [if_neg c]
    refine hN s i hs ?_
    by_cases c1 : s = a
    · rw [if_pos c1] at hm
      rw [c1] at hi hm ⊢
      omega
    · rw [if_neg c1] at hm
      by_cases c2 : s = b
      · rw [if_pos c2] at hm
        rw [c2] at hi hm c ⊢
        omega
      · rw [if_neg c2] at hm
        omega
