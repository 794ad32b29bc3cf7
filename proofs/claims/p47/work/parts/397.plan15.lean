/-! ===== the one list of all STACKS ===== -/
theorem fl_at {S : SS} {s i : Nat} (hs : s < 4) (hi : i < mN S s) : (Flat (cfS S))[off S s + i]? = some (wN S s i) := by
  have l0 := cfS_len (S := S) (s := 0) (by omega)
  have l1 := cfS_len (S := S) (s := 1) (by omega)
  have l2 := cfS_len (S := S) (s := 2) (by omega)
  have o1 : off S 1 = mN S 0 := by show 0 + mN S 0 = mN S 0; omega
  have o2 : off S 2 = mN S 0 + mN S 1 := by show 0 + mN S 0 + mN S 1 = _; omega
  have o3 : off S 3 = mN S 0 + mN S 1 + mN S 2 := by show 0 + mN S 0 + mN S 1 + mN S 2 = _; omega
  have n1 : (cfS S 0 ++ cfS S 1).length = mN S 0 + mN S 1 := by rw [List.length_append, l0, l1]
  have n2 : (cfS S 0 ++ cfS S 1 ++ cfS S 2).length = mN S 0 + mN S 1 + mN S 2 := by rw [List.length_append, n1, l2]
  have g := cfS_get (S := S) hs hi
  unfold Flat
  rcases (show s = 0 ∨ s = 1 ∨ s = 2 ∨ s = 3 by omega) with rfl | rfl | rfl | rfl
  · rw [show off S 0 + i = i by show 0 + i = i; omega, List.getElem?_append, if_pos (by omega), List.getElem?_append, if_pos (by omega), List.getElem?_append, if_pos (by omega)]
    exact g
  · rw [o1, List.getElem?_append, if_pos (by omega), List.getElem?_append, if_pos (by omega), List.getElem?_append, if_neg (by omega), l0, show mN S 0 + i - mN S 0 = i by omega]
    exact g
  · rw [o2, List.getElem?_append, if_pos (by omega), List.getElem?_append, if_neg (by omega), n1, show mN S 0 + mN S 1 + i - (mN S 0 + mN S 1) = i by omega]
    exact g
  · rw [o3, List.getElem?_append, if_neg (by omega), n2, show mN S 0 + mN S 1 + mN S 2 + i - (mN S 0 + mN S 1 + mN S 2) = i by omega]
    exact g
