/-! ===== the number of a way to stand, out of the lists alone ===== -/
def rkN (S : SS) (n w : Nat) : Nat := ((List.range n).find? (fun r => (S.1 54 r).toNatClampNeg == w)).getD 0
def fX (S : SS) (n : Nat) (X : Cf) (j : Nat) : Nat := rkN S n ((Flat X).getD j 0)
def cdX (S : SS) (n : Nat) (X : Cf) : Nat := leh (fX S n X) n n 0 0 * 216 + (X 0).length * 36 + (X 1).length * 6 + (X 2).length
theorem rkN_ok {S : SS} {n w r : Nat} (hr : r < n) (h : (S.1 54 r).toNatClampNeg = w) : rkN S n w < n ∧ (S.1 54 (rkN S n w)).toNatClampNeg = w := by
  unfold rkN
  cases e : (List.range n).find? (fun r => (S.1 54 r).toNatClampNeg == w) with
  | none =>
    have := List.find?_eq_none.mp e r (List.mem_range.mpr hr)
    exact absurd (beq_iff_eq.mpr h) this
  | some a =>
    have h1 := List.mem_range.mp (List.mem_of_find?_eq_some e)
    have h2 := List.find?_some e
    exact ⟨h1, beq_iff_eq.mp h2⟩
theorem cdX_eq (S : SS) (n : Nat) : cdN S n (fX S n (cfS S)) = cdX S n (cfS S) := by
  unfold cdN cdX
  rw [cfS_len (by omega), cfS_len (by omega), cfS_len (by omega)]
theorem rk_fX {S : SS} {n : Nat} (h54 : ∀ r, r < n → ∃ w, w < 10 ∧ S.1 54 r = nI w) (hin : ∀ s i, s < 4 → i < mN S s → ∃ r, r < n ∧ S.1 54 r = S.1 57 (10 * s + i)) : Rk S n (fX S n (cfS S)) := fun s i hs hi => by
  obtain ⟨r, hr, e⟩ := hin s i hs hi
  obtain ⟨w, hw, ew⟩ := h54 r hr
  have q : fX S n (cfS S) (off S s + i) = rkN S n (wN S s i) := by
    unfold fX
    rw [List.getD_eq_getElem?_getD, fl_at hs hi]
    rfl
  have k := rkN_ok (w := wN S s i) hr (by unfold wN; rw [e])
  rw [q]
  refine ⟨k.1, ?_⟩
  obtain ⟨w', hw', ew'⟩ := h54 _ k.1
  have k2 := k.2
  rw [ew', nI_clamp (by omega)] at k2
  unfold wN at k2
  rw [← e, ew, nI_clamp (by omega)] at k2
  rw [← e, ew, ew', k2]
