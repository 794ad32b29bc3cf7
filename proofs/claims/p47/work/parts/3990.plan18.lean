/-! ===== what the ways to stand have in common ===== -/
def CX (S : SS) (n : Nat) (X : Cf) : Prop := tot X = n ∧ (∀ w, (Flat X).count w ≤ 1) ∧ ∀ w, 0 < (Flat X).count w → w < 10 ∧ ∃ r, r < n ∧ S.1 54 r = nI w
theorem cx_mv {S : SS} {n : Nat} {R : Nat → Nat} {X Z : Cf} (h : CX S n X) (m : Mv R X Z) : CX S n Z := ⟨by rw [mv_tot m]; exact h.1, fun w => by rw [mv_count m]; exact h.2.1 w, fun w hw => h.2.2 w (by rw [← mv_count m]; exact hw)⟩
theorem cx_in {S : SS} {n : Nat} (hN : NN S) (h : CX S n (cfS S)) : ∀ s i, s < 4 → i < mN S s → ∃ r, r < n ∧ S.1 54 r = S.1 57 (10 * s + i) := fun s i hs hi => by
  obtain ⟨w, hw, ew⟩ := hN s i hs hi
  have e : wN S s i = w := by unfold wN; rw [ew]; exact nI_clamp (by omega)
  have m : w ∈ Flat (cfS S) := by rw [← e]; exact List.mem_of_getElem? (fl_at hs hi)
  obtain ⟨_, r, hr, er⟩ := h.2.2 w (List.count_pos_iff.mpr m)
  exact ⟨r, hr, by rw [er, ew]⟩
theorem cx_off {S : SS} {n : Nat} (h : CX S n (cfS S)) : off S 4 = n := by
  have q := h.1
  unfold tot at q
  rw [cfS_len (by omega), cfS_len (by omega), cfS_len (by omega), cfS_len (by omega)] at q
  show 0 + mN S 0 + mN S 1 + mN S 2 + mN S 3 = n
  omega
