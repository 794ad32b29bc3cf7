/-! ===== START and GOAL as ways to stand ===== -/
theorem tot_off (T : SS) : tot (cfS T) = off T 4 := by
  unfold tot
  rw [off_4, cfS_len (by omega), cfS_len (by omega), cfS_len (by omega), cfS_len (by omega)]
theorem mN_ti {T : SS} (hW : WR T) (s : Nat) : (T.1 58 s).toInt = (mN T s : Int) := by
  obtain ⟨h1, h2⟩ := mN_le hW s
  rw [h2, nI_ti (by omega)]
theorem fl_ge {T : SS} {p : Nat} (hp : p < (Flat (cfS T)).length) : ∃ s i, s < 4 ∧ i < mN T s ∧ p = off T s + i ∧ (Flat (cfS T))[p]? = some (wN T s i) := by
  rw [flat_len, tot_off] at hp
  obtain ⟨s, i, hs, hi, rfl⟩ := off_in T hp
  exact ⟨s, i, hs, hi, rfl, fl_at hs hi⟩
theorem wN_of {T : SS} {s i w : Nat} (h : T.1 57 (10 * s + i) = nI w) (hw : w < 10) : wN T s i = w := by
  unfold wN
  rw [h, nI_clamp (by omega)]
theorem fl_mem {T : SS} (hN : NN T) {w : Nat} (h : w ∈ Flat (cfS T)) : ∃ s i, s < 4 ∧ i < mN T s ∧ w < 10 ∧ T.1 57 (10 * s + i) = nI w := by
  obtain ⟨p, hp, e⟩ := List.mem_iff_getElem.mp h
  obtain ⟨s, i, hs, hi, -, q⟩ := fl_ge hp
  rw [List.getElem?_eq_getElem hp, e] at q
  have q := Option.some.inj q
  obtain ⟨w', hw', ew⟩ := hN s i hs hi
  have := wN_of ew hw'
  exact ⟨s, i, hs, hi, by omega, by rw [ew, ← this, q]⟩
theorem mem_fl {T : SS} {w s i : Nat} (hs : s < 4) (hi : i < mN T s) (hw : w < 10) (e : T.1 57 (10 * s + i) = nI w) : w ∈ Flat (cfS T) := by
  rw [← wN_of e hw]
  exact List.mem_of_getElem? (fl_at hs hi)
theorem bef_mem {T : SS} (hW : WR T) (hN : NN T) {w : Nat} (hw : w < 10) : Bef (T.1 58) (T.1 57) (nI w) 4 0 ↔ w ∈ Flat (cfS T) := by
  constructor
  · intro ⟨s, i, h1, h2, h3, h4⟩
    rw [mN_ti hW] at h3
    exact mem_fl h2 (by omega) hw h4
  · intro h
    obtain ⟨s, i, hs, hi, -, e⟩ := fl_mem hN h
    exact ⟨s, i, Or.inl hs, hs, by rw [mN_ti hW]; omega, e⟩
theorem fl_nd {T : SS} (hW : WR T) (hN : NN T) (hD : DW (T.1 58) (T.1 57)) : (Flat (cfS T)).Nodup := by
  refine List.pairwise_iff_getElem.mpr (fun p p' hp hp' hlt e => ?_)
  obtain ⟨s, i, hs, hi, e1, q⟩ := fl_ge hp
  obtain ⟨s', i', hs', hi', e1', q'⟩ := fl_ge hp'
  rw [List.getElem?_eq_getElem hp] at q
  rw [List.getElem?_eq_getElem hp'] at q'
  have q := Option.some.inj q
  have q' := Option.some.inj q'
  obtain ⟨w, hw, ew⟩ := hN s i hs hi
  obtain ⟨w', hw', ew'⟩ := hN s' i' hs' hi'
  have a := wN_of ew hw
  have a' := wN_of ew' hw'
  have : w = w' := by rw [← a, ← a', ← q, ← q', e]
  subst this
  obtain ⟨b1, b2⟩ := hD s i s' i' hs hs' (by rw [mN_ti hW]; omega) (by rw [mN_ti hW]; omega) (ew.trans ew'.symm)
  subst b1 b2
  omega
theorem cx_of {B T : SS} {n : Nat} {g : Nat → Nat} (hW : WR T) (hN : NN T) (hD : DW (T.1 58) (T.1 57)) (hg : ∀ j, j < n → g j < 10 ∧ B.1 54 j = nI (g j) ∧ Bef (T.1 58) (T.1 57) (nI (g j)) 4 0) (hi : ∀ i j, i < n → j < n → g i = g j → i = j) (ha : ∀ w, w < 10 → Bef (T.1 58) (T.1 57) (nI w) 4 0 → ∃ j, j < n ∧ g j = w) : CX B n (cfS T) := by
  have nd := fl_nd hW hN hD
  refine ⟨?_, List.nodup_iff_count.mp nd, fun w hw => ?_⟩
  · rw [← flat_len]
    have h1 := php (Flat (cfS T)) n g (fun i hi => (bef_mem hW hN (hg i hi).1).mp (hg i hi).2.2) hi
    have h2 := php ((List.range n).map g) (Flat (cfS T)).length (fun p => (Flat (cfS T)).getD p 0) (fun p hp => ?_) (fun i j h1 h2 e => (List.getD_inj h1 h2 nd).mp e)
    · rw [List.length_map, List.length_range] at h2
      omega
    · have m : (Flat (cfS T)).getD p 0 ∈ Flat (cfS T) := by
        rw [List.getD_eq_getElem?_getD, List.getElem?_eq_getElem hp]
        exact List.getElem_mem hp
      obtain ⟨s, i, -, -, hw, -⟩ := fl_mem hN m
      obtain ⟨j, hj, ej⟩ := ha _ hw ((bef_mem hW hN hw).mpr m)
      exact List.mem_map.mpr ⟨j, List.mem_range.mpr hj, ej⟩
  · have m := List.count_pos_iff.mp hw
    obtain ⟨s, i, -, -, hw10, -⟩ := fl_mem hN m
    obtain ⟨j, hj, ej⟩ := ha _ hw10 ((bef_mem hW hN hw10).mpr m)
    exact ⟨hw10, j, hj, by rw [(hg j hj).2.1, ej]⟩
def tkP (S U : SS) (x : Int32) : Prop := ∀ s, s < 4 → U.1 58 s = S.1 (tkM x) s ∧ ∀ j, j < (S.1 (tkM x) s).toNatClampNeg → U.1 57 (10 * s + j) = S.1 (tkO x) (10 * s + j)
theorem tk_NN {S U : SS} {x : Int32} (hW : WR S) (h : tkP S U x) : NN U := fun s i hs hi => by
  obtain ⟨h1, h2⟩ := h s hs
  unfold mN at hi
  rw [h1] at hi
  rw [h2 i hi]
  have : rg (S.1 (tkO x) (10 * s + i)) 0 9 := by
    unfold tkO
    by_cases c : x = 0
    · rw [if_pos c]; exact ro_48 hW _
    · rw [if_neg c]; exact ro_50 hW _
  obtain ⟨w, e, a, b, d⟩ := rg_ex this (by omega)
  exact ⟨w, by omega, e⟩
theorem tk_DW {S U : SS} {x : Int32} (hU : WR U) (h : tkP S U x) (hD : DW (S.1 (tkM x)) (S.1 (tkO x))) : DW (U.1 58) (U.1 57) := fun s i s' i' hs hs' hi hi' e => by
  have a := mN_ti hU s
  have a' := mN_ti hU s'
  unfold mN at a a'
  rw [(h s hs).1] at hi a
  rw [(h s' hs').1] at hi' a'
  rw [(h s hs).2 i (by omega), (h s' hs').2 i' (by omega)] at e
  exact hD s i s' i' hs hs' hi hi' e
theorem tk_Bef {S U : SS} {x : Int32} (hU : WR U) (h : tkP S U x) (w : Int32) : Bef (U.1 58) (U.1 57) w 4 0 ↔ Bef (S.1 (tkM x)) (S.1 (tkO x)) w 4 0 := by
  constructor
  · intro ⟨s, i, h1, h2, h3, h4⟩
    have a := mN_ti hU s
    unfold mN at a
    rw [(h s h2).1] at h3 a
    rw [(h s h2).2 i (by omega)] at h4
    exact ⟨s, i, h1, h2, h3, h4⟩
  · intro ⟨s, i, h1, h2, h3, h4⟩
    have a := mN_ti hU s
    unfold mN at a
    rw [(h s h2).1] at a
    refine ⟨s, i, h1, h2, by rw [(h s h2).1]; exact h3, ?_⟩
    rw [(h s h2).2 i (by omega)]
    exact h4
theorem tk_Fit {S U : SS} {x : Int32} (hW : WR S) (hU : WR U) (hP : PL S) (h : tkP S U x) : Fit (rmN S) (cfS U) := fun s hs => by
  rw [cfS_len hs]
  have a := mN_ti hU s
  rw [(h s hs).1] at a
  have r := rmN_le hW s
  have b : (S.1 46 s).toInt = (rmN S s : Int) := by rw [r.2, nI_ti (by omega)]
  have c := hP.1 s hs
  unfold tkM at a
  by_cases d : x = 0
  · rw [if_pos d] at a; omega
  · rw [if_neg d] at a; omega
