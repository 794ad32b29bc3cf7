/-! ===== what holds between calls ===== -/
/-- rows and fields that a call must leave for RP and CQ to stay by themselves -/
def nR (L : List Nat) (F : List (Nat × Nat)) (k : Nat) : Bool := L.all (fun j => !(Nat.beq j k)) && F.all (fun p => !(Nat.beq p.1 k))
def nF (L : List Nat) (F : List (Nat × Nat)) (k i : Nat) : Bool := L.all (fun j => !(Nat.beq j k)) && F.all (fun p => !(Nat.beq p.1 k && Nat.beq p.2 i))
theorem nF_wm {L : List Nat} {F : List (Nat × Nat)} {k i : Nat} (h : nF L F k i = true) : wm L F k i = false := by
  simp only [nF, Bool.and_eq_true, List.all_eq_true, Bool.not_eq_true'] at h
  simp only [wm, Bool.or_eq_false_iff, List.any_eq_false]
  refine ⟨fun x hx e => ?_, fun x hx e => ?_⟩
  · rw [h.1 x hx] at e; cases e
  · rw [h.2 x hx] at e; cases e
theorem nR_wm {L : List Nat} {F : List (Nat × Nat)} {k : Nat} (h : nR L F k = true) (i : Nat) : wm L F k i = false := by
  simp only [nR, Bool.and_eq_true, List.all_eq_true, Bool.not_eq_true'] at h
  simp only [wm, Bool.or_eq_false_iff, List.any_eq_false, Bool.and_eq_true]
  refine ⟨fun x hx e => ?_, fun x hx e => ?_⟩
  · rw [h.1 x hx] at e; cases e
  · rw [h.2 x hx] at e; cases e.1
def oRP (L : List Nat) (F : List (Nat × Nat)) : Bool := [46, 47, 48, 49, 50, 54, 55, 56].all (nR L F) && nF L F 0 76 && nF L F 0 77 && nF L F 0 81
def oCQ (L : List Nat) (F : List (Nat × Nat)) : Bool := [109, 110, 111, 114, 116, 119, 120].all (nR L F) && nF L F 71 5 && nF L F 71 6 && nF L F 71 7
theorem RP.k {S U : SS} {L : List Nat} {F : List (Nat × Nat)} (h : RP S) (g : F1 L F S U) (e : oRP L F = true) : RP U := by
  simp only [oRP, Bool.and_eq_true] at e
  obtain ⟨⟨⟨e1, e2⟩, e3⟩, e4⟩ := e
  have e1 := List.all_eq_true.mp e1
  exact h.of (fun k hk i => g k i (nR_wm (e1 k hk) i)) (g 0 76 (nF_wm e2)) (g 0 77 (nF_wm e3)) (g 0 81 (nF_wm e4))
theorem CQ.k {S U : SS} {G : Nat} {L : List Nat} {F : List (Nat × Nat)} (h : CQ S G) (g : Fr L F S U) (e : oCQ L F = true) : CQ U G := by
  simp only [oCQ, Bool.and_eq_true] at e
  obtain ⟨⟨⟨e1, e2⟩, e3⟩, e4⟩ := e
  have e1 := List.all_eq_true.mp e1
  exact h.fr g (fun k hk i => nR_wm (e1 k (by
    simp only [List.mem_cons, List.mem_nil_iff, or_false] at hk ⊢
    omega)) i) (fun i => nR_wm (e1 114 (by decide)) i) ⟨nF_wm e2, nF_wm e3, nF_wm e4⟩
theorem CQ.G6 {S : SS} {G : Nat} (h : CQ S G) : G ≤ 6 := by
  rcases h.2 with ⟨h1, -⟩ | ⟨w, W, h1, h2, -⟩
  · omega
  · have := h2.2.1
    omega
theorem nn_fr {S U : SS} {L : List Nat} {F : List (Nat × Nat)} (g : F1 L F S U) (e1 : nF L F 0 62 = true) (e2 : nF L F 0 47 = true) : Nn 0 0 S U := by
  unfold Nn
  rw [g 0 62 (nF_wm e1), g 0 47 (nF_wm e2)]
  exact ⟨by omega, by omega⟩
/-- the base: both worlds within their ranges, the plans' parts, the counts -/
def Bs (k g : Nat) (S : SS) : Prop := WR S ∧ RP S ∧ (∃ G, CQ S G ∧ g ≤ G) ∧ (S.1 0 62).toInt ≤ k ∧ (S.1 0 47).toInt ≤ k
theorem Bs.gh {k g : Nat} {S : SS} (h : Bs k g S) (d : Nat) : Bs k g (gho S d) := by
  obtain ⟨h1, h2, ⟨G, h3, h4⟩, h5, h6⟩ := h
  exact ⟨h1, h2, ⟨G, h3.gho d, h4⟩, h5, h6⟩
theorem Bs.g6 {k g : Nat} {S : SS} (h : Bs k g S) : g ≤ 6 := by
  obtain ⟨-, -, ⟨G, h3, h4⟩, -⟩ := h
  have := h3.G6
  omega
theorem Bs.x62 {k g : Nat} {S : SS} (h : Bs k g S) (hk : k < 599) : rg (S.1 0 62) 0 599 := ⟨(ro_0_62 h.1).1, by have := h.2.2.2.1; omega⟩
theorem Bs.x47 {k g : Nat} {S : SS} (h : Bs k g S) (hk : k < 599) : rg (S.1 0 47) 0 599 := ⟨(ro_0_47 h.1).1, by have := h.2.2.2.2; omega⟩
/-- a call that leaves what the plans have -/
theorem Bs.st {k g a b : Nat} {S U : SS} {L : List Nat} {F : List (Nat × Nat)} (h : Bs k g S) (w : WR U) (f : Fr L F S U) (e : (oRP L F && oCQ L F) = true) (n : Nn a b S U) (ha : a ≤ 1) (hb : b ≤ 1) : Bs (k + 1) g U := by
  obtain ⟨h1, h2, ⟨G, h3, h4⟩, h5, h6⟩ := h
  rw [Bool.and_eq_true] at e
  have := n.1
  have := n.2
  exact ⟨w, h2.k f.f1 e.1, ⟨G, h3.k f e.2, h4⟩, by omega, by omega⟩
/-- a call of the class -/
theorem Bs.sc {k g : Nat} {S U : SS} {L : List Nat} {F : List (Nat × Nat)} (h : Bs k g S) (w : WR U) (f : Fr L F S U) (e : (oRP L F && oCQ L F && nF L F 0 62 && nF L F 0 47) = true) : Bs k g U := by
  obtain ⟨h1, h2, ⟨G, h3, h4⟩, h5, h6⟩ := h
  simp only [Bool.and_eq_true] at e
  have n := nn_fr f.f1 e.1.2 e.2
  have := n.1
  have := n.2
  exact ⟨w, h2.k f.f1 e.1.1.1, ⟨G, h3.k f e.1.1.2, h4⟩, by omega, by omega⟩
/-- a call of the reference's plan methods -/
theorem Bs.sp {k g : Nat} {S U : SS} {L : List Nat} {F : List (Nat × Nat)} (h : Bs k g S) (w : WR U) (r : RP U) (f : Fr L F S U) (e : (oCQ L F && nF L F 0 62 && nF L F 0 47) = true) : Bs (k + 1) g U := by
  obtain ⟨h1, h2, ⟨G, h3, h4⟩, h5, h6⟩ := h
  simp only [Bool.and_eq_true] at e
  have n := nn_fr f.f1 e.1.2 e.2
  have := n.1
  have := n.2
  exact ⟨w, r, ⟨G, h3.k f e.1.1, h4⟩, by omega, by omega⟩
/-- a call of the class's plan methods -/
theorem Bs.sq {k g g' G : Nat} {S U : SS} {L : List Nat} {F : List (Nat × Nat)} (h : Bs k g S) (w : WR U) (c : CQ U G) (hG : g' ≤ G) (f : F1 L F S U) (e : (oRP L F && nF L F 0 62 && nF L F 0 47) = true) : Bs k g' U := by
  obtain ⟨h1, h2, -, h5, h6⟩ := h
  simp only [Bool.and_eq_true] at e
  have n := nn_fr f e.1.2 e.2
  have := n.1
  have := n.2
  exact ⟨w, h2.k f e.1.1, ⟨G, c, hG⟩, by omega, by omega⟩
