/-! ===== p54: the relation, each turn ===== -/
theorem Bs.up {k g : Nat} {S : SS} (h : Bs k g S) : Bs (k + 1) g S := by
  obtain ⟨h1, h2, h3, h5, h6⟩ := h
  exact ⟨h1, h2, h3, by omega, by omega⟩
def outR (L : List Nat) (F : List (Nat × Nat)) (q : Nat) : Bool := !(L.any (fun k => Nat.beq k q)) && !(F.any (fun p => Nat.beq p.1 q))
theorem outR_i {L : List Nat} {F : List (Nat × Nat)} {q : Nat} (h : outR L F q = true) (b : Nat) : wm L F q b = false := by
  unfold outR at h
  rw [Bool.and_eq_true, Bool.not_eq_true', Bool.not_eq_true'] at h
  unfold wm
  rw [h.1, Bool.false_or]
  rw [List.any_eq_false]
  intro p hp z
  rw [Bool.and_eq_true] at z
  exact (List.any_eq_false.mp h.2) p hp z.1
theorem keepR {L1 L2 Q : List Nat} {F1' F2' : List (Nat × Nat)} {S S1 S2 : SS} (f1 : F1 L1 F1' S S1) (f2 : F1 L2 F2' S1 S2) (c : Q.all (fun q => outR L1 F1' q && outR L2 F2' q) = true) : ∀ q, q ∈ Q → S2.1 q = S.1 q := fun q hq => by
  have h := List.all_eq_true.mp c q hq
  rw [Bool.and_eq_true] at h
  rw [frow f2 q (outR_i h.2), frow f1 q (outR_i h.1)]
def A5L : List Nat := [106, 46, 122, 48, 123, 47, 124, 50, 125, 49]
theorem A5.cg {S U : SS} (h : A5 S) (e : ∀ q, q ∈ A5L → U.1 q = S.1 q) : A5 U := by
  obtain ⟨h1, h2, h3, h4, h5⟩ := h
  exact ⟨by rw [e 106 (by decide), e 46 (by decide)]; exact h1, by rw [e 122 (by decide), e 48 (by decide)]; exact h2, by rw [e 123 (by decide), e 47 (by decide)]; exact h3, by rw [e 124 (by decide), e 50 (by decide)]; exact h4, by rw [e 125 (by decide), e 49 (by decide)]; exact h5⟩
def rel2 : Nat → Nat → SS → Prop := fun k g S => Bs k g S ∧ A5 S ∧ PZ S
theorem A5.i {S : SS} (h : A5 S) : (∀ i, S.1 106 i = S.1 46 i) ∧ (∀ i, S.1 122 i = S.1 48 i) ∧ (∀ i, S.1 123 i = S.1 47 i) ∧ (∀ i, S.1 124 i = S.1 50 i) ∧ ∀ i, S.1 125 i = S.1 49 i := by
  obtain ⟨h1, h2, h3, h4, h5⟩ := h
  exact ⟨fun i => by rw [h1], fun i => by rw [h2], fun i => by rw [h3], fun i => by rw [h4], fun i => by rw [h5]⟩
theorem A5.o {S : SS} (h1 : ∀ i, S.1 106 i = S.1 46 i) (h2 : ∀ i, S.1 122 i = S.1 48 i) (h3 : ∀ i, S.1 123 i = S.1 47 i) (h4 : ∀ i, S.1 124 i = S.1 50 i) (h5 : ∀ i, S.1 125 i = S.1 49 i) : A5 S := ⟨funext h1, funext h2, funext h3, funext h4, funext h5⟩
set_option maxRecDepth 20000 in
set_option maxHeartbeats 4000000 in
theorem rel2_step {k g : Nat} {S : SS} (h : rel2 k g S) (hk : k < 512) : ∀ (n : Nat) (x : Nat → Int32), n < 64 → ∃ (d : Nat) (S2 : SS), cOk n x (gh S d) S2 ∧ rel2 (k + 1) (g + d) S2
  | 0, x, _ => by
    obtain ⟨d, r1, r2, S1, S2, e1, e2, b, w, f1, f2⟩ := sc_0 (x := x) h.1 hk
    exact ⟨d, S2, ⟨r1, r2, S1, e1, e2⟩, b, (h.2.1.cg (keepR f1 f2.1 (by decide))), (h.2.2.cg (keepR f1 f2.1 (by decide)) (by rw [f2.1 0 76 rfl, f1 0 76 rfl]) (by rw [f2.1 0 77 rfl, f1 0 77 rfl]) (by rw [f2.1 0 81 rfl, f1 0 81 rfl]))⟩
  | 1, x, _ => by
    obtain ⟨d, r1, r2, S1, S2, e1, e2, b, w, f1, f2⟩ := sc_1 (x := x) h.1 hk
    exact ⟨d, S2, ⟨r1, r2, S1, e1, e2⟩, b, (h.2.1.cg (keepR f1 f2.1 (by decide))), (h.2.2.cg (keepR f1 f2.1 (by decide)) (by rw [f2.1 0 76 rfl, f1 0 76 rfl]) (by rw [f2.1 0 77 rfl, f1 0 77 rfl]) (by rw [f2.1 0 81 rfl, f1 0 81 rfl]))⟩
  | 2, x, _ => by
    obtain ⟨d, r1, r2, S1, S2, e1, e2, b, w, f1, f2⟩ := sc_2 (x := x) h.1 hk
    exact ⟨d, S2, ⟨r1, r2, S1, e1, e2⟩, b, (h.2.1.cg (keepR f1 f2.1 (by decide))), (h.2.2.cg (keepR f1 f2.1 (by decide)) (by rw [f2.1 0 76 rfl, f1 0 76 rfl]) (by rw [f2.1 0 77 rfl, f1 0 77 rfl]) (by rw [f2.1 0 81 rfl, f1 0 81 rfl]))⟩
  | 3, x, _ => by
    obtain ⟨d, r1, r2, S1, S2, e1, e2, b, w, f1, f2⟩ := sc_3 (x := x) h.1 hk
    exact ⟨d, S2, ⟨r1, r2, S1, e1, e2⟩, b, (h.2.1.cg (keepR f1 f2.1 (by decide))), (h.2.2.cg (keepR f1 f2.1 (by decide)) (by rw [f2.1 0 76 rfl, f1 0 76 rfl]) (by rw [f2.1 0 77 rfl, f1 0 77 rfl]) (by rw [f2.1 0 81 rfl, f1 0 81 rfl]))⟩
  | 4, x, _ => by
    obtain ⟨d, r1, r2, S1, S2, e1, e2, b, w, f1, f2⟩ := sc_4 (x := x) h.1 hk
    exact ⟨d, S2, ⟨r1, r2, S1, e1, e2⟩, b, (h.2.1.cg (keepR f1 f2.1 (by decide))), (h.2.2.cg (keepR f1 f2.1 (by decide)) (by rw [f2.1 0 76 rfl, f1 0 76 rfl]) (by rw [f2.1 0 77 rfl, f1 0 77 rfl]) (by rw [f2.1 0 81 rfl, f1 0 81 rfl]))⟩
  | 5, x, _ => by
    obtain ⟨d, r1, r2, S1, S2, e1, e2, b, w, f1, f2⟩ := sc_5 (x := x) h.1 hk
    exact ⟨d, S2, ⟨r1, r2, S1, e1, e2⟩, b, (h.2.1.cg (keepR f1 f2.1 (by decide))), (h.2.2.cg (keepR f1 f2.1 (by decide)) (by rw [f2.1 0 76 rfl, f1 0 76 rfl]) (by rw [f2.1 0 77 rfl, f1 0 77 rfl]) (by rw [f2.1 0 81 rfl, f1 0 81 rfl]))⟩
  | 6, x, _ => by
    obtain ⟨d, r1, r2, S1, S2, e1, e2, b, w, f1, f2⟩ := sc_6 (x := x) h.1 hk
    exact ⟨d, S2, ⟨r1, r2, S1, e1, e2⟩, b, (h.2.1.cg (keepR f1 f2.1 (by decide))), (h.2.2.cg (keepR f1 f2.1 (by decide)) (by rw [f2.1 0 76 rfl, f1 0 76 rfl]) (by rw [f2.1 0 77 rfl, f1 0 77 rfl]) (by rw [f2.1 0 81 rfl, f1 0 81 rfl]))⟩
  | 7, x, _ => by
    obtain ⟨d, r1, r2, S1, S2, e1, e2, b, w, f1, f2⟩ := sc_7 (x := x) h.1 hk
    exact ⟨d, S2, ⟨r1, r2, S1, e1, e2⟩, b, (h.2.1.cg (keepR f1 f2.1 (by decide))), (h.2.2.cg (keepR f1 f2.1 (by decide)) (by rw [f2.1 0 76 rfl, f1 0 76 rfl]) (by rw [f2.1 0 77 rfl, f1 0 77 rfl]) (by rw [f2.1 0 81 rfl, f1 0 81 rfl]))⟩
  | 8, x, _ => by
    obtain ⟨d, r1, r2, S1, S2, e1, e2, b, w, f1, f2⟩ := sc_8 (x := x) h.1 hk
    exact ⟨d, S2, ⟨r1, r2, S1, e1, e2⟩, b, (h.2.1.cg (keepR f1 f2.1 (by decide))), (h.2.2.cg (keepR f1 f2.1 (by decide)) (by rw [f2.1 0 76 rfl, f1 0 76 rfl]) (by rw [f2.1 0 77 rfl, f1 0 77 rfl]) (by rw [f2.1 0 81 rfl, f1 0 81 rfl]))⟩
  | 9, x, _ => by
    obtain ⟨d, r1, r2, S1, S2, e1, e2, b, w, f1, f2⟩ := sc_9 (x := x) h.1 hk
    exact ⟨d, S2, ⟨r1, r2, S1, e1, e2⟩, b, (h.2.1.cg (keepR f1 f2.1 (by decide))), (h.2.2.cg (keepR f1 f2.1 (by decide)) (by rw [f2.1 0 76 rfl, f1 0 76 rfl]) (by rw [f2.1 0 77 rfl, f1 0 77 rfl]) (by rw [f2.1 0 81 rfl, f1 0 81 rfl]))⟩
  | 10, x, _ => by
    obtain ⟨d, r1, r2, S1, S2, e1, e2, b, w, f1, f2⟩ := sc_10 (x := x) h.1 hk
    exact ⟨d, S2, ⟨r1, r2, S1, e1, e2⟩, b, (h.2.1.cg (keepR f1 f2.1 (by decide))), (h.2.2.cg (keepR f1 f2.1 (by decide)) (by rw [f2.1 0 76 rfl, f1 0 76 rfl]) (by rw [f2.1 0 77 rfl, f1 0 77 rfl]) (by rw [f2.1 0 81 rfl, f1 0 81 rfl]))⟩
  | 11, x, _ => by
    obtain ⟨d, r1, r2, S1, S2, e1, e2, b, w, f1, f2⟩ := sc_11 (x := x) h.1 hk
    exact ⟨d, S2, ⟨r1, r2, S1, e1, e2⟩, b, (h.2.1.cg (keepR f1 f2.1 (by decide))), (h.2.2.cg (keepR f1 f2.1 (by decide)) (by rw [f2.1 0 76 rfl, f1 0 76 rfl]) (by rw [f2.1 0 77 rfl, f1 0 77 rfl]) (by rw [f2.1 0 81 rfl, f1 0 81 rfl]))⟩
  | 12, x, _ => by
    obtain ⟨d, r1, r2, S1, S2, e1, e2, b, w, f1, f2⟩ := sc_12 (x := x) h.1 hk
    exact ⟨d, S2, ⟨r1, r2, S1, e1, e2⟩, b, (h.2.1.cg (keepR f1 f2.1 (by decide))), (h.2.2.cg (keepR f1 f2.1 (by decide)) (by rw [f2.1 0 76 rfl, f1 0 76 rfl]) (by rw [f2.1 0 77 rfl, f1 0 77 rfl]) (by rw [f2.1 0 81 rfl, f1 0 81 rfl]))⟩
  | 13, x, _ => by
    obtain ⟨d, r1, r2, S1, S2, e1, e2, b, w, f1, f2⟩ := sc_13 (x := x) h.1 hk
    exact ⟨d, S2, ⟨r1, r2, S1, e1, e2⟩, b, (h.2.1.cg (keepR f1 f2.1 (by decide))), (h.2.2.cg (keepR f1 f2.1 (by decide)) (by rw [f2.1 0 76 rfl, f1 0 76 rfl]) (by rw [f2.1 0 77 rfl, f1 0 77 rfl]) (by rw [f2.1 0 81 rfl, f1 0 81 rfl]))⟩
  | 14, x, _ => by
    obtain ⟨d, r1, r2, S1, S2, e1, e2, b, w, f1, f2⟩ := sc_14 (x := x) h.1 hk
    exact ⟨d, S2, ⟨r1, r2, S1, e1, e2⟩, b, (h.2.1.cg (keepR f1 f2.1 (by decide))), (h.2.2.cg (keepR f1 f2.1 (by decide)) (by rw [f2.1 0 76 rfl, f1 0 76 rfl]) (by rw [f2.1 0 77 rfl, f1 0 77 rfl]) (by rw [f2.1 0 81 rfl, f1 0 81 rfl]))⟩
  | 15, x, _ => by
    obtain ⟨d, r1, r2, S1, S2, e1, e2, b, w, f1, f2⟩ := sc_15 (x := x) h.1 hk
    exact ⟨d, S2, ⟨r1, r2, S1, e1, e2⟩, b, (h.2.1.cg (keepR f1 f2.1 (by decide))), (h.2.2.cg (keepR f1 f2.1 (by decide)) (by rw [f2.1 0 76 rfl, f1 0 76 rfl]) (by rw [f2.1 0 77 rfl, f1 0 77 rfl]) (by rw [f2.1 0 81 rfl, f1 0 81 rfl]))⟩
  | 16, x, _ => by
    obtain ⟨d, r1, r2, S1, S2, e1, e2, b, w, f1, f2⟩ := sc_16 (x := x) h.1 hk
    exact ⟨d, S2, ⟨r1, r2, S1, e1, e2⟩, b, (h.2.1.cg (keepR f1 f2.1 (by decide))), (h.2.2.cg (keepR f1 f2.1 (by decide)) (by rw [f2.1 0 76 rfl, f1 0 76 rfl]) (by rw [f2.1 0 77 rfl, f1 0 77 rfl]) (by rw [f2.1 0 81 rfl, f1 0 81 rfl]))⟩
  | 17, x, _ => by
    obtain ⟨d, r1, r2, S1, S2, e1, e2, b, w, f1, f2⟩ := sc_17 (x := x) h.1 hk
    exact ⟨d, S2, ⟨r1, r2, S1, e1, e2⟩, b, (h.2.1.cg (keepR f1 f2.1 (by decide))), (h.2.2.cg (keepR f1 f2.1 (by decide)) (by rw [f2.1 0 76 rfl, f1 0 76 rfl]) (by rw [f2.1 0 77 rfl, f1 0 77 rfl]) (by rw [f2.1 0 81 rfl, f1 0 81 rfl]))⟩
  | 18, x, _ => by
    obtain ⟨d, r1, r2, S1, S2, e1, e2, b, w, f1, f2⟩ := sc_18 (x := x) h.1 hk
    exact ⟨d, S2, ⟨r1, r2, S1, e1, e2⟩, b, (h.2.1.cg (keepR f1 f2.1 (by decide))), (h.2.2.cg (keepR f1 f2.1 (by decide)) (by rw [f2.1 0 76 rfl, f1 0 76 rfl]) (by rw [f2.1 0 77 rfl, f1 0 77 rfl]) (by rw [f2.1 0 81 rfl, f1 0 81 rfl]))⟩
  | 19, x, _ => by
    obtain ⟨d, r1, r2, S1, S2, e1, e2, b, w, f1, f2⟩ := sc_19 (x := x) h.1 hk
    exact ⟨d, S2, ⟨r1, r2, S1, e1, e2⟩, b, (h.2.1.cg (keepR f1 f2.1 (by decide))), (h.2.2.cg (keepR f1 f2.1 (by decide)) (by rw [f2.1 0 76 rfl, f1 0 76 rfl]) (by rw [f2.1 0 77 rfl, f1 0 77 rfl]) (by rw [f2.1 0 81 rfl, f1 0 81 rfl]))⟩
  | 20, x, _ => by
    obtain ⟨d, r1, r2, S1, S2, e1, e2, b, w, f1, f2⟩ := sc_20 (x := x) h.1 hk
    exact ⟨d, S2, ⟨r1, r2, S1, e1, e2⟩, b, (h.2.1.cg (keepR f1 f2.1 (by decide))), (h.2.2.cg (keepR f1 f2.1 (by decide)) (by rw [f2.1 0 76 rfl, f1 0 76 rfl]) (by rw [f2.1 0 77 rfl, f1 0 77 rfl]) (by rw [f2.1 0 81 rfl, f1 0 81 rfl]))⟩
  | 21, x, _ => by
    obtain ⟨d, r1, r2, S1, S2, e1, e2, b, w, f1, f2⟩ := sc_21 (x := x) h.1 hk
    exact ⟨d, S2, ⟨r1, r2, S1, e1, e2⟩, b, (h.2.1.cg (keepR f1 f2.1 (by decide))), (h.2.2.cg (keepR f1 f2.1 (by decide)) (by rw [f2.1 0 76 rfl, f1 0 76 rfl]) (by rw [f2.1 0 77 rfl, f1 0 77 rfl]) (by rw [f2.1 0 81 rfl, f1 0 81 rfl]))⟩
  | 22, x, _ => by
    obtain ⟨d, r1, r2, S1, S2, e1, e2, b, w, f1, f2⟩ := sc_22 (x := x) h.1 hk
    exact ⟨d, S2, ⟨r1, r2, S1, e1, e2⟩, b, (h.2.1.cg (keepR f1 f2.1 (by decide))), (h.2.2.cg (keepR f1 f2.1 (by decide)) (by rw [f2.1 0 76 rfl, f1 0 76 rfl]) (by rw [f2.1 0 77 rfl, f1 0 77 rfl]) (by rw [f2.1 0 81 rfl, f1 0 81 rfl]))⟩
  | 23, x, _ => by
    obtain ⟨d, r1, r2, S1, S2, e1, e2, b, w, f1, f2⟩ := sc_23 (x := x) h.1 hk
    exact ⟨d, S2, ⟨r1, r2, S1, e1, e2⟩, b, (h.2.1.cg (keepR f1 f2.1 (by decide))), (h.2.2.cg (keepR f1 f2.1 (by decide)) (by rw [f2.1 0 76 rfl, f1 0 76 rfl]) (by rw [f2.1 0 77 rfl, f1 0 77 rfl]) (by rw [f2.1 0 81 rfl, f1 0 81 rfl]))⟩
  | 24, x, _ => by
    obtain ⟨d, r1, r2, S1, S2, e1, e2, b, w, f1, f2⟩ := sc_24 (x := x) h.1 hk
    exact ⟨d, S2, ⟨r1, r2, S1, e1, e2⟩, b, (h.2.1.cg (keepR f1 f2.1 (by decide))), (h.2.2.cg (keepR f1 f2.1 (by decide)) (by rw [f2.1 0 76 rfl, f1 0 76 rfl]) (by rw [f2.1 0 77 rfl, f1 0 77 rfl]) (by rw [f2.1 0 81 rfl, f1 0 81 rfl]))⟩
  | 25, x, _ => by
    obtain ⟨d, r1, r2, S1, S2, e1, e2, b, w, f1, f2⟩ := sc_25 (x := x) h.1 hk
    exact ⟨d, S2, ⟨r1, r2, S1, e1, e2⟩, b, (h.2.1.cg (keepR f1 f2.1 (by decide))), (h.2.2.cg (keepR f1 f2.1 (by decide)) (by rw [f2.1 0 76 rfl, f1 0 76 rfl]) (by rw [f2.1 0 77 rfl, f1 0 77 rfl]) (by rw [f2.1 0 81 rfl, f1 0 81 rfl]))⟩
  | 26, x, _ => by
    obtain ⟨d, r1, r2, S1, S2, e1, e2, b, w, f1, f2⟩ := sc_26 (x := x) h.1 hk
    exact ⟨d, S2, ⟨r1, r2, S1, e1, e2⟩, b, (h.2.1.cg (keepR f1 f2.1 (by decide))), (h.2.2.cg (keepR f1 f2.1 (by decide)) (by rw [f2.1 0 76 rfl, f1 0 76 rfl]) (by rw [f2.1 0 77 rfl, f1 0 77 rfl]) (by rw [f2.1 0 81 rfl, f1 0 81 rfl]))⟩
  | 27, x, _ => by
    obtain ⟨d, r1, r2, S1, S2, e1, e2, b, w, f1, f2⟩ := sc_27 (x := x) h.1 hk
    exact ⟨d, S2, ⟨r1, r2, S1, e1, e2⟩, b, (h.2.1.cg (keepR f1 f2.1 (by decide))), (h.2.2.cg (keepR f1 f2.1 (by decide)) (by rw [f2.1 0 76 rfl, f1 0 76 rfl]) (by rw [f2.1 0 77 rfl, f1 0 77 rfl]) (by rw [f2.1 0 81 rfl, f1 0 81 rfl]))⟩
  | 28, x, _ => by
    obtain ⟨d, r1, r2, S1, S2, e1, e2, b, w, f1, f2⟩ := sc_28 (x := x) h.1 hk
    exact ⟨d, S2, ⟨r1, r2, S1, e1, e2⟩, b, (h.2.1.cg (keepR f1 f2.1 (by decide))), (h.2.2.cg (keepR f1 f2.1 (by decide)) (by rw [f2.1 0 76 rfl, f1 0 76 rfl]) (by rw [f2.1 0 77 rfl, f1 0 77 rfl]) (by rw [f2.1 0 81 rfl, f1 0 81 rfl]))⟩
  | 29, x, _ => by
    obtain ⟨d, r1, r2, S1, S2, e1, e2, b, w, f1, f2⟩ := sc_29 (x := x) h.1 hk
    exact ⟨d, S2, ⟨r1, r2, S1, e1, e2⟩, b, (h.2.1.cg (keepR f1 f2.1 (by decide))), (h.2.2.cg (keepR f1 f2.1 (by decide)) (by rw [f2.1 0 76 rfl, f1 0 76 rfl]) (by rw [f2.1 0 77 rfl, f1 0 77 rfl]) (by rw [f2.1 0 81 rfl, f1 0 81 rfl]))⟩
  | 30, x, _ => by
    obtain ⟨d, r1, r2, S1, S2, e1, e2, b, w, f1, f2⟩ := sc_30 (x := x) h.1 hk
    exact ⟨d, S2, ⟨r1, r2, S1, e1, e2⟩, b, (h.2.1.cg (keepR f1 f2.1 (by decide))), (h.2.2.cg (keepR f1 f2.1 (by decide)) (by rw [f2.1 0 76 rfl, f1 0 76 rfl]) (by rw [f2.1 0 77 rfl, f1 0 77 rfl]) (by rw [f2.1 0 81 rfl, f1 0 81 rfl]))⟩
  | 31, x, _ => by
    obtain ⟨d, r1, r2, S1, S2, e1, e2, b, w, f1, f2⟩ := sc_31 (x := x) h.1 hk
    exact ⟨d, S2, ⟨r1, r2, S1, e1, e2⟩, b, (h.2.1.cg (keepR f1 f2.1 (by decide))), (h.2.2.cg (keepR f1 f2.1 (by decide)) (by rw [f2.1 0 76 rfl, f1 0 76 rfl]) (by rw [f2.1 0 77 rfl, f1 0 77 rfl]) (by rw [f2.1 0 81 rfl, f1 0 81 rfl]))⟩
  | 32, x, _ => by
    obtain ⟨d, r1, r2, S1, S2, e1, e2, b, w, f1, f2⟩ := sc_32 (x := x) h.1 hk
    exact ⟨d, S2, ⟨r1, r2, S1, e1, e2⟩, b, (h.2.1.cg (keepR f1 f2.1 (by decide))), (h.2.2.cg (keepR f1 f2.1 (by decide)) (by rw [f2.1 0 76 rfl, f1 0 76 rfl]) (by rw [f2.1 0 77 rfl, f1 0 77 rfl]) (by rw [f2.1 0 81 rfl, f1 0 81 rfl]))⟩
  | 33, x, _ => by
    obtain ⟨d, r1, r2, S1, S2, e1, e2, b, w, f1, f2⟩ := sc_33 (x := x) h.1 hk
    exact ⟨d, S2, ⟨r1, r2, S1, e1, e2⟩, b, (h.2.1.cg (keepR f1 f2.1 (by decide))), (h.2.2.cg (keepR f1 f2.1 (by decide)) (by rw [f2.1 0 76 rfl, f1 0 76 rfl]) (by rw [f2.1 0 77 rfl, f1 0 77 rfl]) (by rw [f2.1 0 81 rfl, f1 0 81 rfl]))⟩
  | 34, x, _ => by
    obtain ⟨d, r1, r2, S1, S2, e1, e2, b, w, f1, f2⟩ := sc_34 (x := x) h.1 hk
    exact ⟨d, S2, ⟨r1, r2, S1, e1, e2⟩, b, (h.2.1.cg (keepR f1 f2.1 (by decide))), (h.2.2.cg (keepR f1 f2.1 (by decide)) (by rw [f2.1 0 76 rfl, f1 0 76 rfl]) (by rw [f2.1 0 77 rfl, f1 0 77 rfl]) (by rw [f2.1 0 81 rfl, f1 0 81 rfl]))⟩
  | 35, x, _ => by
    obtain ⟨d, r1, r2, S1, S2, e1, e2, b, w, f1, f2⟩ := sc_35 (x := x) h.1 hk
    exact ⟨d, S2, ⟨r1, r2, S1, e1, e2⟩, b, (h.2.1.cg (keepR f1 f2.1 (by decide))), (h.2.2.cg (keepR f1 f2.1 (by decide)) (by rw [f2.1 0 76 rfl, f1 0 76 rfl]) (by rw [f2.1 0 77 rfl, f1 0 77 rfl]) (by rw [f2.1 0 81 rfl, f1 0 81 rfl]))⟩
  | 36, x, _ => by
    obtain ⟨d, r1, r2, S1, S2, e1, e2, b, w, f1, f2⟩ := sc_36 (x := x) h.1 hk
    exact ⟨d, S2, ⟨r1, r2, S1, e1, e2⟩, b, (h.2.1.cg (keepR f1 f2.1 (by decide))), (h.2.2.cg (keepR f1 f2.1 (by decide)) (by rw [f2.1 0 76 rfl, f1 0 76 rfl]) (by rw [f2.1 0 77 rfl, f1 0 77 rfl]) (by rw [f2.1 0 81 rfl, f1 0 81 rfl]))⟩
  | 37, x, _ => by
    obtain ⟨d, r1, r2, S1, S2, e1, e2, b, w, f1, f2⟩ := sc_37 (x := x) h.1 hk
    exact ⟨d, S2, ⟨r1, r2, S1, e1, e2⟩, b, (h.2.1.cg (keepR f1 f2.1 (by decide))), (h.2.2.cg (keepR f1 f2.1 (by decide)) (by rw [f2.1 0 76 rfl, f1 0 76 rfl]) (by rw [f2.1 0 77 rfl, f1 0 77 rfl]) (by rw [f2.1 0 81 rfl, f1 0 81 rfl]))⟩
  | 38, x, _ => by
    obtain ⟨d, r1, r2, S1, S2, e1, e2, b, w, f1, f2⟩ := sc_38 (x := x) h.1 hk
    exact ⟨d, S2, ⟨r1, r2, S1, e1, e2⟩, b, (h.2.1.cg (keepR f1 f2.1 (by decide))), (h.2.2.cg (keepR f1 f2.1 (by decide)) (by rw [f2.1 0 76 rfl, f1 0 76 rfl]) (by rw [f2.1 0 77 rfl, f1 0 77 rfl]) (by rw [f2.1 0 81 rfl, f1 0 81 rfl]))⟩
  | 39, x, _ => by
    obtain ⟨d, r1, r2, S1, S2, e1, e2, b, w, f1, f2⟩ := sc_39 (x := x) h.1 hk
    exact ⟨d, S2, ⟨r1, r2, S1, e1, e2⟩, b, (h.2.1.cg (keepR f1 f2.1 (by decide))), (h.2.2.cg (keepR f1 f2.1 (by decide)) (by rw [f2.1 0 76 rfl, f1 0 76 rfl]) (by rw [f2.1 0 77 rfl, f1 0 77 rfl]) (by rw [f2.1 0 81 rfl, f1 0 81 rfl]))⟩
  | 40, x, _ => by
    obtain ⟨d, r1, r2, S1, S2, e1, e2, b, w, f1, f2⟩ := sc_40 (x := x) h.1 hk
    exact ⟨d, S2, ⟨r1, r2, S1, e1, e2⟩, b, (h.2.1.cg (keepR f1 f2.1 (by decide))), (h.2.2.cg (keepR f1 f2.1 (by decide)) (by rw [f2.1 0 76 rfl, f1 0 76 rfl]) (by rw [f2.1 0 77 rfl, f1 0 77 rfl]) (by rw [f2.1 0 81 rfl, f1 0 81 rfl]))⟩
  | 41, x, _ => by
    obtain ⟨d, r1, r2, S1, S2, e1, e2, b, w, f1, f2⟩ := sc_41 (x := x) h.1 hk
    exact ⟨d, S2, ⟨r1, r2, S1, e1, e2⟩, b, (h.2.1.cg (keepR f1 f2.1 (by decide))), (h.2.2.cg (keepR f1 f2.1 (by decide)) (by rw [f2.1 0 76 rfl, f1 0 76 rfl]) (by rw [f2.1 0 77 rfl, f1 0 77 rfl]) (by rw [f2.1 0 81 rfl, f1 0 81 rfl]))⟩
  | 42, x, _ => by
    obtain ⟨d, r1, r2, S1, S2, e1, e2, b, w, f1, f2⟩ := sc_42 (x := x) h.1 hk
    exact ⟨d, S2, ⟨r1, r2, S1, e1, e2⟩, b, (h.2.1.cg (keepR f1 f2.1 (by decide))), (h.2.2.cg (keepR f1 f2.1 (by decide)) (by rw [f2.1 0 76 rfl, f1 0 76 rfl]) (by rw [f2.1 0 77 rfl, f1 0 77 rfl]) (by rw [f2.1 0 81 rfl, f1 0 81 rfl]))⟩
  | 43, x, _ => by
    obtain ⟨d, r1, r2, S1, S2, e1, e2, b, w, f1, f2⟩ := sc_43 (x := x) h.1 hk
    exact ⟨d, S2, ⟨r1, r2, S1, e1, e2⟩, b, (h.2.1.cg (keepR f1 f2.1 (by decide))), (h.2.2.cg (keepR f1 f2.1 (by decide)) (by rw [f2.1 0 76 rfl, f1 0 76 rfl]) (by rw [f2.1 0 77 rfl, f1 0 77 rfl]) (by rw [f2.1 0 81 rfl, f1 0 81 rfl]))⟩
  | 44, x, _ => by
    obtain ⟨d, r1, r2, S1, S2, e1, e2, b, w, f1, f2⟩ := sc_44 (x := x) h.1 hk
    obtain ⟨a0, a1, a2, a3, a4⟩ := h.2.1.i
    obtain ⟨q1, qM⟩ := room_eq (S := gho S d) a0 a2 a4 e1 e2 (fun i => f1 46 i rfl) (fun i => f1 47 i rfl) (fun i => f1 49 i rfl) (fun i => f2.1 106 i rfl)
    exact ⟨d, S2, ⟨r1, r2, S1, e1, e2⟩, b, (A5.o qM (fun i => by rw [f2.1 122 i rfl, f1 122 i rfl, f2.1 48 i rfl, f1 48 i rfl]; exact a1 i) (fun i => by rw [f2.1 123 i rfl, f1 123 i rfl, f2.1 47 i rfl, f1 47 i rfl]; exact a2 i) (fun i => by rw [f2.1 124 i rfl, f1 124 i rfl, f2.1 50 i rfl, f1 50 i rfl]; exact a3 i) (fun i => by rw [f2.1 125 i rfl, f1 125 i rfl, f2.1 49 i rfl, f1 49 i rfl]; exact a4 i)), (h.2.2.cg (keepR f1 f2.1 (by decide)) (by rw [f2.1 0 76 rfl, f1 0 76 rfl]) (by rw [f2.1 0 77 rfl, f1 0 77 rfl]) (by rw [f2.1 0 81 rfl, f1 0 81 rfl]))⟩
  | 45, x, _ => by
    obtain ⟨d, r1, r2, S1, S2, e1, e2, b, w, f1, f2⟩ := sc_45 (x := x) h.1 hk
    obtain ⟨a0, a1, a2, a3, a4⟩ := h.2.1.i
    obtain ⟨q1, n1, n2, n3, n4⟩ := lay_eq (S := gho S d) h.1.1 w h.1.2.1.1 a0 a1 a2 a3 a4 e1 e2 f1 f2.f1
    exact ⟨d, S2, ⟨r1, r2, S1, e1, e2⟩, b, (A5.o (fun i => by rw [f2.1 106 i rfl, f1 106 i rfl, f2.1 46 i rfl, f1 46 i rfl]; exact a0 i) n1 n2 n3 n4), (h.2.2.cg (keepR f1 f2.1 (by decide)) (by rw [f2.1 0 76 rfl, f1 0 76 rfl]) (by rw [f2.1 0 77 rfl, f1 0 77 rfl]) (by rw [f2.1 0 81 rfl, f1 0 81 rfl]))⟩
  | 46, x, _ => by
    obtain ⟨d, r1, r2, S1, S2, e1, e2, b, w, f1, f2⟩ := sc_46 (x := x) h.1 hk
    obtain ⟨a0, a1, a2, a3, a4⟩ := h.2.1.i
    obtain ⟨q1, n2, n4⟩ := wipe_eq (S := gho S d) h.1.1 w h.1.2.1.1 a1 a2 a4 e1 e2 f1 f2.f1
    exact ⟨d, S2, ⟨r1, r2, S1, e1, e2⟩, b, (A5.o (fun i => by rw [f2.1 106 i rfl, f1 106 i rfl, f2.1 46 i rfl, f1 46 i rfl]; exact a0 i) (fun i => by rw [f2.1 122 i rfl, f1 122 i rfl, f2.1 48 i rfl, f1 48 i rfl]; exact a1 i) n2 (fun i => by rw [f2.1 124 i rfl, f1 124 i rfl, f2.1 50 i rfl, f1 50 i rfl]; exact a3 i) n4), (wipe_pz (S := gho S d) (h.2.2.eq rfl) f1 f2.f1 e1 e2)⟩
  | 47, x, _ => by
    obtain ⟨d, r1, r2, S1, S2, e1, e2, b, w, f1, f2⟩ := sc_47 (x := x) h.1 hk
    obtain ⟨G, hC, hG⟩ := h.1.2.2.1
    obtain ⟨q1, zZ⟩ := plan_eq (S := gho S d) h.1.1 (hC.gho d) h.1.2.1.1 h.1.2.1.2.1 h.2.1 (h.2.2.eq rfl) w f1 b.1 e1 e2
    exact ⟨d, S2, ⟨r1, r2, S1, e1, e2⟩, b, (h.2.1.cg (keepR f1 f2.1 (by decide))), zZ⟩
  | 48, x, _ => by
    obtain ⟨d, r1, r2, S1, S2, e1, e2, b, w, f1, f2⟩ := sc_48 (x := x) h.1 hk
    have q1 := move_eq (S := gho S d) (h.2.2.eq rfl) f1 e1 e2
    exact ⟨d, S2, ⟨r1, r2, S1, e1, e2⟩, b, (h.2.1.cg (keepR f1 f2.1 (by decide))), (h.2.2.cg (keepR f1 f2.1 (by decide)) (by rw [f2.1 0 76 rfl, f1 0 76 rfl]) (by rw [f2.1 0 77 rfl, f1 0 77 rfl]) (by rw [f2.1 0 81 rfl, f1 0 81 rfl]))⟩
  | 49, x, _ => by
    obtain ⟨d, r1, r2, S1, S2, e1, e2, b, w, f1, f2⟩ := sc_49 (x := x) h.1 hk
    exact ⟨d, S2, ⟨r1, r2, S1, e1, e2⟩, b, (h.2.1.cg (keepR f1 f2.1 (by decide))), (h.2.2.cg (keepR f1 f2.1 (by decide)) (by rw [f2.1 0 76 rfl, f1 0 76 rfl]) (by rw [f2.1 0 77 rfl, f1 0 77 rfl]) (by rw [f2.1 0 81 rfl, f1 0 81 rfl]))⟩
  | 50, x, _ => by
    obtain ⟨d, r1, r2, S1, S2, e1, e2, b, w, f1, f2⟩ := sc_50 (x := x) h.1 hk
    obtain ⟨G, hC, hG⟩ := h.1.2.2.1
    have q1 := proof_eq (S := gho S d) h.1.1 (hC.gho d) (h.2.2.eq rfl) f1 e1 e2
    exact ⟨d, S2, ⟨r1, r2, S1, e1, e2⟩, b, (h.2.1.cg (keepR f1 f2.1 (by decide))), (h.2.2.cg (keepR f1 f2.1 (by decide)) (by rw [f2.1 0 76 rfl, f1 0 76 rfl]) (by rw [f2.1 0 77 rfl, f1 0 77 rfl]) (by rw [f2.1 0 81 rfl, f1 0 81 rfl]))⟩
  | 51, x, _ => by
    obtain ⟨d, r1, r2, S1, S2, e1, e2, b, w, f1, f2⟩ := sc_51 (x := x) h.1 hk
    obtain ⟨G, hC, hG⟩ := h.1.2.2.1
    obtain ⟨q1, zZ⟩ := spoil_eq (S := gho S d) h.1.1 (hC.gho d) (h.2.2.eq rfl) b.1 f1 e1 e2
    exact ⟨d, S2, ⟨r1, r2, S1, e1, e2⟩, b, (h.2.1.cg (keepR f1 f2.1 (by decide))), zZ⟩
  | 52, x, _ => by
    obtain ⟨d, r1, r2, S1, S2, e1, e2, b, w, f1, f2⟩ := sc_52 (x := x) h.1 hk
    obtain ⟨G, hC, hG⟩ := h.1.2.2.1
    have q1 := check_eq (S := gho S d) h.1.1 (hC.gho d) h.1.2.1 h.2.1 (h.2.2.eq rfl) w f1 e1 e2
    subst q1
    exact ⟨d, S2, ⟨r1, S1, e1, e2⟩, b, (h.2.1.cg (keepR f1 f2.1 (by decide))), (h.2.2.cg (keepR f1 f2.1 (by decide)) (by rw [f2.1 0 76 rfl, f1 0 76 rfl]) (by rw [f2.1 0 77 rfl, f1 0 77 rfl]) (by rw [f2.1 0 81 rfl, f1 0 81 rfl]))⟩
  | 53, x, _ => ⟨0, gho S 0, rfl, (h.1.gh 0).up, h.2.1, h.2.2.eq rfl⟩
  | 54, x, _ => ⟨0, gho S 0, rfl, (h.1.gh 0).up, h.2.1, h.2.2.eq rfl⟩
  | 55, x, _ => ⟨0, gho S 0, rfl, (h.1.gh 0).up, h.2.1, h.2.2.eq rfl⟩
  | 56, x, _ => ⟨0, gho S 0, rfl, (h.1.gh 0).up, h.2.1, h.2.2.eq rfl⟩
  | 57, x, _ => ⟨0, gho S 0, rfl, (h.1.gh 0).up, h.2.1, h.2.2.eq rfl⟩
  | 58, x, _ => ⟨0, gho S 0, rfl, (h.1.gh 0).up, h.2.1, h.2.2.eq rfl⟩
  | 59, x, _ => ⟨0, gho S 0, rfl, (h.1.gh 0).up, h.2.1, h.2.2.eq rfl⟩
  | 60, x, _ => ⟨0, gho S 0, rfl, (h.1.gh 0).up, h.2.1, h.2.2.eq rfl⟩
  | 61, x, _ => ⟨0, gho S 0, rfl, (h.1.gh 0).up, h.2.1, h.2.2.eq rfl⟩
  | 62, x, _ => ⟨0, gho S 0, rfl, (h.1.gh 0).up, h.2.1, h.2.2.eq rfl⟩
  | 63, x, _ => ⟨0, gho S 0, rfl, (h.1.gh 0).up, h.2.1, h.2.2.eq rfl⟩
  | n + 64, x, hn => absurd hn (by omega)
theorem rel2_0 : rel2 0 0 S0 := ⟨s0_Bs, ⟨rfl, rfl, rfl, rfl, rfl⟩, fun n _ _ q => absurd (show S0.1 71 7 ≤ 0 by decide) q, Or.inl ⟨rfl, rfl, rfl⟩⟩
