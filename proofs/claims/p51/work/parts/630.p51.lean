/-! ===== p51: the relation, each turn ===== -/
def rel2 : Nat → Nat → SS → Prop := fun k g S => Bs k g S ∧ (∀ i, S.1 106 i = S.1 46 i) ∧ (∀ i, S.1 122 i = S.1 48 i) ∧ (∀ i, S.1 123 i = S.1 47 i) ∧ (∀ i, S.1 124 i = S.1 50 i) ∧ (∀ i, S.1 125 i = S.1 49 i)
theorem Bs.up {k g : Nat} {S : SS} (h : Bs k g S) : Bs (k + 1) g S := by
  obtain ⟨h1, h2, h3, h5, h6⟩ := h
  exact ⟨h1, h2, h3, by omega, by omega⟩
set_option maxRecDepth 20000 in
set_option maxHeartbeats 4000000 in
theorem rel2_step {k g : Nat} {S : SS} (h : rel2 k g S) (hk : k < 512) : ∀ (n : Nat) (x : Nat → Int32), n < 64 → ∃ (d : Nat) (S2 : SS), cOk n x (gh S d) S2 ∧ rel2 (k + 1) (g + d) S2
  | 0, x, _ => by
    obtain ⟨d, r1, r2, S1, S2, e1, e2, b, w, f1, f2⟩ := sc_0 (x := x) h.1 hk
    exact ⟨d, S2, ⟨r1, r2, S1, e1, e2⟩, b, (fun i => by rw [f2.1 106 i rfl, f1 106 i rfl, f2.1 46 i rfl, f1 46 i rfl]; exact h.2.1 i), (fun i => by rw [f2.1 122 i rfl, f1 122 i rfl, f2.1 48 i rfl, f1 48 i rfl]; exact h.2.2.1 i), (fun i => by rw [f2.1 123 i rfl, f1 123 i rfl, f2.1 47 i rfl, f1 47 i rfl]; exact h.2.2.2.1 i), (fun i => by rw [f2.1 124 i rfl, f1 124 i rfl, f2.1 50 i rfl, f1 50 i rfl]; exact h.2.2.2.2.1 i), (fun i => by rw [f2.1 125 i rfl, f1 125 i rfl, f2.1 49 i rfl, f1 49 i rfl]; exact h.2.2.2.2.2 i)⟩
  | 1, x, _ => by
    obtain ⟨d, r1, r2, S1, S2, e1, e2, b, w, f1, f2⟩ := sc_1 (x := x) h.1 hk
    exact ⟨d, S2, ⟨r1, r2, S1, e1, e2⟩, b, (fun i => by rw [f2.1 106 i rfl, f1 106 i rfl, f2.1 46 i rfl, f1 46 i rfl]; exact h.2.1 i), (fun i => by rw [f2.1 122 i rfl, f1 122 i rfl, f2.1 48 i rfl, f1 48 i rfl]; exact h.2.2.1 i), (fun i => by rw [f2.1 123 i rfl, f1 123 i rfl, f2.1 47 i rfl, f1 47 i rfl]; exact h.2.2.2.1 i), (fun i => by rw [f2.1 124 i rfl, f1 124 i rfl, f2.1 50 i rfl, f1 50 i rfl]; exact h.2.2.2.2.1 i), (fun i => by rw [f2.1 125 i rfl, f1 125 i rfl, f2.1 49 i rfl, f1 49 i rfl]; exact h.2.2.2.2.2 i)⟩
  | 2, x, _ => by
    obtain ⟨d, r1, r2, S1, S2, e1, e2, b, w, f1, f2⟩ := sc_2 (x := x) h.1 hk
    exact ⟨d, S2, ⟨r1, r2, S1, e1, e2⟩, b, (fun i => by rw [f2.1 106 i rfl, f1 106 i rfl, f2.1 46 i rfl, f1 46 i rfl]; exact h.2.1 i), (fun i => by rw [f2.1 122 i rfl, f1 122 i rfl, f2.1 48 i rfl, f1 48 i rfl]; exact h.2.2.1 i), (fun i => by rw [f2.1 123 i rfl, f1 123 i rfl, f2.1 47 i rfl, f1 47 i rfl]; exact h.2.2.2.1 i), (fun i => by rw [f2.1 124 i rfl, f1 124 i rfl, f2.1 50 i rfl, f1 50 i rfl]; exact h.2.2.2.2.1 i), (fun i => by rw [f2.1 125 i rfl, f1 125 i rfl, f2.1 49 i rfl, f1 49 i rfl]; exact h.2.2.2.2.2 i)⟩
  | 3, x, _ => by
    obtain ⟨d, r1, r2, S1, S2, e1, e2, b, w, f1, f2⟩ := sc_3 (x := x) h.1 hk
    exact ⟨d, S2, ⟨r1, r2, S1, e1, e2⟩, b, (fun i => by rw [f2.1 106 i rfl, f1 106 i rfl, f2.1 46 i rfl, f1 46 i rfl]; exact h.2.1 i), (fun i => by rw [f2.1 122 i rfl, f1 122 i rfl, f2.1 48 i rfl, f1 48 i rfl]; exact h.2.2.1 i), (fun i => by rw [f2.1 123 i rfl, f1 123 i rfl, f2.1 47 i rfl, f1 47 i rfl]; exact h.2.2.2.1 i), (fun i => by rw [f2.1 124 i rfl, f1 124 i rfl, f2.1 50 i rfl, f1 50 i rfl]; exact h.2.2.2.2.1 i), (fun i => by rw [f2.1 125 i rfl, f1 125 i rfl, f2.1 49 i rfl, f1 49 i rfl]; exact h.2.2.2.2.2 i)⟩
  | 4, x, _ => by
    obtain ⟨d, r1, r2, S1, S2, e1, e2, b, w, f1, f2⟩ := sc_4 (x := x) h.1 hk
    exact ⟨d, S2, ⟨r1, r2, S1, e1, e2⟩, b, (fun i => by rw [f2.1 106 i rfl, f1 106 i rfl, f2.1 46 i rfl, f1 46 i rfl]; exact h.2.1 i), (fun i => by rw [f2.1 122 i rfl, f1 122 i rfl, f2.1 48 i rfl, f1 48 i rfl]; exact h.2.2.1 i), (fun i => by rw [f2.1 123 i rfl, f1 123 i rfl, f2.1 47 i rfl, f1 47 i rfl]; exact h.2.2.2.1 i), (fun i => by rw [f2.1 124 i rfl, f1 124 i rfl, f2.1 50 i rfl, f1 50 i rfl]; exact h.2.2.2.2.1 i), (fun i => by rw [f2.1 125 i rfl, f1 125 i rfl, f2.1 49 i rfl, f1 49 i rfl]; exact h.2.2.2.2.2 i)⟩
  | 5, x, _ => by
    obtain ⟨d, r1, r2, S1, S2, e1, e2, b, w, f1, f2⟩ := sc_5 (x := x) h.1 hk
    exact ⟨d, S2, ⟨r1, r2, S1, e1, e2⟩, b, (fun i => by rw [f2.1 106 i rfl, f1 106 i rfl, f2.1 46 i rfl, f1 46 i rfl]; exact h.2.1 i), (fun i => by rw [f2.1 122 i rfl, f1 122 i rfl, f2.1 48 i rfl, f1 48 i rfl]; exact h.2.2.1 i), (fun i => by rw [f2.1 123 i rfl, f1 123 i rfl, f2.1 47 i rfl, f1 47 i rfl]; exact h.2.2.2.1 i), (fun i => by rw [f2.1 124 i rfl, f1 124 i rfl, f2.1 50 i rfl, f1 50 i rfl]; exact h.2.2.2.2.1 i), (fun i => by rw [f2.1 125 i rfl, f1 125 i rfl, f2.1 49 i rfl, f1 49 i rfl]; exact h.2.2.2.2.2 i)⟩
  | 6, x, _ => by
    obtain ⟨d, r1, r2, S1, S2, e1, e2, b, w, f1, f2⟩ := sc_6 (x := x) h.1 hk
    exact ⟨d, S2, ⟨r1, r2, S1, e1, e2⟩, b, (fun i => by rw [f2.1 106 i rfl, f1 106 i rfl, f2.1 46 i rfl, f1 46 i rfl]; exact h.2.1 i), (fun i => by rw [f2.1 122 i rfl, f1 122 i rfl, f2.1 48 i rfl, f1 48 i rfl]; exact h.2.2.1 i), (fun i => by rw [f2.1 123 i rfl, f1 123 i rfl, f2.1 47 i rfl, f1 47 i rfl]; exact h.2.2.2.1 i), (fun i => by rw [f2.1 124 i rfl, f1 124 i rfl, f2.1 50 i rfl, f1 50 i rfl]; exact h.2.2.2.2.1 i), (fun i => by rw [f2.1 125 i rfl, f1 125 i rfl, f2.1 49 i rfl, f1 49 i rfl]; exact h.2.2.2.2.2 i)⟩
  | 7, x, _ => by
    obtain ⟨d, r1, r2, S1, S2, e1, e2, b, w, f1, f2⟩ := sc_7 (x := x) h.1 hk
    exact ⟨d, S2, ⟨r1, r2, S1, e1, e2⟩, b, (fun i => by rw [f2.1 106 i rfl, f1 106 i rfl, f2.1 46 i rfl, f1 46 i rfl]; exact h.2.1 i), (fun i => by rw [f2.1 122 i rfl, f1 122 i rfl, f2.1 48 i rfl, f1 48 i rfl]; exact h.2.2.1 i), (fun i => by rw [f2.1 123 i rfl, f1 123 i rfl, f2.1 47 i rfl, f1 47 i rfl]; exact h.2.2.2.1 i), (fun i => by rw [f2.1 124 i rfl, f1 124 i rfl, f2.1 50 i rfl, f1 50 i rfl]; exact h.2.2.2.2.1 i), (fun i => by rw [f2.1 125 i rfl, f1 125 i rfl, f2.1 49 i rfl, f1 49 i rfl]; exact h.2.2.2.2.2 i)⟩
  | 8, x, _ => by
    obtain ⟨d, r1, r2, S1, S2, e1, e2, b, w, f1, f2⟩ := sc_8 (x := x) h.1 hk
    exact ⟨d, S2, ⟨r1, r2, S1, e1, e2⟩, b, (fun i => by rw [f2.1 106 i rfl, f1 106 i rfl, f2.1 46 i rfl, f1 46 i rfl]; exact h.2.1 i), (fun i => by rw [f2.1 122 i rfl, f1 122 i rfl, f2.1 48 i rfl, f1 48 i rfl]; exact h.2.2.1 i), (fun i => by rw [f2.1 123 i rfl, f1 123 i rfl, f2.1 47 i rfl, f1 47 i rfl]; exact h.2.2.2.1 i), (fun i => by rw [f2.1 124 i rfl, f1 124 i rfl, f2.1 50 i rfl, f1 50 i rfl]; exact h.2.2.2.2.1 i), (fun i => by rw [f2.1 125 i rfl, f1 125 i rfl, f2.1 49 i rfl, f1 49 i rfl]; exact h.2.2.2.2.2 i)⟩
  | 9, x, _ => by
    obtain ⟨d, r1, r2, S1, S2, e1, e2, b, w, f1, f2⟩ := sc_9 (x := x) h.1 hk
    exact ⟨d, S2, ⟨r1, r2, S1, e1, e2⟩, b, (fun i => by rw [f2.1 106 i rfl, f1 106 i rfl, f2.1 46 i rfl, f1 46 i rfl]; exact h.2.1 i), (fun i => by rw [f2.1 122 i rfl, f1 122 i rfl, f2.1 48 i rfl, f1 48 i rfl]; exact h.2.2.1 i), (fun i => by rw [f2.1 123 i rfl, f1 123 i rfl, f2.1 47 i rfl, f1 47 i rfl]; exact h.2.2.2.1 i), (fun i => by rw [f2.1 124 i rfl, f1 124 i rfl, f2.1 50 i rfl, f1 50 i rfl]; exact h.2.2.2.2.1 i), (fun i => by rw [f2.1 125 i rfl, f1 125 i rfl, f2.1 49 i rfl, f1 49 i rfl]; exact h.2.2.2.2.2 i)⟩
  | 10, x, _ => by
    obtain ⟨d, r1, r2, S1, S2, e1, e2, b, w, f1, f2⟩ := sc_10 (x := x) h.1 hk
    exact ⟨d, S2, ⟨r1, r2, S1, e1, e2⟩, b, (fun i => by rw [f2.1 106 i rfl, f1 106 i rfl, f2.1 46 i rfl, f1 46 i rfl]; exact h.2.1 i), (fun i => by rw [f2.1 122 i rfl, f1 122 i rfl, f2.1 48 i rfl, f1 48 i rfl]; exact h.2.2.1 i), (fun i => by rw [f2.1 123 i rfl, f1 123 i rfl, f2.1 47 i rfl, f1 47 i rfl]; exact h.2.2.2.1 i), (fun i => by rw [f2.1 124 i rfl, f1 124 i rfl, f2.1 50 i rfl, f1 50 i rfl]; exact h.2.2.2.2.1 i), (fun i => by rw [f2.1 125 i rfl, f1 125 i rfl, f2.1 49 i rfl, f1 49 i rfl]; exact h.2.2.2.2.2 i)⟩
  | 11, x, _ => by
    obtain ⟨d, r1, r2, S1, S2, e1, e2, b, w, f1, f2⟩ := sc_11 (x := x) h.1 hk
    exact ⟨d, S2, ⟨r1, r2, S1, e1, e2⟩, b, (fun i => by rw [f2.1 106 i rfl, f1 106 i rfl, f2.1 46 i rfl, f1 46 i rfl]; exact h.2.1 i), (fun i => by rw [f2.1 122 i rfl, f1 122 i rfl, f2.1 48 i rfl, f1 48 i rfl]; exact h.2.2.1 i), (fun i => by rw [f2.1 123 i rfl, f1 123 i rfl, f2.1 47 i rfl, f1 47 i rfl]; exact h.2.2.2.1 i), (fun i => by rw [f2.1 124 i rfl, f1 124 i rfl, f2.1 50 i rfl, f1 50 i rfl]; exact h.2.2.2.2.1 i), (fun i => by rw [f2.1 125 i rfl, f1 125 i rfl, f2.1 49 i rfl, f1 49 i rfl]; exact h.2.2.2.2.2 i)⟩
  | 12, x, _ => by
    obtain ⟨d, r1, r2, S1, S2, e1, e2, b, w, f1, f2⟩ := sc_12 (x := x) h.1 hk
    exact ⟨d, S2, ⟨r1, r2, S1, e1, e2⟩, b, (fun i => by rw [f2.1 106 i rfl, f1 106 i rfl, f2.1 46 i rfl, f1 46 i rfl]; exact h.2.1 i), (fun i => by rw [f2.1 122 i rfl, f1 122 i rfl, f2.1 48 i rfl, f1 48 i rfl]; exact h.2.2.1 i), (fun i => by rw [f2.1 123 i rfl, f1 123 i rfl, f2.1 47 i rfl, f1 47 i rfl]; exact h.2.2.2.1 i), (fun i => by rw [f2.1 124 i rfl, f1 124 i rfl, f2.1 50 i rfl, f1 50 i rfl]; exact h.2.2.2.2.1 i), (fun i => by rw [f2.1 125 i rfl, f1 125 i rfl, f2.1 49 i rfl, f1 49 i rfl]; exact h.2.2.2.2.2 i)⟩
  | 13, x, _ => by
    obtain ⟨d, r1, r2, S1, S2, e1, e2, b, w, f1, f2⟩ := sc_13 (x := x) h.1 hk
    exact ⟨d, S2, ⟨r1, r2, S1, e1, e2⟩, b, (fun i => by rw [f2.1 106 i rfl, f1 106 i rfl, f2.1 46 i rfl, f1 46 i rfl]; exact h.2.1 i), (fun i => by rw [f2.1 122 i rfl, f1 122 i rfl, f2.1 48 i rfl, f1 48 i rfl]; exact h.2.2.1 i), (fun i => by rw [f2.1 123 i rfl, f1 123 i rfl, f2.1 47 i rfl, f1 47 i rfl]; exact h.2.2.2.1 i), (fun i => by rw [f2.1 124 i rfl, f1 124 i rfl, f2.1 50 i rfl, f1 50 i rfl]; exact h.2.2.2.2.1 i), (fun i => by rw [f2.1 125 i rfl, f1 125 i rfl, f2.1 49 i rfl, f1 49 i rfl]; exact h.2.2.2.2.2 i)⟩
  | 14, x, _ => by
    obtain ⟨d, r1, r2, S1, S2, e1, e2, b, w, f1, f2⟩ := sc_14 (x := x) h.1 hk
    exact ⟨d, S2, ⟨r1, r2, S1, e1, e2⟩, b, (fun i => by rw [f2.1 106 i rfl, f1 106 i rfl, f2.1 46 i rfl, f1 46 i rfl]; exact h.2.1 i), (fun i => by rw [f2.1 122 i rfl, f1 122 i rfl, f2.1 48 i rfl, f1 48 i rfl]; exact h.2.2.1 i), (fun i => by rw [f2.1 123 i rfl, f1 123 i rfl, f2.1 47 i rfl, f1 47 i rfl]; exact h.2.2.2.1 i), (fun i => by rw [f2.1 124 i rfl, f1 124 i rfl, f2.1 50 i rfl, f1 50 i rfl]; exact h.2.2.2.2.1 i), (fun i => by rw [f2.1 125 i rfl, f1 125 i rfl, f2.1 49 i rfl, f1 49 i rfl]; exact h.2.2.2.2.2 i)⟩
  | 15, x, _ => by
    obtain ⟨d, r1, r2, S1, S2, e1, e2, b, w, f1, f2⟩ := sc_15 (x := x) h.1 hk
    exact ⟨d, S2, ⟨r1, r2, S1, e1, e2⟩, b, (fun i => by rw [f2.1 106 i rfl, f1 106 i rfl, f2.1 46 i rfl, f1 46 i rfl]; exact h.2.1 i), (fun i => by rw [f2.1 122 i rfl, f1 122 i rfl, f2.1 48 i rfl, f1 48 i rfl]; exact h.2.2.1 i), (fun i => by rw [f2.1 123 i rfl, f1 123 i rfl, f2.1 47 i rfl, f1 47 i rfl]; exact h.2.2.2.1 i), (fun i => by rw [f2.1 124 i rfl, f1 124 i rfl, f2.1 50 i rfl, f1 50 i rfl]; exact h.2.2.2.2.1 i), (fun i => by rw [f2.1 125 i rfl, f1 125 i rfl, f2.1 49 i rfl, f1 49 i rfl]; exact h.2.2.2.2.2 i)⟩
  | 16, x, _ => by
    obtain ⟨d, r1, r2, S1, S2, e1, e2, b, w, f1, f2⟩ := sc_16 (x := x) h.1 hk
    exact ⟨d, S2, ⟨r1, r2, S1, e1, e2⟩, b, (fun i => by rw [f2.1 106 i rfl, f1 106 i rfl, f2.1 46 i rfl, f1 46 i rfl]; exact h.2.1 i), (fun i => by rw [f2.1 122 i rfl, f1 122 i rfl, f2.1 48 i rfl, f1 48 i rfl]; exact h.2.2.1 i), (fun i => by rw [f2.1 123 i rfl, f1 123 i rfl, f2.1 47 i rfl, f1 47 i rfl]; exact h.2.2.2.1 i), (fun i => by rw [f2.1 124 i rfl, f1 124 i rfl, f2.1 50 i rfl, f1 50 i rfl]; exact h.2.2.2.2.1 i), (fun i => by rw [f2.1 125 i rfl, f1 125 i rfl, f2.1 49 i rfl, f1 49 i rfl]; exact h.2.2.2.2.2 i)⟩
  | 17, x, _ => by
    obtain ⟨d, r1, r2, S1, S2, e1, e2, b, w, f1, f2⟩ := sc_17 (x := x) h.1 hk
    exact ⟨d, S2, ⟨r1, r2, S1, e1, e2⟩, b, (fun i => by rw [f2.1 106 i rfl, f1 106 i rfl, f2.1 46 i rfl, f1 46 i rfl]; exact h.2.1 i), (fun i => by rw [f2.1 122 i rfl, f1 122 i rfl, f2.1 48 i rfl, f1 48 i rfl]; exact h.2.2.1 i), (fun i => by rw [f2.1 123 i rfl, f1 123 i rfl, f2.1 47 i rfl, f1 47 i rfl]; exact h.2.2.2.1 i), (fun i => by rw [f2.1 124 i rfl, f1 124 i rfl, f2.1 50 i rfl, f1 50 i rfl]; exact h.2.2.2.2.1 i), (fun i => by rw [f2.1 125 i rfl, f1 125 i rfl, f2.1 49 i rfl, f1 49 i rfl]; exact h.2.2.2.2.2 i)⟩
  | 18, x, _ => by
    obtain ⟨d, r1, r2, S1, S2, e1, e2, b, w, f1, f2⟩ := sc_18 (x := x) h.1 hk
    exact ⟨d, S2, ⟨r1, r2, S1, e1, e2⟩, b, (fun i => by rw [f2.1 106 i rfl, f1 106 i rfl, f2.1 46 i rfl, f1 46 i rfl]; exact h.2.1 i), (fun i => by rw [f2.1 122 i rfl, f1 122 i rfl, f2.1 48 i rfl, f1 48 i rfl]; exact h.2.2.1 i), (fun i => by rw [f2.1 123 i rfl, f1 123 i rfl, f2.1 47 i rfl, f1 47 i rfl]; exact h.2.2.2.1 i), (fun i => by rw [f2.1 124 i rfl, f1 124 i rfl, f2.1 50 i rfl, f1 50 i rfl]; exact h.2.2.2.2.1 i), (fun i => by rw [f2.1 125 i rfl, f1 125 i rfl, f2.1 49 i rfl, f1 49 i rfl]; exact h.2.2.2.2.2 i)⟩
  | 19, x, _ => by
    obtain ⟨d, r1, r2, S1, S2, e1, e2, b, w, f1, f2⟩ := sc_19 (x := x) h.1 hk
    exact ⟨d, S2, ⟨r1, r2, S1, e1, e2⟩, b, (fun i => by rw [f2.1 106 i rfl, f1 106 i rfl, f2.1 46 i rfl, f1 46 i rfl]; exact h.2.1 i), (fun i => by rw [f2.1 122 i rfl, f1 122 i rfl, f2.1 48 i rfl, f1 48 i rfl]; exact h.2.2.1 i), (fun i => by rw [f2.1 123 i rfl, f1 123 i rfl, f2.1 47 i rfl, f1 47 i rfl]; exact h.2.2.2.1 i), (fun i => by rw [f2.1 124 i rfl, f1 124 i rfl, f2.1 50 i rfl, f1 50 i rfl]; exact h.2.2.2.2.1 i), (fun i => by rw [f2.1 125 i rfl, f1 125 i rfl, f2.1 49 i rfl, f1 49 i rfl]; exact h.2.2.2.2.2 i)⟩
  | 20, x, _ => by
    obtain ⟨d, r1, r2, S1, S2, e1, e2, b, w, f1, f2⟩ := sc_20 (x := x) h.1 hk
    exact ⟨d, S2, ⟨r1, r2, S1, e1, e2⟩, b, (fun i => by rw [f2.1 106 i rfl, f1 106 i rfl, f2.1 46 i rfl, f1 46 i rfl]; exact h.2.1 i), (fun i => by rw [f2.1 122 i rfl, f1 122 i rfl, f2.1 48 i rfl, f1 48 i rfl]; exact h.2.2.1 i), (fun i => by rw [f2.1 123 i rfl, f1 123 i rfl, f2.1 47 i rfl, f1 47 i rfl]; exact h.2.2.2.1 i), (fun i => by rw [f2.1 124 i rfl, f1 124 i rfl, f2.1 50 i rfl, f1 50 i rfl]; exact h.2.2.2.2.1 i), (fun i => by rw [f2.1 125 i rfl, f1 125 i rfl, f2.1 49 i rfl, f1 49 i rfl]; exact h.2.2.2.2.2 i)⟩
  | 21, x, _ => by
    obtain ⟨d, r1, r2, S1, S2, e1, e2, b, w, f1, f2⟩ := sc_21 (x := x) h.1 hk
    exact ⟨d, S2, ⟨r1, r2, S1, e1, e2⟩, b, (fun i => by rw [f2.1 106 i rfl, f1 106 i rfl, f2.1 46 i rfl, f1 46 i rfl]; exact h.2.1 i), (fun i => by rw [f2.1 122 i rfl, f1 122 i rfl, f2.1 48 i rfl, f1 48 i rfl]; exact h.2.2.1 i), (fun i => by rw [f2.1 123 i rfl, f1 123 i rfl, f2.1 47 i rfl, f1 47 i rfl]; exact h.2.2.2.1 i), (fun i => by rw [f2.1 124 i rfl, f1 124 i rfl, f2.1 50 i rfl, f1 50 i rfl]; exact h.2.2.2.2.1 i), (fun i => by rw [f2.1 125 i rfl, f1 125 i rfl, f2.1 49 i rfl, f1 49 i rfl]; exact h.2.2.2.2.2 i)⟩
  | 22, x, _ => by
    obtain ⟨d, r1, r2, S1, S2, e1, e2, b, w, f1, f2⟩ := sc_22 (x := x) h.1 hk
    exact ⟨d, S2, ⟨r1, r2, S1, e1, e2⟩, b, (fun i => by rw [f2.1 106 i rfl, f1 106 i rfl, f2.1 46 i rfl, f1 46 i rfl]; exact h.2.1 i), (fun i => by rw [f2.1 122 i rfl, f1 122 i rfl, f2.1 48 i rfl, f1 48 i rfl]; exact h.2.2.1 i), (fun i => by rw [f2.1 123 i rfl, f1 123 i rfl, f2.1 47 i rfl, f1 47 i rfl]; exact h.2.2.2.1 i), (fun i => by rw [f2.1 124 i rfl, f1 124 i rfl, f2.1 50 i rfl, f1 50 i rfl]; exact h.2.2.2.2.1 i), (fun i => by rw [f2.1 125 i rfl, f1 125 i rfl, f2.1 49 i rfl, f1 49 i rfl]; exact h.2.2.2.2.2 i)⟩
  | 23, x, _ => by
    obtain ⟨d, r1, r2, S1, S2, e1, e2, b, w, f1, f2⟩ := sc_23 (x := x) h.1 hk
    exact ⟨d, S2, ⟨r1, r2, S1, e1, e2⟩, b, (fun i => by rw [f2.1 106 i rfl, f1 106 i rfl, f2.1 46 i rfl, f1 46 i rfl]; exact h.2.1 i), (fun i => by rw [f2.1 122 i rfl, f1 122 i rfl, f2.1 48 i rfl, f1 48 i rfl]; exact h.2.2.1 i), (fun i => by rw [f2.1 123 i rfl, f1 123 i rfl, f2.1 47 i rfl, f1 47 i rfl]; exact h.2.2.2.1 i), (fun i => by rw [f2.1 124 i rfl, f1 124 i rfl, f2.1 50 i rfl, f1 50 i rfl]; exact h.2.2.2.2.1 i), (fun i => by rw [f2.1 125 i rfl, f1 125 i rfl, f2.1 49 i rfl, f1 49 i rfl]; exact h.2.2.2.2.2 i)⟩
  | 24, x, _ => by
    obtain ⟨d, r1, r2, S1, S2, e1, e2, b, w, f1, f2⟩ := sc_24 (x := x) h.1 hk
    exact ⟨d, S2, ⟨r1, r2, S1, e1, e2⟩, b, (fun i => by rw [f2.1 106 i rfl, f1 106 i rfl, f2.1 46 i rfl, f1 46 i rfl]; exact h.2.1 i), (fun i => by rw [f2.1 122 i rfl, f1 122 i rfl, f2.1 48 i rfl, f1 48 i rfl]; exact h.2.2.1 i), (fun i => by rw [f2.1 123 i rfl, f1 123 i rfl, f2.1 47 i rfl, f1 47 i rfl]; exact h.2.2.2.1 i), (fun i => by rw [f2.1 124 i rfl, f1 124 i rfl, f2.1 50 i rfl, f1 50 i rfl]; exact h.2.2.2.2.1 i), (fun i => by rw [f2.1 125 i rfl, f1 125 i rfl, f2.1 49 i rfl, f1 49 i rfl]; exact h.2.2.2.2.2 i)⟩
  | 25, x, _ => by
    obtain ⟨d, r1, r2, S1, S2, e1, e2, b, w, f1, f2⟩ := sc_25 (x := x) h.1 hk
    exact ⟨d, S2, ⟨r1, r2, S1, e1, e2⟩, b, (fun i => by rw [f2.1 106 i rfl, f1 106 i rfl, f2.1 46 i rfl, f1 46 i rfl]; exact h.2.1 i), (fun i => by rw [f2.1 122 i rfl, f1 122 i rfl, f2.1 48 i rfl, f1 48 i rfl]; exact h.2.2.1 i), (fun i => by rw [f2.1 123 i rfl, f1 123 i rfl, f2.1 47 i rfl, f1 47 i rfl]; exact h.2.2.2.1 i), (fun i => by rw [f2.1 124 i rfl, f1 124 i rfl, f2.1 50 i rfl, f1 50 i rfl]; exact h.2.2.2.2.1 i), (fun i => by rw [f2.1 125 i rfl, f1 125 i rfl, f2.1 49 i rfl, f1 49 i rfl]; exact h.2.2.2.2.2 i)⟩
  | 26, x, _ => by
    obtain ⟨d, r1, r2, S1, S2, e1, e2, b, w, f1, f2⟩ := sc_26 (x := x) h.1 hk
    exact ⟨d, S2, ⟨r1, r2, S1, e1, e2⟩, b, (fun i => by rw [f2.1 106 i rfl, f1 106 i rfl, f2.1 46 i rfl, f1 46 i rfl]; exact h.2.1 i), (fun i => by rw [f2.1 122 i rfl, f1 122 i rfl, f2.1 48 i rfl, f1 48 i rfl]; exact h.2.2.1 i), (fun i => by rw [f2.1 123 i rfl, f1 123 i rfl, f2.1 47 i rfl, f1 47 i rfl]; exact h.2.2.2.1 i), (fun i => by rw [f2.1 124 i rfl, f1 124 i rfl, f2.1 50 i rfl, f1 50 i rfl]; exact h.2.2.2.2.1 i), (fun i => by rw [f2.1 125 i rfl, f1 125 i rfl, f2.1 49 i rfl, f1 49 i rfl]; exact h.2.2.2.2.2 i)⟩
  | 27, x, _ => by
    obtain ⟨d, r1, r2, S1, S2, e1, e2, b, w, f1, f2⟩ := sc_27 (x := x) h.1 hk
    exact ⟨d, S2, ⟨r1, r2, S1, e1, e2⟩, b, (fun i => by rw [f2.1 106 i rfl, f1 106 i rfl, f2.1 46 i rfl, f1 46 i rfl]; exact h.2.1 i), (fun i => by rw [f2.1 122 i rfl, f1 122 i rfl, f2.1 48 i rfl, f1 48 i rfl]; exact h.2.2.1 i), (fun i => by rw [f2.1 123 i rfl, f1 123 i rfl, f2.1 47 i rfl, f1 47 i rfl]; exact h.2.2.2.1 i), (fun i => by rw [f2.1 124 i rfl, f1 124 i rfl, f2.1 50 i rfl, f1 50 i rfl]; exact h.2.2.2.2.1 i), (fun i => by rw [f2.1 125 i rfl, f1 125 i rfl, f2.1 49 i rfl, f1 49 i rfl]; exact h.2.2.2.2.2 i)⟩
  | 28, x, _ => by
    obtain ⟨d, r1, r2, S1, S2, e1, e2, b, w, f1, f2⟩ := sc_28 (x := x) h.1 hk
    exact ⟨d, S2, ⟨r1, r2, S1, e1, e2⟩, b, (fun i => by rw [f2.1 106 i rfl, f1 106 i rfl, f2.1 46 i rfl, f1 46 i rfl]; exact h.2.1 i), (fun i => by rw [f2.1 122 i rfl, f1 122 i rfl, f2.1 48 i rfl, f1 48 i rfl]; exact h.2.2.1 i), (fun i => by rw [f2.1 123 i rfl, f1 123 i rfl, f2.1 47 i rfl, f1 47 i rfl]; exact h.2.2.2.1 i), (fun i => by rw [f2.1 124 i rfl, f1 124 i rfl, f2.1 50 i rfl, f1 50 i rfl]; exact h.2.2.2.2.1 i), (fun i => by rw [f2.1 125 i rfl, f1 125 i rfl, f2.1 49 i rfl, f1 49 i rfl]; exact h.2.2.2.2.2 i)⟩
  | 29, x, _ => by
    obtain ⟨d, r1, r2, S1, S2, e1, e2, b, w, f1, f2⟩ := sc_29 (x := x) h.1 hk
    exact ⟨d, S2, ⟨r1, r2, S1, e1, e2⟩, b, (fun i => by rw [f2.1 106 i rfl, f1 106 i rfl, f2.1 46 i rfl, f1 46 i rfl]; exact h.2.1 i), (fun i => by rw [f2.1 122 i rfl, f1 122 i rfl, f2.1 48 i rfl, f1 48 i rfl]; exact h.2.2.1 i), (fun i => by rw [f2.1 123 i rfl, f1 123 i rfl, f2.1 47 i rfl, f1 47 i rfl]; exact h.2.2.2.1 i), (fun i => by rw [f2.1 124 i rfl, f1 124 i rfl, f2.1 50 i rfl, f1 50 i rfl]; exact h.2.2.2.2.1 i), (fun i => by rw [f2.1 125 i rfl, f1 125 i rfl, f2.1 49 i rfl, f1 49 i rfl]; exact h.2.2.2.2.2 i)⟩
  | 30, x, _ => by
    obtain ⟨d, r1, r2, S1, S2, e1, e2, b, w, f1, f2⟩ := sc_30 (x := x) h.1 hk
    exact ⟨d, S2, ⟨r1, r2, S1, e1, e2⟩, b, (fun i => by rw [f2.1 106 i rfl, f1 106 i rfl, f2.1 46 i rfl, f1 46 i rfl]; exact h.2.1 i), (fun i => by rw [f2.1 122 i rfl, f1 122 i rfl, f2.1 48 i rfl, f1 48 i rfl]; exact h.2.2.1 i), (fun i => by rw [f2.1 123 i rfl, f1 123 i rfl, f2.1 47 i rfl, f1 47 i rfl]; exact h.2.2.2.1 i), (fun i => by rw [f2.1 124 i rfl, f1 124 i rfl, f2.1 50 i rfl, f1 50 i rfl]; exact h.2.2.2.2.1 i), (fun i => by rw [f2.1 125 i rfl, f1 125 i rfl, f2.1 49 i rfl, f1 49 i rfl]; exact h.2.2.2.2.2 i)⟩
  | 31, x, _ => by
    obtain ⟨d, r1, r2, S1, S2, e1, e2, b, w, f1, f2⟩ := sc_31 (x := x) h.1 hk
    exact ⟨d, S2, ⟨r1, r2, S1, e1, e2⟩, b, (fun i => by rw [f2.1 106 i rfl, f1 106 i rfl, f2.1 46 i rfl, f1 46 i rfl]; exact h.2.1 i), (fun i => by rw [f2.1 122 i rfl, f1 122 i rfl, f2.1 48 i rfl, f1 48 i rfl]; exact h.2.2.1 i), (fun i => by rw [f2.1 123 i rfl, f1 123 i rfl, f2.1 47 i rfl, f1 47 i rfl]; exact h.2.2.2.1 i), (fun i => by rw [f2.1 124 i rfl, f1 124 i rfl, f2.1 50 i rfl, f1 50 i rfl]; exact h.2.2.2.2.1 i), (fun i => by rw [f2.1 125 i rfl, f1 125 i rfl, f2.1 49 i rfl, f1 49 i rfl]; exact h.2.2.2.2.2 i)⟩
  | 32, x, _ => by
    obtain ⟨d, r1, r2, S1, S2, e1, e2, b, w, f1, f2⟩ := sc_32 (x := x) h.1 hk
    exact ⟨d, S2, ⟨r1, r2, S1, e1, e2⟩, b, (fun i => by rw [f2.1 106 i rfl, f1 106 i rfl, f2.1 46 i rfl, f1 46 i rfl]; exact h.2.1 i), (fun i => by rw [f2.1 122 i rfl, f1 122 i rfl, f2.1 48 i rfl, f1 48 i rfl]; exact h.2.2.1 i), (fun i => by rw [f2.1 123 i rfl, f1 123 i rfl, f2.1 47 i rfl, f1 47 i rfl]; exact h.2.2.2.1 i), (fun i => by rw [f2.1 124 i rfl, f1 124 i rfl, f2.1 50 i rfl, f1 50 i rfl]; exact h.2.2.2.2.1 i), (fun i => by rw [f2.1 125 i rfl, f1 125 i rfl, f2.1 49 i rfl, f1 49 i rfl]; exact h.2.2.2.2.2 i)⟩
  | 33, x, _ => by
    obtain ⟨d, r1, r2, S1, S2, e1, e2, b, w, f1, f2⟩ := sc_33 (x := x) h.1 hk
    exact ⟨d, S2, ⟨r1, r2, S1, e1, e2⟩, b, (fun i => by rw [f2.1 106 i rfl, f1 106 i rfl, f2.1 46 i rfl, f1 46 i rfl]; exact h.2.1 i), (fun i => by rw [f2.1 122 i rfl, f1 122 i rfl, f2.1 48 i rfl, f1 48 i rfl]; exact h.2.2.1 i), (fun i => by rw [f2.1 123 i rfl, f1 123 i rfl, f2.1 47 i rfl, f1 47 i rfl]; exact h.2.2.2.1 i), (fun i => by rw [f2.1 124 i rfl, f1 124 i rfl, f2.1 50 i rfl, f1 50 i rfl]; exact h.2.2.2.2.1 i), (fun i => by rw [f2.1 125 i rfl, f1 125 i rfl, f2.1 49 i rfl, f1 49 i rfl]; exact h.2.2.2.2.2 i)⟩
  | 34, x, _ => by
    obtain ⟨d, r1, r2, S1, S2, e1, e2, b, w, f1, f2⟩ := sc_34 (x := x) h.1 hk
    exact ⟨d, S2, ⟨r1, r2, S1, e1, e2⟩, b, (fun i => by rw [f2.1 106 i rfl, f1 106 i rfl, f2.1 46 i rfl, f1 46 i rfl]; exact h.2.1 i), (fun i => by rw [f2.1 122 i rfl, f1 122 i rfl, f2.1 48 i rfl, f1 48 i rfl]; exact h.2.2.1 i), (fun i => by rw [f2.1 123 i rfl, f1 123 i rfl, f2.1 47 i rfl, f1 47 i rfl]; exact h.2.2.2.1 i), (fun i => by rw [f2.1 124 i rfl, f1 124 i rfl, f2.1 50 i rfl, f1 50 i rfl]; exact h.2.2.2.2.1 i), (fun i => by rw [f2.1 125 i rfl, f1 125 i rfl, f2.1 49 i rfl, f1 49 i rfl]; exact h.2.2.2.2.2 i)⟩
  | 35, x, _ => by
    obtain ⟨d, r1, r2, S1, S2, e1, e2, b, w, f1, f2⟩ := sc_35 (x := x) h.1 hk
    exact ⟨d, S2, ⟨r1, r2, S1, e1, e2⟩, b, (fun i => by rw [f2.1 106 i rfl, f1 106 i rfl, f2.1 46 i rfl, f1 46 i rfl]; exact h.2.1 i), (fun i => by rw [f2.1 122 i rfl, f1 122 i rfl, f2.1 48 i rfl, f1 48 i rfl]; exact h.2.2.1 i), (fun i => by rw [f2.1 123 i rfl, f1 123 i rfl, f2.1 47 i rfl, f1 47 i rfl]; exact h.2.2.2.1 i), (fun i => by rw [f2.1 124 i rfl, f1 124 i rfl, f2.1 50 i rfl, f1 50 i rfl]; exact h.2.2.2.2.1 i), (fun i => by rw [f2.1 125 i rfl, f1 125 i rfl, f2.1 49 i rfl, f1 49 i rfl]; exact h.2.2.2.2.2 i)⟩
  | 36, x, _ => by
    obtain ⟨d, r1, r2, S1, S2, e1, e2, b, w, f1, f2⟩ := sc_36 (x := x) h.1 hk
    exact ⟨d, S2, ⟨r1, r2, S1, e1, e2⟩, b, (fun i => by rw [f2.1 106 i rfl, f1 106 i rfl, f2.1 46 i rfl, f1 46 i rfl]; exact h.2.1 i), (fun i => by rw [f2.1 122 i rfl, f1 122 i rfl, f2.1 48 i rfl, f1 48 i rfl]; exact h.2.2.1 i), (fun i => by rw [f2.1 123 i rfl, f1 123 i rfl, f2.1 47 i rfl, f1 47 i rfl]; exact h.2.2.2.1 i), (fun i => by rw [f2.1 124 i rfl, f1 124 i rfl, f2.1 50 i rfl, f1 50 i rfl]; exact h.2.2.2.2.1 i), (fun i => by rw [f2.1 125 i rfl, f1 125 i rfl, f2.1 49 i rfl, f1 49 i rfl]; exact h.2.2.2.2.2 i)⟩
  | 37, x, _ => by
    obtain ⟨d, r1, r2, S1, S2, e1, e2, b, w, f1, f2⟩ := sc_37 (x := x) h.1 hk
    exact ⟨d, S2, ⟨r1, r2, S1, e1, e2⟩, b, (fun i => by rw [f2.1 106 i rfl, f1 106 i rfl, f2.1 46 i rfl, f1 46 i rfl]; exact h.2.1 i), (fun i => by rw [f2.1 122 i rfl, f1 122 i rfl, f2.1 48 i rfl, f1 48 i rfl]; exact h.2.2.1 i), (fun i => by rw [f2.1 123 i rfl, f1 123 i rfl, f2.1 47 i rfl, f1 47 i rfl]; exact h.2.2.2.1 i), (fun i => by rw [f2.1 124 i rfl, f1 124 i rfl, f2.1 50 i rfl, f1 50 i rfl]; exact h.2.2.2.2.1 i), (fun i => by rw [f2.1 125 i rfl, f1 125 i rfl, f2.1 49 i rfl, f1 49 i rfl]; exact h.2.2.2.2.2 i)⟩
  | 38, x, _ => by
    obtain ⟨d, r1, r2, S1, S2, e1, e2, b, w, f1, f2⟩ := sc_38 (x := x) h.1 hk
    exact ⟨d, S2, ⟨r1, r2, S1, e1, e2⟩, b, (fun i => by rw [f2.1 106 i rfl, f1 106 i rfl, f2.1 46 i rfl, f1 46 i rfl]; exact h.2.1 i), (fun i => by rw [f2.1 122 i rfl, f1 122 i rfl, f2.1 48 i rfl, f1 48 i rfl]; exact h.2.2.1 i), (fun i => by rw [f2.1 123 i rfl, f1 123 i rfl, f2.1 47 i rfl, f1 47 i rfl]; exact h.2.2.2.1 i), (fun i => by rw [f2.1 124 i rfl, f1 124 i rfl, f2.1 50 i rfl, f1 50 i rfl]; exact h.2.2.2.2.1 i), (fun i => by rw [f2.1 125 i rfl, f1 125 i rfl, f2.1 49 i rfl, f1 49 i rfl]; exact h.2.2.2.2.2 i)⟩
  | 39, x, _ => by
    obtain ⟨d, r1, r2, S1, S2, e1, e2, b, w, f1, f2⟩ := sc_39 (x := x) h.1 hk
    exact ⟨d, S2, ⟨r1, r2, S1, e1, e2⟩, b, (fun i => by rw [f2.1 106 i rfl, f1 106 i rfl, f2.1 46 i rfl, f1 46 i rfl]; exact h.2.1 i), (fun i => by rw [f2.1 122 i rfl, f1 122 i rfl, f2.1 48 i rfl, f1 48 i rfl]; exact h.2.2.1 i), (fun i => by rw [f2.1 123 i rfl, f1 123 i rfl, f2.1 47 i rfl, f1 47 i rfl]; exact h.2.2.2.1 i), (fun i => by rw [f2.1 124 i rfl, f1 124 i rfl, f2.1 50 i rfl, f1 50 i rfl]; exact h.2.2.2.2.1 i), (fun i => by rw [f2.1 125 i rfl, f1 125 i rfl, f2.1 49 i rfl, f1 49 i rfl]; exact h.2.2.2.2.2 i)⟩
  | 40, x, _ => by
    obtain ⟨d, r1, r2, S1, S2, e1, e2, b, w, f1, f2⟩ := sc_40 (x := x) h.1 hk
    exact ⟨d, S2, ⟨r1, r2, S1, e1, e2⟩, b, (fun i => by rw [f2.1 106 i rfl, f1 106 i rfl, f2.1 46 i rfl, f1 46 i rfl]; exact h.2.1 i), (fun i => by rw [f2.1 122 i rfl, f1 122 i rfl, f2.1 48 i rfl, f1 48 i rfl]; exact h.2.2.1 i), (fun i => by rw [f2.1 123 i rfl, f1 123 i rfl, f2.1 47 i rfl, f1 47 i rfl]; exact h.2.2.2.1 i), (fun i => by rw [f2.1 124 i rfl, f1 124 i rfl, f2.1 50 i rfl, f1 50 i rfl]; exact h.2.2.2.2.1 i), (fun i => by rw [f2.1 125 i rfl, f1 125 i rfl, f2.1 49 i rfl, f1 49 i rfl]; exact h.2.2.2.2.2 i)⟩
  | 41, x, _ => by
    obtain ⟨d, r1, r2, S1, S2, e1, e2, b, w, f1, f2⟩ := sc_41 (x := x) h.1 hk
    exact ⟨d, S2, ⟨r1, r2, S1, e1, e2⟩, b, (fun i => by rw [f2.1 106 i rfl, f1 106 i rfl, f2.1 46 i rfl, f1 46 i rfl]; exact h.2.1 i), (fun i => by rw [f2.1 122 i rfl, f1 122 i rfl, f2.1 48 i rfl, f1 48 i rfl]; exact h.2.2.1 i), (fun i => by rw [f2.1 123 i rfl, f1 123 i rfl, f2.1 47 i rfl, f1 47 i rfl]; exact h.2.2.2.1 i), (fun i => by rw [f2.1 124 i rfl, f1 124 i rfl, f2.1 50 i rfl, f1 50 i rfl]; exact h.2.2.2.2.1 i), (fun i => by rw [f2.1 125 i rfl, f1 125 i rfl, f2.1 49 i rfl, f1 49 i rfl]; exact h.2.2.2.2.2 i)⟩
  | 42, x, _ => by
    obtain ⟨d, r1, r2, S1, S2, e1, e2, b, w, f1, f2⟩ := sc_42 (x := x) h.1 hk
    exact ⟨d, S2, ⟨r1, r2, S1, e1, e2⟩, b, (fun i => by rw [f2.1 106 i rfl, f1 106 i rfl, f2.1 46 i rfl, f1 46 i rfl]; exact h.2.1 i), (fun i => by rw [f2.1 122 i rfl, f1 122 i rfl, f2.1 48 i rfl, f1 48 i rfl]; exact h.2.2.1 i), (fun i => by rw [f2.1 123 i rfl, f1 123 i rfl, f2.1 47 i rfl, f1 47 i rfl]; exact h.2.2.2.1 i), (fun i => by rw [f2.1 124 i rfl, f1 124 i rfl, f2.1 50 i rfl, f1 50 i rfl]; exact h.2.2.2.2.1 i), (fun i => by rw [f2.1 125 i rfl, f1 125 i rfl, f2.1 49 i rfl, f1 49 i rfl]; exact h.2.2.2.2.2 i)⟩
  | 43, x, _ => by
    obtain ⟨d, r1, r2, S1, S2, e1, e2, b, w, f1, f2⟩ := sc_43 (x := x) h.1 hk
    exact ⟨d, S2, ⟨r1, r2, S1, e1, e2⟩, b, (fun i => by rw [f2.1 106 i rfl, f1 106 i rfl, f2.1 46 i rfl, f1 46 i rfl]; exact h.2.1 i), (fun i => by rw [f2.1 122 i rfl, f1 122 i rfl, f2.1 48 i rfl, f1 48 i rfl]; exact h.2.2.1 i), (fun i => by rw [f2.1 123 i rfl, f1 123 i rfl, f2.1 47 i rfl, f1 47 i rfl]; exact h.2.2.2.1 i), (fun i => by rw [f2.1 124 i rfl, f1 124 i rfl, f2.1 50 i rfl, f1 50 i rfl]; exact h.2.2.2.2.1 i), (fun i => by rw [f2.1 125 i rfl, f1 125 i rfl, f2.1 49 i rfl, f1 49 i rfl]; exact h.2.2.2.2.2 i)⟩
  | 44, x, _ => by
    obtain ⟨d, r1, r2, S1, S2, e1, e2, b, w, f1, f2⟩ := sc_44 (x := x) h.1 hk
    obtain ⟨q1, qM⟩ := room_eq (S := gho S d) h.2.1 h.2.2.2.1 h.2.2.2.2.2 e1 e2 (fun i => f1 46 i rfl) (fun i => f1 47 i rfl) (fun i => f1 49 i rfl) (fun i => f2.1 106 i rfl)
    exact ⟨d, S2, ⟨r1, r2, S1, e1, e2⟩, b, qM, (fun i => by rw [f2.1 122 i rfl, f1 122 i rfl, f2.1 48 i rfl, f1 48 i rfl]; exact h.2.2.1 i), (fun i => by rw [f2.1 123 i rfl, f1 123 i rfl, f2.1 47 i rfl, f1 47 i rfl]; exact h.2.2.2.1 i), (fun i => by rw [f2.1 124 i rfl, f1 124 i rfl, f2.1 50 i rfl, f1 50 i rfl]; exact h.2.2.2.2.1 i), (fun i => by rw [f2.1 125 i rfl, f1 125 i rfl, f2.1 49 i rfl, f1 49 i rfl]; exact h.2.2.2.2.2 i)⟩
  | 45, x, _ => by
    obtain ⟨d, r1, r2, S1, S2, e1, e2, b, w, f1, f2⟩ := sc_45 (x := x) h.1 hk
    obtain ⟨q1, n1, n2, n3, n4⟩ := lay_eq (S := gho S d) h.1.1 w h.1.2.1.1 h.2.1 h.2.2.1 h.2.2.2.1 h.2.2.2.2.1 h.2.2.2.2.2 e1 e2 f1 f2.f1
    exact ⟨d, S2, ⟨r1, r2, S1, e1, e2⟩, b, (fun i => by rw [f2.1 106 i rfl, f1 106 i rfl, f2.1 46 i rfl, f1 46 i rfl]; exact h.2.1 i), n1, n2, n3, n4⟩
  | 46, x, _ => by
    obtain ⟨d, r1, r2, S1, S2, e1, e2, b, w, f1, f2⟩ := sc_46 (x := x) h.1 hk
    obtain ⟨q1, n2, n4⟩ := wipe_eq (S := gho S d) h.1.1 w h.1.2.1.1 h.2.2.1 h.2.2.2.1 h.2.2.2.2.2 e1 e2 f1 f2.f1
    exact ⟨d, S2, ⟨r1, r2, S1, e1, e2⟩, b, (fun i => by rw [f2.1 106 i rfl, f1 106 i rfl, f2.1 46 i rfl, f1 46 i rfl]; exact h.2.1 i), (fun i => by rw [f2.1 122 i rfl, f1 122 i rfl, f2.1 48 i rfl, f1 48 i rfl]; exact h.2.2.1 i), n2, (fun i => by rw [f2.1 124 i rfl, f1 124 i rfl, f2.1 50 i rfl, f1 50 i rfl]; exact h.2.2.2.2.1 i), n4⟩
  | 47, x, _ => by
    obtain ⟨d, r1, r2, S1, S2, e1, e2, b, w, f1, f2⟩ := sc_47 (x := x) h.1 hk
    exact ⟨d, S2, ⟨r1, r2, S1, e1, e2⟩, b, (fun i => by rw [f2.1 106 i rfl, f1 106 i rfl, f2.1 46 i rfl, f1 46 i rfl]; exact h.2.1 i), (fun i => by rw [f2.1 122 i rfl, f1 122 i rfl, f2.1 48 i rfl, f1 48 i rfl]; exact h.2.2.1 i), (fun i => by rw [f2.1 123 i rfl, f1 123 i rfl, f2.1 47 i rfl, f1 47 i rfl]; exact h.2.2.2.1 i), (fun i => by rw [f2.1 124 i rfl, f1 124 i rfl, f2.1 50 i rfl, f1 50 i rfl]; exact h.2.2.2.2.1 i), (fun i => by rw [f2.1 125 i rfl, f1 125 i rfl, f2.1 49 i rfl, f1 49 i rfl]; exact h.2.2.2.2.2 i)⟩
  | 48, x, _ => by
    obtain ⟨d, r1, r2, S1, S2, e1, e2, b, w, f1, f2⟩ := sc_48 (x := x) h.1 hk
    exact ⟨d, S2, ⟨r1, r2, S1, e1, e2⟩, b, (fun i => by rw [f2.1 106 i rfl, f1 106 i rfl, f2.1 46 i rfl, f1 46 i rfl]; exact h.2.1 i), (fun i => by rw [f2.1 122 i rfl, f1 122 i rfl, f2.1 48 i rfl, f1 48 i rfl]; exact h.2.2.1 i), (fun i => by rw [f2.1 123 i rfl, f1 123 i rfl, f2.1 47 i rfl, f1 47 i rfl]; exact h.2.2.2.1 i), (fun i => by rw [f2.1 124 i rfl, f1 124 i rfl, f2.1 50 i rfl, f1 50 i rfl]; exact h.2.2.2.2.1 i), (fun i => by rw [f2.1 125 i rfl, f1 125 i rfl, f2.1 49 i rfl, f1 49 i rfl]; exact h.2.2.2.2.2 i)⟩
  | 49, x, _ => by
    obtain ⟨d, r1, r2, S1, S2, e1, e2, b, w, f1, f2⟩ := sc_49 (x := x) h.1 hk
    have q1 := bound_eq (S := gho S d) h.1.1 w h.1.2.1.1 h.2.2.1 h.2.2.2.1 h.2.2.2.2.1 h.2.2.2.2.2 e1 e2 f1
    subst q1
    exact ⟨d, S2, ⟨r1, S1, e1, e2⟩, b, (fun i => by rw [f2.1 106 i rfl, f1 106 i rfl, f2.1 46 i rfl, f1 46 i rfl]; exact h.2.1 i), (fun i => by rw [f2.1 122 i rfl, f1 122 i rfl, f2.1 48 i rfl, f1 48 i rfl]; exact h.2.2.1 i), (fun i => by rw [f2.1 123 i rfl, f1 123 i rfl, f2.1 47 i rfl, f1 47 i rfl]; exact h.2.2.2.1 i), (fun i => by rw [f2.1 124 i rfl, f1 124 i rfl, f2.1 50 i rfl, f1 50 i rfl]; exact h.2.2.2.2.1 i), (fun i => by rw [f2.1 125 i rfl, f1 125 i rfl, f2.1 49 i rfl, f1 49 i rfl]; exact h.2.2.2.2.2 i)⟩
  | 50, x, _ => by
    obtain ⟨d, r1, r2, S1, S2, e1, e2, b, w, f1, f2⟩ := sc_50 (x := x) h.1 hk
    exact ⟨d, S2, ⟨r1, r2, S1, e1, e2⟩, b, (fun i => by rw [f2.1 106 i rfl, f1 106 i rfl, f2.1 46 i rfl, f1 46 i rfl]; exact h.2.1 i), (fun i => by rw [f2.1 122 i rfl, f1 122 i rfl, f2.1 48 i rfl, f1 48 i rfl]; exact h.2.2.1 i), (fun i => by rw [f2.1 123 i rfl, f1 123 i rfl, f2.1 47 i rfl, f1 47 i rfl]; exact h.2.2.2.1 i), (fun i => by rw [f2.1 124 i rfl, f1 124 i rfl, f2.1 50 i rfl, f1 50 i rfl]; exact h.2.2.2.2.1 i), (fun i => by rw [f2.1 125 i rfl, f1 125 i rfl, f2.1 49 i rfl, f1 49 i rfl]; exact h.2.2.2.2.2 i)⟩
  | 51, x, _ => by
    obtain ⟨d, r1, r2, S1, S2, e1, e2, b, w, f1, f2⟩ := sc_51 (x := x) h.1 hk
    exact ⟨d, S2, ⟨r1, r2, S1, e1, e2⟩, b, (fun i => by rw [f2.1 106 i rfl, f1 106 i rfl, f2.1 46 i rfl, f1 46 i rfl]; exact h.2.1 i), (fun i => by rw [f2.1 122 i rfl, f1 122 i rfl, f2.1 48 i rfl, f1 48 i rfl]; exact h.2.2.1 i), (fun i => by rw [f2.1 123 i rfl, f1 123 i rfl, f2.1 47 i rfl, f1 47 i rfl]; exact h.2.2.2.1 i), (fun i => by rw [f2.1 124 i rfl, f1 124 i rfl, f2.1 50 i rfl, f1 50 i rfl]; exact h.2.2.2.2.1 i), (fun i => by rw [f2.1 125 i rfl, f1 125 i rfl, f2.1 49 i rfl, f1 49 i rfl]; exact h.2.2.2.2.2 i)⟩
  | 52, x, _ => by
    obtain ⟨d, r1, r2, S1, S2, e1, e2, b, w, f1, f2⟩ := sc_52 (x := x) h.1 hk
    exact ⟨d, S2, ⟨r1, r2, S1, e1, e2⟩, b, (fun i => by rw [f2.1 106 i rfl, f1 106 i rfl, f2.1 46 i rfl, f1 46 i rfl]; exact h.2.1 i), (fun i => by rw [f2.1 122 i rfl, f1 122 i rfl, f2.1 48 i rfl, f1 48 i rfl]; exact h.2.2.1 i), (fun i => by rw [f2.1 123 i rfl, f1 123 i rfl, f2.1 47 i rfl, f1 47 i rfl]; exact h.2.2.2.1 i), (fun i => by rw [f2.1 124 i rfl, f1 124 i rfl, f2.1 50 i rfl, f1 50 i rfl]; exact h.2.2.2.2.1 i), (fun i => by rw [f2.1 125 i rfl, f1 125 i rfl, f2.1 49 i rfl, f1 49 i rfl]; exact h.2.2.2.2.2 i)⟩
  | 53, x, _ => ⟨0, gho S 0, rfl, (h.1.gh 0).up, h.2⟩
  | 54, x, _ => ⟨0, gho S 0, rfl, (h.1.gh 0).up, h.2⟩
  | 55, x, _ => ⟨0, gho S 0, rfl, (h.1.gh 0).up, h.2⟩
  | 56, x, _ => ⟨0, gho S 0, rfl, (h.1.gh 0).up, h.2⟩
  | 57, x, _ => ⟨0, gho S 0, rfl, (h.1.gh 0).up, h.2⟩
  | 58, x, _ => ⟨0, gho S 0, rfl, (h.1.gh 0).up, h.2⟩
  | 59, x, _ => ⟨0, gho S 0, rfl, (h.1.gh 0).up, h.2⟩
  | 60, x, _ => ⟨0, gho S 0, rfl, (h.1.gh 0).up, h.2⟩
  | 61, x, _ => ⟨0, gho S 0, rfl, (h.1.gh 0).up, h.2⟩
  | 62, x, _ => ⟨0, gho S 0, rfl, (h.1.gh 0).up, h.2⟩
  | 63, x, _ => ⟨0, gho S 0, rfl, (h.1.gh 0).up, h.2⟩
  | n + 64, x, hn => absurd hn (by omega)
theorem rel2_0 : rel2 0 0 S0 := ⟨s0_Bs, fun _ => rfl, fun _ => rfl, fun _ => rfl, fun _ => rfl, fun _ => rfl⟩
