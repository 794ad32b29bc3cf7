/-! ===== the first call ===== -/
theorem OkP.ex {α : Type} {x : Option (α × SS)} {g : SS → Option (α × SS)} (h : Ex2 x (fun r S => Ex2 (g S) (fun r' _ => r = r'))) : ∃ (S2 : SS) (r : α) (S1 : SS), x = some (r, S1) ∧ g S1 = some (r, S2) := by
  obtain ⟨r, S1, e1, r', S2, e2, rfl⟩ := h
  exact ⟨S2, r, S1, e1, e2⟩
def okb (x : Option (Int32 × SS)) (g : SS → Option (Int32 × SS)) : Bool := match x with
  | none => false
  | some q => match g q.2 with
    | none => false
    | some z => decide (q.1 = z.1)
theorem okb_ok {x : Option (Int32 × SS)} {g : SS → Option (Int32 × SS)} (h : okb x g = true) : Ex2 x (fun r S => Ex2 (g S) (fun r' _ => r = r')) := by
  unfold okb at h
  cases x with
  | none => cases h
  | some q =>
    refine ⟨q.1, q.2, rfl, ?_⟩
    cases e : g q.2 with
    | none => simp [e] at h
    | some z =>
      simp [e] at h
      exact ⟨z.1, z.2, e, h⟩
def okl (x : Option (Int64 × SS)) (g : SS → Option (Int64 × SS)) : Bool := match x with
  | none => false
  | some q => match g q.2 with
    | none => false
    | some z => decide (q.1 = z.1)
theorem okl_ok {x : Option (Int64 × SS)} {g : SS → Option (Int64 × SS)} (h : okl x g = true) : Ex2 x (fun r S => Ex2 (g S) (fun r' _ => r = r')) := by
  unfold okl at h
  cases x with
  | none => cases h
  | some q =>
    refine ⟨q.1, q.2, rfl, ?_⟩
    cases e : g q.2 with
    | none => simp [e] at h
    | some z =>
      simp [e] at h
      exact ⟨z.1, z.2, e, h⟩
theorem s_save0 {x : Int32} (T : SS) {V : SS → Prop} (hx : x = 0) (kk : ∀ S' : SS, (∀ a, a ≠ 40 → S'.1 a = T.1 a) → V S') : Ew (f_M_save x T) V := by
  subst hx
  exact s_save T (k := 0) (by decide) (fun S' h => kk S' h.1)
theorem inb10 {a b : Int32} (h1 : 0 ≤ a) (h2 : a ≤ 9) (h3 : 0 ≤ b) (h4 : b ≤ 9) : inb ((10 : Int32) * a + b) 100 = true := by
  obtain ⟨i, hi, rfl⟩ := nI_of2 (x := a) (M := 9) (n := 9) (by decide) (by rw [Int32.not_lt]; exact h1) h2
  obtain ⟨j, hj, rfl⟩ := nI_of2 (x := b) (M := 9) (n := 9) (by decide) (by rw [Int32.not_lt]; exact h3) h4
  exact inb_of (j := 10 * i + j) (by rw [show (10 : Int32) * nI i = nI (10 * i) from nI_mul 10 i]; exact nI_add (10 * i) j) (by omega) (by omega)
theorem inb_le {x m : Int32} {n : Nat} (h0 : 0 ≤ x) (h1 : x ≤ m) (hm : m.toInt < n) : inb x n = true := by
  rw [Int32.le_iff_toInt_le] at h0 h1
  rw [Int32.toInt_zero] at h0
  exact inb_i h0 (by omega)
theorem inb_addc {c x m : Int32} {n : Nat} (h0 : 0 ≤ x) (h1 : x < m) (hc : 0 ≤ c.toInt ∧ c.toInt + m.toInt ≤ n ∧ c.toInt + m.toInt < 2147483648) : inb (c + x) n = true := by
  rw [Int32.le_iff_toInt_le] at h0
  rw [Int32.lt_iff_toInt_lt] at h1
  rw [Int32.toInt_zero] at h0
  have e : (c + x).toInt = c.toInt + x.toInt := by
    rw [Int32.toInt_add]
    simp only [Int.bmod_def]
    omega
  exact inb_i (by omega) (by omega)
theorem nf_M_has_M_goalMany_M_goalOn_L14 (K5 : Int32 → Int32 → Int32 → SS → Option (Int32 × SS)) (b0 : Int32) (b1 : Int32) (b2 : Int32) (b3 : Int32) (b4 : SS) : f_M_has_M_goalMany_M_goalOn_L14 K5 NF b0 b1 b2 b3 b4 = f_M_has_M_goalMany_M_goalOn_L14 K5 (99999 + 1) b0 b1 b2 b3 b4 := rfl
theorem nf_M_has_M_goalMany_M_goalOn_L5  (b0 : Int32) (b1 : Int32) (b2 : Int32) (b3 : SS) : f_M_has_M_goalMany_M_goalOn_L5  NF b0 b1 b2 b3 = f_M_has_M_goalMany_M_goalOn_L5  (99999 + 1) b0 b1 b2 b3 := rfl
theorem nf_M_has_M_startMany_M_startOn_L14 (K5 : Int32 → Int32 → Int32 → SS → Option (Int32 × SS)) (b0 : Int32) (b1 : Int32) (b2 : Int32) (b3 : Int32) (b4 : SS) : f_M_has_M_startMany_M_startOn_L14 K5 NF b0 b1 b2 b3 b4 = f_M_has_M_startMany_M_startOn_L14 K5 (99999 + 1) b0 b1 b2 b3 b4 := rfl
theorem nf_M_has_M_startMany_M_startOn_L5  (b0 : Int32) (b1 : Int32) (b2 : Int32) (b3 : SS) : f_M_has_M_startMany_M_startOn_L5  NF b0 b1 b2 b3 = f_M_has_M_startMany_M_startOn_L5  (99999 + 1) b0 b1 b2 b3 := rfl
theorem nf_M_via_L52  (b0 : Int32) (b1 : Int32) (b2 : Int32) (b3 : Int32) (b4 : Int32) (b5 : Int32) (b6 : Int32) (b7 : SS) : f_M_via_L52  NF b0 b1 b2 b3 b4 b5 b6 b7 = f_M_via_L52  (99999 + 1) b0 b1 b2 b3 b4 b5 b6 b7 := rfl
theorem nf_Stacks_placeOn_goal_L2  (b0 : Int32) (b1 : Int32) (b2 : Int32) (b3 : SS) : f_Stacks_placeOn_goal_L2  NF b0 b1 b2 b3 = f_Stacks_placeOn_goal_L2  (99999 + 1) b0 b1 b2 b3 := rfl
theorem nf_Stacks_placeOn_start_L2  (b0 : Int32) (b1 : Int32) (b2 : Int32) (b3 : SS) : f_Stacks_placeOn_start_L2  NF b0 b1 b2 b3 = f_Stacks_placeOn_start_L2  (99999 + 1) b0 b1 b2 b3 := rfl
theorem nf_Stacks_stackOf_goal_L2  (b0 : Int32) (b1 : Int32) (b2 : SS) : f_Stacks_stackOf_goal_L2  NF b0 b1 b2 = f_Stacks_stackOf_goal_L2  (99999 + 1) b0 b1 b2 := rfl
theorem nf_Stacks_stackOf_start_L2  (b0 : Int32) (b1 : Int32) (b2 : SS) : f_Stacks_stackOf_start_L2  NF b0 b1 b2 = f_Stacks_stackOf_start_L2  (99999 + 1) b0 b1 b2 := rfl
