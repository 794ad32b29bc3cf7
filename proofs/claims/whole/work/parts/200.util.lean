/-! ===== small laws of the words of the programs ===== -/
theorem bnd_s {ρ : Type} (v : Int32) (S : SS) (g : Int32 → SS → Option ρ) : bnd (some (v, S)) g = g v S := rfl
theorem bndl_s {ρ : Type} (v : Int64) (S : SS) (g : Int64 → SS → Option ρ) : bndl (some (v, S)) g = g v S := rfl
theorem bndv_s {ρ : Type} (S : SS) (g : SS → Option ρ) : bndv (some S) g = g S := rfl
theorem nm_s {α ρ : Type} (x : α) (f : α → Option ρ) : nm x f = f x := rfl
theorem wr_s {ρ : Type} (S : SS) (k i : Nat) (v : Int32) (f : SS → Option ρ) : wr S k i v f = f (st S k i v) := rfl
theorem cpw_s {ρ : Type} (S : SS) (k0 k1 sp dp n : Nat) (f : SS → Option ρ) : cpw S k0 k1 sp dp n f = f (cp S k0 k1 sp dp n) := rfl
theorem grd_s {ρ : Type} {b : Bool} (x : Option ρ) (h : b = true) : grd b x = x := by subst h; rfl
theorem st_at (S : SS) (k i : Nat) (v : Int32) (a b : Nat) : (st S k i v).1 a b = if a = k then (if b = i then v else S.1 a b) else S.1 a b := by
  by_cases h : a = k
  · subst h; simp [st, upd]
  · simp [st, h]
theorem st_row (S : SS) (k i : Nat) (v : Int32) {a : Nat} (h : a ≠ k) : (st S k i v).1 a = S.1 a := by simp [st, h]
theorem st_2 (S : SS) (k i : Nat) (v : Int32) : (st S k i v).2 = S.2 := rfl
theorem inb_nI {j n : Nat} (h : j < n) (hn : n < 2 ^ 31) : inb (nI j) n = true := by
  have h0 : ¬ nI j < 0 := nI_pos (by omega)
  have h1 : (nI j).toNatClampNeg = j := nI_clamp (by omega)
  simp [inb, h0, h1, h]
theorem inb_of {x : Int32} {j n : Nat} (hx : x = nI j) (h : j < n) (hn : n < 2 ^ 31) : inb x n = true := by subst hx; exact inb_nI h hn
/-- a number that a program asked to be at least 0 and below n -/
theorem nI_ex {x : Int32} {n : Nat} (h0 : ¬ x < 0) (h1 : x < nI n) (hn : n < 2 ^ 31) : ∃ j : Nat, j < n ∧ x = nI j := by
  obtain ⟨j, hj, rfl⟩ := nI_of h0
  exact ⟨j, (nI_ltI hj hn).mp h1, rfl⟩
theorem nI_ne {a b : Nat} (h : a ≠ b) (ha : a < 2 ^ 31) (hb : b < 2 ^ 31) : nI a ≠ nI b := fun e => h ((nI_eq ha hb).mp e)
theorem nI_neM {a : Nat} (ha : a < 2 ^ 31) {m : Int32} (hm : m < 0) : nI a ≠ m := fun e => nI_pos ha (by rw [e]; exact hm)
theorem nI_ne4 {a : Nat} (ha : a < 2 ^ 31) : nI a ≠ (-4 : Int32) := nI_neM ha (by decide)
/-- the first number from i on, of k, of which P holds -/
def fnd (P : Nat → Bool) : Nat → Nat → Option Nat
  | 0, _ => none
  | k + 1, i => if P i = true then some i else fnd P k (i + 1)
theorem fnd_congr {P Q : Nat → Bool} : ∀ (k i : Nat), (∀ j, i ≤ j → j < i + k → P j = Q j) → fnd P k i = fnd Q k i
  | 0, _, _ => rfl
  | k + 1, i, h => by
    simp only [fnd]
    rw [h i (Nat.le_refl _) (by omega), fnd_congr k (i + 1) (fun j h1 h2 => h j (by omega) (by omega))]
theorem fnd_some {P : Nat → Bool} : ∀ (k i : Nat) {j : Nat}, fnd P k i = some j → i ≤ j ∧ j < i + k ∧ P j = true ∧ ∀ m, i ≤ m → m < j → P m = false
  | 0, _, _, h => by cases h
  | k + 1, i, j, h => by
    simp only [fnd] at h
    by_cases c : P i = true
    · rw [if_pos c] at h
      cases h
      exact ⟨Nat.le_refl _, by omega, c, fun m h1 h2 => by omega⟩
    · rw [if_neg c] at h
      obtain ⟨h1, h2, h3, h4⟩ := fnd_some k (i + 1) h
      refine ⟨by omega, by omega, h3, fun m m1 m2 => ?_⟩
      by_cases e : m = i
      · subst e; simpa using c
      · exact h4 m (by omega) m2
theorem fnd_none {P : Nat → Bool} : ∀ (k i : Nat), fnd P k i = none → ∀ m, i ≤ m → m < i + k → P m = false
  | 0, _, _, m, h1, h2 => by omega
  | k + 1, i, h, m, h1, h2 => by
    simp only [fnd] at h
    by_cases c : P i = true
    · rw [if_pos c] at h; cases h
    · rw [if_neg c] at h
      by_cases e : m = i
      · subst e; simpa using c
      · exact fnd_none k (i + 1) h m (by omega) (by omega)
def oI (o : Option Nat) : Int32 := match o with
  | none => -4
  | some j => nI j
/-- how many numbers from i on, of k, of which P holds -/
def cnt (P : Nat → Bool) : Nat → Nat → Nat
  | 0, _ => 0
  | k + 1, i => (if P i = true then 1 else 0) + cnt P k (i + 1)
theorem cnt_congr {P Q : Nat → Bool} : ∀ (k i : Nat), (∀ j, i ≤ j → j < i + k → P j = Q j) → cnt P k i = cnt Q k i
  | 0, _, _ => rfl
  | k + 1, i, h => by
    simp only [cnt]
    rw [h i (Nat.le_refl _) (by omega), cnt_congr k (i + 1) (fun j h1 h2 => h j (by omega) (by omega))]
theorem cnt_le (P : Nat → Bool) : ∀ (k i : Nat), cnt P k i ≤ k
  | 0, _ => Nat.le_refl _
  | k + 1, i => by
    simp only [cnt]
    have := cnt_le P k (i + 1)
    split <;> omega
theorem NF_gt : 30000 ≤ NF := by decide
