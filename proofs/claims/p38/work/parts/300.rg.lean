/-! ===== rules for the pure functions ===== -/
def Ex2 {α : Type} (x : Option (α × SS)) (P : α → SS → Prop) : Prop := ∃ r S, x = some (r, S) ∧ P r S
def Ew (x : Option SS) (P : SS → Prop) : Prop := ∃ S, x = some S ∧ P S
section EV
variable {α : Type} {P : α → SS → Prop} {V : SS → Prop} {x y : Option (α × SS)} {v w : Option SS} {S : SS} {c : Prop} {b : Bool}
theorem e_some {r : α} (h : P r S) : Ex2 (some (r, S)) P := ⟨r, S, rfl, h⟩
theorem v_some (h : V S) : Ew (some S) V := ⟨S, rfl, h⟩
theorem e_t [Decidable c] (hc : c) (h : Ex2 x P) : Ex2 (if c then x else y) P := by rw [if_pos hc]; exact h
theorem e_f [Decidable c] (hc : ¬ c) (h : Ex2 y P) : Ex2 (if c then x else y) P := by rw [if_neg hc]; exact h
theorem v_t [Decidable c] (hc : c) (h : Ew v V) : Ew (if c then v else w) V := by rw [if_pos hc]; exact h
theorem v_f [Decidable c] (hc : ¬ c) (h : Ew w V) : Ew (if c then v else w) V := by rw [if_neg hc]; exact h
theorem e_i [Decidable c] (h1 : c → Ex2 x P) (h2 : ¬ c → Ex2 y P) : Ex2 (if c then x else y) P := by
  by_cases h : c
  · exact e_t h (h1 h)
  · exact e_f h (h2 h)
theorem v_i [Decidable c] (h1 : c → Ew v V) (h2 : ¬ c → Ew w V) : Ew (if c then v else w) V := by
  by_cases h : c
  · exact v_t h (h1 h)
  · exact v_f h (h2 h)
theorem e_bnd {z : Option (Int32 × SS)} {g : Int32 → SS → Option (α × SS)} (h : Ex2 z (fun r S => Ex2 (g r S) P)) : Ex2 (bnd z g) P := by
  obtain ⟨r, S, rfl, h⟩ := h; exact h
theorem e_bndl {z : Option (Int64 × SS)} {g : Int64 → SS → Option (α × SS)} (h : Ex2 z (fun r S => Ex2 (g r S) P)) : Ex2 (bndl z g) P := by
  obtain ⟨r, S, rfl, h⟩ := h; exact h
theorem e_bndv {z : Option SS} {g : SS → Option (α × SS)} (h : Ew z (fun S => Ex2 (g S) P)) : Ex2 (bndv z g) P := by
  obtain ⟨S, rfl, h⟩ := h; exact h
theorem v_bnd {z : Option (Int32 × SS)} {g : Int32 → SS → Option SS} (h : Ex2 z (fun r S => Ew (g r S) V)) : Ew (bnd z g) V := by
  obtain ⟨r, S, rfl, h⟩ := h; exact h
theorem v_bndv {z : Option SS} {g : SS → Option SS} (h : Ew z (fun S => Ew (g S) V)) : Ew (bndv z g) V := by
  obtain ⟨S, rfl, h⟩ := h; exact h
theorem e_grd (hb : b = true) (h : Ex2 x P) : Ex2 (grd b x) P := by subst hb; exact h
theorem v_grd (hb : b = true) (h : Ew v V) : Ew (grd b v) V := by subst hb; exact h
theorem e_nm {β : Type} {a : β} {f : β → Option (α × SS)} (h : Ex2 (f a) P) : Ex2 (nm a f) P := h
theorem v_nm {β : Type} {a : β} {f : β → Option SS} (h : Ew (f a) V) : Ew (nm a f) V := h
theorem e_wr {k i : Nat} {u : Int32} {f : SS → Option (α × SS)} (h : Ex2 (f (st S k i u)) P) : Ex2 (wr S k i u f) P := h
theorem v_wr {k i : Nat} {u : Int32} {f : SS → Option SS} (h : Ew (f (st S k i u)) V) : Ew (wr S k i u f) V := h
theorem e_cpw {k0 k1 a d n : Nat} {f : SS → Option (α × SS)} (h : Ex2 (f (cp S k0 k1 a d n)) P) : Ex2 (cpw S k0 k1 a d n f) P := h
theorem v_cpw {k0 k1 a d n : Nat} {f : SS → Option SS} (h : Ew (f (cp S k0 k1 a d n)) V) : Ew (cpw S k0 k1 a d n f) V := h
theorem e_eq (e : x = y) (h : Ex2 y P) : Ex2 x P := by rw [e]; exact h
theorem v_eq (e : v = w) (h : Ew w V) : Ew v V := by rw [e]; exact h
theorem e_mono {P' : α → SS → Prop} (h : Ex2 x P) (hP : ∀ r S, P r S → P' r S) : Ex2 x P' := by
  obtain ⟨r, S, e, h⟩ := h; exact ⟨r, S, e, hP r S h⟩
theorem v_mono {V' : SS → Prop} (h : Ew v V) (hV : ∀ S, V S → V' S) : Ew v V' := by
  obtain ⟨S, e, h⟩ := h; exact ⟨S, e, hV S h⟩
end EV
theorem st_at (S : SS) (k i : Nat) (v : Int32) (a b : Nat) : (st S k i v).1 a b = if a = k then (if b = i then v else S.1 a b) else S.1 a b := by
  by_cases h : a = k
  · subst h; simp [st, upd]
  · simp [st, h]
theorem st_row (S : SS) (k i : Nat) (v : Int32) {a : Nat} (h : a ≠ k) : (st S k i v).1 a = S.1 a := by simp [st, h]
theorem st_2 (S : SS) (k i : Nat) (v : Int32) : (st S k i v).2 = S.2 := rfl
theorem cp_row (S : SS) (k0 k1 a d n : Nat) {q : Nat} (h : q ≠ k1) : (cp S k0 k1 a d n).1 q = S.1 q := by simp [cp, h]
theorem cp_2 (S : SS) (k0 k1 a d n : Nat) : (cp S k0 k1 a d n).2 = S.2 := rfl
theorem inb_i {x : Int32} {n : Nat} (h0 : 0 ≤ x.toInt) (h1 : x.toInt < n) : inb x n = true := by
  have e0 : ¬ x < 0 := by rw [Int32.lt_iff_toInt_lt, Int32.toInt_zero]; omega
  have e1 : x.toNatClampNeg = x.toInt.toNat := rfl
  simp only [inb, e0, e1, decide_false, Bool.not_false, Bool.true_and, decide_eq_true_eq]
  omega
theorem inb_nI {j n : Nat} (h : j < n) (hn : n < 2 ^ 31) : inb (nI j) n = true := inb_i (by rw [nI_toInt (by omega)]; omega) (by rw [nI_toInt (by omega)]; omega)
theorem inb_of {x : Int32} {j n : Nat} (hx : x = nI j) (h : j < n) (hn : n < 2 ^ 31) : inb x n = true := by subst hx; exact inb_nI h hn
theorem nI_mul (a b : Nat) : nI a * nI b = nI (a * b) := (Int32.ofNat_mul a b).symm
/-! ===== ranges: a number lies between two, or is NONE ===== -/
def rg (x : Int32) (a b : Int) : Prop := a ≤ x.toInt ∧ x.toInt ≤ b
def rn (x : Int32) (a b : Int) : Prop := x = -4 ∨ rg x a b
theorem rgl (c : Int32) (a b : Int) (e : decide (a ≤ c.toInt ∧ c.toInt ≤ b) = true) : rg c a b := by
  have h := of_decide_eq_true e
  exact h
theorem rg.sub {x : Int32} {a b c d : Int} (h : rg x a b) (e : decide (c ≤ a ∧ b ≤ d) = true) : rg x c d := by
  have := of_decide_eq_true e
  exact ⟨by have := h.1; omega, by have := h.2; omega⟩
theorem rg.toN {x : Int32} {a b : Int} (h : rg x a b) : rn x a b := Or.inr h
theorem rn4 {x : Int32} {a b : Int} (h : x = -4) : rn x a b := Or.inl h
theorem rn4l (a b : Int) : rn (-4) a b := Or.inl rfl
theorem rn.sub {x : Int32} {a b c d : Int} (h : rn x a b) (e : decide (c ≤ a ∧ b ≤ d) = true) : rn x c d := by
  rcases h with h | h
  · exact Or.inl h
  · exact Or.inr (h.sub e)
theorem rn.toR {x : Int32} {a b c d : Int} (h : rn x a b) (e : decide (c ≤ a ∧ b ≤ d ∧ c ≤ -4 ∧ -4 ≤ d) = true) : rg x c d := by
  have e := of_decide_eq_true e
  rcases h with h | h
  · subst h
    have : (-4 : Int32).toInt = -4 := by decide
    exact ⟨by omega, by omega⟩
  · exact ⟨by have := h.1; omega, by have := h.2; omega⟩
theorem rn.ne {x : Int32} {a b : Int} (h : rn x a b) (q : ¬ x = -4) : rg x a b := by
  rcases h with h | h
  · exact absurd h q
  · exact h
theorem rg_tr {x y : Int32} {a b : Int} (h : rg x a b) (e : y = x) : rg y a b := by rw [e]; exact h
theorem rn_tr {x y : Int32} {a b : Int} (h : rn x a b) (e : y = x) : rn y a b := by rw [e]; exact h
theorem rg_no {x : Int32} {a b : Int} (h : rg x a b) (e : decide (b < a) = true) {P : Prop} : P := by
  have := of_decide_eq_true e
  exact absurd h.1 (by have := h.2; omega)
theorem bm {z : Int} (h1 : -2147483648 ≤ z) (h2 : z ≤ 2147483647) : z.bmod (2 ^ 32) = z := by
  rw [Int.bmod_def]
  have : ((2 ^ 32 : Nat) : Int) = 4294967296 := by decide
  rw [this]
  omega
theorem rg_add {x y : Int32} {a b c d : Int} (p q : Int) (h : rg x a b) (k : rg y c d) (e : decide (p ≤ a + c ∧ b + d ≤ q ∧ -2147483648 ≤ p ∧ q ≤ 2147483647) = true) : rg (x + y) p q := by
  have e := of_decide_eq_true e
  have h1 := h.1; have h2 := h.2; have k1 := k.1; have k2 := k.2
  unfold rg
  rw [Int32.toInt_add, bm (by omega) (by omega)]
  omega
theorem rg_sb {x y : Int32} {a b c d : Int} (p q : Int) (h : rg x a b) (k : rg y c d) (e : decide (p ≤ a - d ∧ b - c ≤ q ∧ -2147483648 ≤ p ∧ q ≤ 2147483647) = true) : rg (x - y) p q := by
  have e := of_decide_eq_true e
  have h1 := h.1; have h2 := h.2; have k1 := k.1; have k2 := k.2
  unfold rg
  rw [Int32.toInt_sub, bm (by omega) (by omega)]
  omega
theorem rg_mul {x y : Int32} {a b c d : Int} (p q : Int) (h : rg x a b) (k : rg y c d) (e : decide (0 ≤ a ∧ 0 ≤ c ∧ p ≤ a * c ∧ b * d ≤ q ∧ -2147483648 ≤ p ∧ q ≤ 2147483647) = true) : rg (x * y) p q := by
  have e := of_decide_eq_true e
  have h1 := h.1; have h2 := h.2; have k1 := k.1; have k2 := k.2
  have m1 : a * c ≤ x.toInt * y.toInt := Int.mul_le_mul h1 k1 e.2.1 (by omega)
  have m2 : x.toInt * y.toInt ≤ b * d := Int.mul_le_mul h2 k2 (by omega) (by omega)
  unfold rg
  rw [Int32.toInt_mul, bm (by omega) (by omega)]
  omega
theorem td_nn {x : Int32} {n : Int} (hn : 0 < n) (h : 0 ≤ x.toInt) : x.toInt.tdiv n = x.toInt / n := Int.tdiv_eq_ediv_of_nonneg h
theorem dv_toInt {x y : Int32} {n : Int} (hy : y.toInt = n) (hn : 0 < n) (h : 0 ≤ x.toInt) : (x / y).toInt = x.toInt / n := by
  have h2 := x.toInt_lt
  have h3 : x.toInt / n ≤ x.toInt := Int.ediv_le_self _ h
  have h4 : 0 ≤ x.toInt / n := Int.ediv_nonneg h (by omega)
  rw [Int32.toInt_div, hy, Int.tdiv_eq_ediv_of_nonneg h, bm (by omega) (by omega)]
theorem rg_div {x y : Int32} {a b : Int} (p q n : Int) (h : rg x a b) (hy : y.toInt = n) (e : decide (0 ≤ a ∧ 0 < n ∧ p ≤ a / n ∧ b / n ≤ q) = true) : rg (x / y) p q := by
  have e := of_decide_eq_true e
  have h1 := h.1; have h2 := h.2
  have m1 : a / n ≤ x.toInt / n := Int.ediv_le_ediv e.2.1 h1
  have m2 : x.toInt / n ≤ b / n := Int.ediv_le_ediv e.2.1 h2
  unfold rg
  rw [dv_toInt hy e.2.1 (by omega)]
  omega
theorem rm_toInt {x y : Int32} {n : Int} (hy : y.toInt = n) (hn : 0 < n) (h : 0 ≤ x.toInt) : (x - x / y * y).toInt = x.toInt % n := by
  have h2 := x.toInt_lt
  have h5 := Int.ediv_mul_le x.toInt (b := n) (by omega)
  have h4 : 0 ≤ x.toInt / n := Int.ediv_nonneg h (by omega)
  have h6 : 0 ≤ x.toInt / n * n := Int.mul_nonneg h4 (by omega)
  have h7 := Int.mul_ediv_add_emod x.toInt n
  rw [Int.mul_comm] at h7
  rw [Int32.toInt_sub, Int32.toInt_mul, dv_toInt hy hn h, hy, bm (z := x.toInt / n * n) (by omega) (by omega), bm (by omega) (by omega)]
  omega
theorem rg_rem {x y : Int32} {a b : Int} (q n : Int) (h : rg x a b) (hy : y.toInt = n) (e : decide (0 ≤ a ∧ 0 < n ∧ (n - 1 ≤ q ∨ b ≤ q)) = true) : rg (x - x / y * y) 0 q := by
  have e := of_decide_eq_true e
  have h1 := h.1; have h2 := h.2
  have m1 := Int.emod_nonneg x.toInt (b := n) (by omega)
  have m2 := Int.emod_lt_of_pos x.toInt e.2.1
  have m4 : 0 ≤ n * (x.toInt / n) := Int.mul_nonneg (by omega) (Int.ediv_nonneg (by omega) (by omega))
  have m5 := Int.mul_ediv_add_emod x.toInt n
  have m3 : x.toInt % n ≤ x.toInt := by omega
  unfold rg
  rw [rm_toInt hy e.2.1 (by omega)]
  omega
theorem and1 (x : Int32) : rg (x &&& 1) 0 1 := by
  have h : ∀ b : BitVec 32, b &&& 1#32 = 0#32 ∨ b &&& 1#32 = 1#32 := by
    intro b
    have e : (b &&& 1#32).toNat = b.toNat % 2 := by
      rw [BitVec.toNat_and]
      exact Nat.and_one_is_mod _
    rcases Nat.mod_two_eq_zero_or_one b.toNat with q | q
    · exact Or.inl (BitVec.eq_of_toNat_eq (by rw [e, q]; rfl))
    · exact Or.inr (BitVec.eq_of_toNat_eq (by rw [e, q]; rfl))
  have e : (x &&& 1) = Int32.ofBitVec (x.toBitVec &&& 1#32) := rfl
  rcases h x.toBitVec with q | q
  · rw [e, q]; exact ⟨by decide, by decide⟩
  · rw [e, q]; exact ⟨by decide, by decide⟩
/-- what a test tells -/
theorem lt_l {x y : Int32} {a b c d : Int} (p : Int) (h : rg x a b) (k : rg y c d) (q : x < y) (e : decide (d - 1 ≤ p) = true) : rg x a p := by
  have e := of_decide_eq_true e
  rw [Int32.lt_iff_toInt_lt] at q
  exact ⟨h.1, by have := k.2; omega⟩
theorem lt_r {x y : Int32} {a b c d : Int} (p : Int) (h : rg x a b) (k : rg y c d) (q : x < y) (e : decide (p ≤ a + 1) = true) : rg y p d := by
  have e := of_decide_eq_true e
  rw [Int32.lt_iff_toInt_lt] at q
  exact ⟨by have := h.1; omega, k.2⟩
theorem nlt_l {x y : Int32} {a b c d : Int} (h : rg x a b) (k : rg y c d) (q : ¬ x < y) : rg x c b := by
  rw [Int32.lt_iff_toInt_lt] at q
  exact ⟨by have := k.1; omega, h.2⟩
theorem nlt_r {x y : Int32} {a b c d : Int} (h : rg x a b) (k : rg y c d) (q : ¬ x < y) : rg y c b := by
  rw [Int32.lt_iff_toInt_lt] at q
  exact ⟨k.1, by have := h.2; omega⟩
theorem le_l {x y : Int32} {a b c d : Int} (h : rg x a b) (k : rg y c d) (q : x ≤ y) : rg x a d := by
  rw [Int32.le_iff_toInt_le] at q
  exact ⟨h.1, by have := k.2; omega⟩
theorem le_r {x y : Int32} {a b c d : Int} (h : rg x a b) (k : rg y c d) (q : x ≤ y) : rg y a d := by
  rw [Int32.le_iff_toInt_le] at q
  exact ⟨by have := h.1; omega, k.2⟩
theorem nle_l {x y : Int32} {a b c d : Int} (p : Int) (h : rg x a b) (k : rg y c d) (q : ¬ x ≤ y) (e : decide (p ≤ c + 1) = true) : rg x p b := by
  have e := of_decide_eq_true e
  rw [Int32.le_iff_toInt_le] at q
  exact ⟨by have := k.1; omega, h.2⟩
theorem nle_r {x y : Int32} {a b c d : Int} (p : Int) (h : rg x a b) (k : rg y c d) (q : ¬ x ≤ y) (e : decide (b - 1 ≤ p) = true) : rg y c p := by
  have e := of_decide_eq_true e
  rw [Int32.le_iff_toInt_le] at q
  exact ⟨k.1, by have := h.2; omega⟩
theorem ne_h {x y : Int32} {a b c d : Int} (p : Int) (h : rg x a b) (k : rg y c d) (q : ¬ x = y) (e : decide (c = d ∧ b = c ∧ b - 1 ≤ p) = true) : rg x a p := by
  have e := of_decide_eq_true e
  rw [← Int32.toInt_inj] at q
  exact ⟨h.1, by have := h.2; have := k.1; have := k.2; omega⟩
theorem ne_l {x y : Int32} {a b c d : Int} (p : Int) (h : rg x a b) (k : rg y c d) (q : ¬ x = y) (e : decide (c = d ∧ a = c ∧ p ≤ a + 1) = true) : rg x p b := by
  have e := of_decide_eq_true e
  rw [← Int32.toInt_inj] at q
  exact ⟨by have := h.1; have := k.1; have := k.2; omega, h.2⟩
theorem d_lt {x y : Int32} {a b c d : Int} (h : rg x a b) (k : rg y c d) (e : decide (b < c) = true) : x < y := by
  have e := of_decide_eq_true e
  rw [Int32.lt_iff_toInt_lt]; have := h.2; have := k.1; omega
theorem d_nlt {x y : Int32} {a b c d : Int} (h : rg x a b) (k : rg y c d) (e : decide (d ≤ a) = true) : ¬ x < y := by
  have e := of_decide_eq_true e
  rw [Int32.lt_iff_toInt_lt]; have := h.1; have := k.2; omega
theorem d_le {x y : Int32} {a b c d : Int} (h : rg x a b) (k : rg y c d) (e : decide (b ≤ c) = true) : x ≤ y := by
  have e := of_decide_eq_true e
  rw [Int32.le_iff_toInt_le]; have := h.2; have := k.1; omega
theorem d_nle {x y : Int32} {a b c d : Int} (h : rg x a b) (k : rg y c d) (e : decide (d < a) = true) : ¬ x ≤ y := by
  have e := of_decide_eq_true e
  rw [Int32.le_iff_toInt_le]; have := h.1; have := k.2; omega
theorem d_ne {x y : Int32} {a b c d : Int} (h : rg x a b) (k : rg y c d) (e : decide (b < c ∨ d < a) = true) : ¬ x = y := by
  have e := of_decide_eq_true e
  intro q
  rw [q] at h
  have := h.1; have := h.2; have := k.1; have := k.2; omega
theorem d_eq {x y : Int32} {a b c d : Int} (h : rg x a b) (k : rg y c d) (e : decide (a = b ∧ c = d ∧ a = c) = true) : x = y := by
  have e := of_decide_eq_true e
  rw [← Int32.toInt_inj]
  have := h.1; have := h.2; have := k.1; have := k.2; omega
theorem inb_g {x : Int32} {n : Nat} {a b : Int} (h : rg x a b) (e : decide (0 ≤ a ∧ b < n) = true) : inb x n = true := by
  have e := of_decide_eq_true e
  exact inb_i (by have := h.1; omega) (by have := h.2; omega)
theorem isB_g {x : Int32} {a b : Int} (h : rg x a b) (e : decide (0 ≤ a ∧ b ≤ 1) = true) : isB x = true := by
  have e := of_decide_eq_true e
  have h1 := h.1; have h2 := h.2
  have : x = 0 ∨ x = 1 := by
    rw [← Int32.toInt_inj, ← Int32.toInt_inj]
    have e0 : (0 : Int32).toInt = 0 := by decide
    have e1 : (1 : Int32).toInt = 1 := by decide
    omega
  simp only [isB, Bool.or_eq_true, decide_eq_true_eq]
  exact this
theorem nz_g {x : Int32} {a b : Int} (h : rg x a b) (e : decide (0 < a ∨ b < 0) = true) : (!(decide (x = 0))) = true := by
  have : ¬ x = 0 := d_ne h (rgl 0 0 0 rfl) (by
    have e := of_decide_eq_true e
    exact decide_eq_true (by omega))
  simp [this]
/-- what stays -/
def wm (L : List Nat) (F : List (Nat × Nat)) (a b : Nat) : Bool := L.any (fun k => Nat.beq k a) || F.any (fun p => Nat.beq p.1 a && Nat.beq p.2 b)
def Fr (L : List Nat) (F : List (Nat × Nat)) (S T : SS) : Prop := (∀ a b, wm L F a b = false → T.1 a b = S.1 a b) ∧ T.2 = S.2
def sb (L1 : List Nat) (F1 : List (Nat × Nat)) (L : List Nat) (F : List (Nat × Nat)) : Bool := L1.all (fun k => L.any (fun j => Nat.beq j k)) && F1.all (fun p => L.any (fun j => Nat.beq j p.1) || F.any (fun q => Nat.beq q.1 p.1 && Nat.beq q.2 p.2))
theorem Fr.rf {L : List Nat} {F : List (Nat × Nat)} {S : SS} : Fr L F S S := ⟨fun _ _ _ => rfl, rfl⟩
theorem sb_wm {L1 : List Nat} {F1 : List (Nat × Nat)} {L : List Nat} {F : List (Nat × Nat)} (h : sb L1 F1 L F = true) {a b : Nat} (q : wm L F a b = false) : wm L1 F1 a b = false := by
  simp only [sb, Bool.and_eq_true, List.all_eq_true, List.any_eq_true, Bool.or_eq_true] at h
  simp only [wm, Bool.or_eq_false_iff, List.any_eq_false, Bool.and_eq_true] at q ⊢
  refine ⟨fun k hk e => ?_, fun p hp e => ?_⟩
  · obtain ⟨j, hj, e2⟩ := h.1 k hk
    have := Nat.eq_of_beq_eq_true e2
    subst this
    exact q.1 _ hj e
  · rcases h.2 p hp with ⟨j, hj, e2⟩ | ⟨z, hz, e2, e3⟩
    · have := Nat.eq_of_beq_eq_true e2
      subst this
      exact q.1 _ hj e.1
    · have e2 := Nat.eq_of_beq_eq_true e2
      have e3 := Nat.eq_of_beq_eq_true e3
      refine q.2 z hz ?_
      rw [e2, e3]
      exact e
theorem Fr.tr {L : List Nat} {F : List (Nat × Nat)} {L1 : List Nat} {F1 : List (Nat × Nat)} {S T U : SS} (h : Fr L F S T) (k : Fr L1 F1 T U) (e : sb L1 F1 L F = true) : Fr L F S U :=
  ⟨fun a b q => (k.1 a b (sb_wm e q)).trans (h.1 a b q), k.2.trans h.2⟩
theorem fr_stA (S : SS) (k i : Nat) (v : Int32) : Fr [k] [] S (st S k i v) := ⟨fun a b q => by
  simp only [wm, List.any_cons, List.any_nil, Bool.or_false] at q
  rw [st_row _ _ _ _ (fun e => by rw [e, Nat.beq_refl] at q; cases q)], rfl⟩
theorem fr_stO (S : SS) (k i : Nat) (v : Int32) : Fr [] [(k, i)] S (st S k i v) := ⟨fun a b q => by
  simp only [wm, List.any_cons, List.any_nil, Bool.or_false, Bool.false_or, Bool.and_eq_false_iff] at q
  rw [st_at]
  by_cases ha : a = k
  · by_cases hb : b = i
    · rw [ha, hb, Nat.beq_refl, Nat.beq_refl] at q; rcases q with q | q <;> cases q
    · rw [if_pos ha, if_neg hb]
  · rw [if_neg ha], rfl⟩
theorem st_here (S : SS) (k i : Nat) (v : Int32) : (st S k i v).1 k i = v := by rw [st_at, if_pos rfl, if_pos rfl]
theorem bnd_r {ρ : Type} (v : Int32) (S : SS) (g : Int32 → SS → Option ρ) : bnd (some (v, S)) g = g v S := rfl
section AI
variable {α : Type} {P : α → SS → Prop} {V : SS → Prop} {S : SS}
theorem e_nmG {β : Type} {a : β} {f : β → Option (α × SS)} (h : ∀ z, z = a → Ex2 (f z) P) : Ex2 (nm a f) P := h a rfl
theorem v_nmG {β : Type} {a : β} {f : β → Option SS} (h : ∀ z, z = a → Ew (f z) V) : Ew (nm a f) V := h a rfl
theorem e_someG {r : α} (h : ∀ z, z = r → P z S) : Ex2 (some (r, S)) P := ⟨r, S, rfl, h r rfl⟩
theorem e_cE {z : Option (Int32 × SS)} {Q : Int32 → SS → Prop} {g : Int32 → SS → Option (α × SS)} (h : Ex2 z Q) (k : ∀ r T, Q r T → Ex2 (g r T) P) : Ex2 (bnd z g) P := by
  obtain ⟨r, T, rfl, h⟩ := h; exact k r T h
theorem e_cL {z : Option (Int64 × SS)} {Q : Int64 → SS → Prop} {g : Int64 → SS → Option (α × SS)} (h : Ex2 z Q) (k : ∀ r T, Q r T → Ex2 (g r T) P) : Ex2 (bndl z g) P := by
  obtain ⟨r, T, rfl, h⟩ := h; exact k r T h
theorem e_cV {z : Option SS} {Q : SS → Prop} {g : SS → Option (α × SS)} (h : Ew z Q) (k : ∀ T, Q T → Ex2 (g T) P) : Ex2 (bndv z g) P := by
  obtain ⟨T, rfl, h⟩ := h; exact k T h
theorem v_cE {z : Option (Int32 × SS)} {Q : Int32 → SS → Prop} {g : Int32 → SS → Option SS} (h : Ex2 z Q) (k : ∀ r T, Q r T → Ew (g r T) V) : Ew (bnd z g) V := by
  obtain ⟨r, T, rfl, h⟩ := h; exact k r T h
theorem v_cV {z : Option SS} {Q : SS → Prop} {g : SS → Option SS} (h : Ew z Q) (k : ∀ T, Q T → Ew (g T) V) : Ew (bndv z g) V := by
  obtain ⟨T, rfl, h⟩ := h; exact k T h
theorem e_wrA {k i : Nat} {u : Int32} {f : SS → Option (α × SS)} (h : ∀ T, T = st S k i u → Fr [k] [] S T → T.1 k i = u → Ex2 (f T) P) : Ex2 (wr S k i u f) P := h _ rfl (fr_stA S k i u) (st_here S k i u)
theorem v_wrA {k i : Nat} {u : Int32} {f : SS → Option SS} (h : ∀ T, T = st S k i u → Fr [k] [] S T → T.1 k i = u → Ew (f T) V) : Ew (wr S k i u f) V := h _ rfl (fr_stA S k i u) (st_here S k i u)
theorem e_wrO {k i : Nat} {u : Int32} {f : SS → Option (α × SS)} (h : ∀ T, T = st S k i u → Fr [] [(k, i)] S T → T.1 k i = u → Ex2 (f T) P) : Ex2 (wr S k i u f) P := h _ rfl (fr_stO S k i u) (st_here S k i u)
theorem v_wrO {k i : Nat} {u : Int32} {f : SS → Option SS} (h : ∀ T, T = st S k i u → Fr [] [(k, i)] S T → T.1 k i = u → Ew (f T) V) : Ew (wr S k i u f) V := h _ rfl (fr_stO S k i u) (st_here S k i u)
end AI
/-- loops that count -/
theorem up_0 {x : Int32} {a b B : Int} (h : rg x a b) (m : B - x.toInt < ((0 : Nat) : Int)) (e : decide (b ≤ B) = true) {P : Prop} : P := by
  have e := of_decide_eq_true e
  have := h.2
  exact absurd m (by omega)
theorem up_s {x z : Int32} {a b B : Int} {n : Nat} (h : rg x a b) (hz : z = x + 1) (m : B - x.toInt < ((n + 1 : Nat) : Int)) (e : decide (-2147483648 ≤ a ∧ b ≤ 2147483646) = true) : B - z.toInt < (n : Int) := by
  have e := of_decide_eq_true e
  have h1 := h.1; have h2 := h.2
  have e1 : (1 : Int32).toInt = 1 := by decide
  rw [hz, Int32.toInt_add, e1, bm (by omega) (by omega)]
  omega
theorem up_n {x : Int32} {a b B : Int} (h : rg x a b) (e : decide (B - a < 100000) = true) : B - x.toInt < (NF : Int) := by
  have e := of_decide_eq_true e
  have h1 := h.1
  have : (NF : Int) = 100000 := rfl
  omega
theorem dn_0 {x : Int32} {a b B : Int} (h : rg x a b) (m : x.toInt - B < ((0 : Nat) : Int)) (e : decide (B ≤ a) = true) {P : Prop} : P := by
  have e := of_decide_eq_true e
  have := h.1
  exact absurd m (by omega)
theorem dn_s {x z : Int32} {a b B : Int} {n : Nat} (h : rg x a b) (hz : z = x - 1) (m : x.toInt - B < ((n + 1 : Nat) : Int)) (e : decide (-2147483647 ≤ a ∧ b ≤ 2147483647) = true) : z.toInt - B < (n : Int) := by
  have e := of_decide_eq_true e
  have h1 := h.1; have h2 := h.2
  have e1 : (1 : Int32).toInt = 1 := by decide
  rw [hz, Int32.toInt_sub, e1, bm (by omega) (by omega)]
  omega
theorem dn_n {x : Int32} {a b B : Int} (h : rg x a b) (e : decide (b - B < 100000) = true) : x.toInt - B < (NF : Int) := by
  have e := of_decide_eq_true e
  have h1 := h.2
  have : (NF : Int) = 100000 := rfl
  omega
/-! ===== ranges of the cells ===== -/
def okO0 (i : Nat) (v : Int32) : Prop := cond (Nat.beq i 5) (rg v 0 200) (cond (Nat.beq i 7) (rg v 0 24) (cond (Nat.beq i 15) (rg v 0 40) (cond (Nat.beq i 19) (rg v 0 12) (cond (Nat.beq i 26) (rg v 0 23) (cond (Nat.beq i 28) (rg v 0 1) (cond (Nat.beq i 29) (rg v 0 72) (cond (Nat.beq i 47) (rg v 0 600) (cond (Nat.beq i 54) (rg v 0 1) (cond (Nat.beq i 56) (rg v 0 72) (cond (Nat.beq i 57) (rg v 0 1) (cond (Nat.beq i 58) (rg v 0 1) (cond (Nat.beq i 60) (rg v 0 8) (cond (Nat.beq i 61) (rg v 0 8) (cond (Nat.beq i 62) (rg v 0 600) (cond (Nat.beq i 66) (rg v 0 71) (cond (Nat.beq i 67) (rg v 0 1) (cond (Nat.beq i 70) (rg v 0 72) (cond (Nat.beq i 77) (rg v 0 399) (cond (Nat.beq i 81) (rg v 0 10) (True))))))))))))))))))))
def okO62 (i : Nat) (v : Int32) : Prop := cond (Nat.beq i 2) (rg v 0 200) (True)
def okO63 (i : Nat) (v : Int32) : Prop := cond (Nat.beq i 1) (rg v 0 72) (True)
def okO64 (i : Nat) (v : Int32) : Prop := cond (Nat.beq i 3) (rg v 0 7) (cond (Nat.beq i 4) (rg v 0 39) (cond (Nat.beq i 5) (rg v 0 40) (cond (Nat.beq i 6) (rg v 0 8) (cond (Nat.beq i 7) (rg v 0 8) (True)))))
def okO66 (i : Nat) (v : Int32) : Prop := cond (Nat.beq i 7) (rg v 0 24) (cond (Nat.beq i 8) (rg v 0 40) (True))
def okO67 (i : Nat) (v : Int32) : Prop := cond (Nat.beq i 8) (rg v 0 12) (True)
def okO68 (i : Nat) (v : Int32) : Prop := cond (Nat.beq i 4) (rg v 0 72) (True)
def okO70 (i : Nat) (v : Int32) : Prop := cond (Nat.beq i 7) (rg v 0 128) (True)
def okS (i : Nat) (v : Int32) : Prop := cond (Nat.beq i 1) (rg v 0 72) True
def okA (k i : Nat) (v : Int32) : Prop := cond (Nat.beq k 0) (okO0 i v) (cond (Nat.beq k 4) (rg v 0 1) (cond (Nat.beq k 5) (rn v 0 39) (cond (Nat.beq k 6) (rg v 0 3) (cond (Nat.beq k 7) (rg v 0 47) (cond (Nat.beq k 9) (rg v 0 47) (cond (Nat.beq k 10) (rg v 0 2) (cond (Nat.beq k 12) (rg v 0 8) (cond (Nat.beq k 13) (rg v 0 39) (cond (Nat.beq k 14) (rg v 0 2) (cond (Nat.beq k 16) (rg v 0 1) (cond (Nat.beq k 19) (rg v 0 1) (cond (Nat.beq k 20) (rg v 0 23) (cond (Nat.beq k 22) (rg v 0 1) (cond (Nat.beq k 23) (rn v 0 71) (cond (Nat.beq k 26) (rg v 0 50) (cond (Nat.beq k 27) (rg v 0 9) (cond (Nat.beq k 28) (rg v 0 8) (cond (Nat.beq k 29) (rg v 0 100) (cond (Nat.beq k 31) (rg v 0 1) (cond (Nat.beq k 33) (rg v 0 600) (cond (Nat.beq k 34) (rg v 0 1) (cond (Nat.beq k 35) (rn v 0 20) (cond (Nat.beq k 37) (rg v 0 120) (cond (Nat.beq k 39) (rg v 0 71) (cond (Nat.beq k 43) (rg v 0 2) (cond (Nat.beq k 44) (rg v 0 71) (cond (Nat.beq k 45) (rg v 0 1) (cond (Nat.beq k 46) (rg v 0 10) (cond (Nat.beq k 47) (rg v 0 10) (cond (Nat.beq k 48) (rg v 0 9) (cond (Nat.beq k 49) (rg v 0 10) (cond (Nat.beq k 50) (rg v 0 9) (cond (Nat.beq k 51) (rg v 0 3) (cond (Nat.beq k 52) (rg v 0 3) (cond (Nat.beq k 56) (rg v 0 25919) (cond (Nat.beq k 58) (rg v 0 10) (cond (Nat.beq k 60) (rg v 0 25919) (True))))))))))))))))))))))))))))))))))))))
def okB (k i : Nat) (v : Int32) : Prop := cond (Nat.beq k 62) (okO62 i v) (cond (Nat.beq k 63) (okO63 i v) (cond (Nat.beq k 64) (okO64 i v) (cond (Nat.beq k 66) (okO66 i v) (cond (Nat.beq k 67) (okO67 i v) (cond (Nat.beq k 68) (okO68 i v) (cond (Nat.beq k 70) (okO70 i v) (cond (Nat.beq k 79) (okS i v) (cond (Nat.beq k 81) (okS i v) (cond (Nat.beq k 82) (okS i v) (cond (Nat.beq k 83) (okS i v) (cond (Nat.beq k 84) (okS i v) (cond (Nat.beq k 85) (okS i v) (cond (Nat.beq k 86) (okS i v) (cond (Nat.beq k 87) (okS i v) (cond (Nat.beq k 88) (okS i v) (cond (Nat.beq k 96) (rg v 0 3) (cond (Nat.beq k 98) (rg v 0 1) (cond (Nat.beq k 99) (rg v 0 8) (cond (Nat.beq k 105) (rg v 0 1) (cond (Nat.beq k 123) (rg v 0 10) (cond (Nat.beq k 125) (rg v 0 10) (cond (Nat.beq k 127) (rg v 0 10) (True)))))))))))))))))))))))
def ok (k i : Nat) (v : Int32) : Prop := cond (Nat.ble k 60) (okA k i v) (okB k i v)
def RO (S : SS) : Prop := ∀ k i, ok k i (S.1 k i)
theorem RO.st {S T : SS} {k i : Nat} {v : Int32} (h : RO S) (hv : ok k i v) (e : T = st S k i v) : RO T := by
  subst e
  intro a b
  rw [st_at]
  by_cases ha : a = k
  · rw [if_pos ha]
    by_cases hb : b = i
    · rw [if_pos hb, ha, hb]; exact hv
    · rw [if_neg hb]; exact h a b
  · rw [if_neg ha]; exact h a b
/-- couplings: a place on a line for each THING; a coupling leads to the next one, and back -/
def ACw (n : Nat) (c : Nat → Int32) (pos : Nat → Int) (dir : Nat → Nat) : Prop := (∀ x, dir x < 2) ∧ ∀ x s : Nat, x < n → s < 2 → c (2 * x + s) = -4 ∨ ∃ o t : Nat, o < n ∧ t < 2 ∧ c (2 * x + s) = nI o ∧ c (2 * o + t) = nI x ∧ ((s = dir x ∧ pos o = pos x + 1) ∨ (s ≠ dir x ∧ pos o + 1 = pos x))
def AC (n : Nat) (c : Nat → Int32) : Prop := ∃ (pos : Nat → Int) (dir : Nat → Nat), ACw n c pos dir
/-- a kept world of the reference -/
def KO (n : Nat) (K : Nat → Int32) (s : Nat) : Prop := AC n (fun h => K (1161 * s + 15 * (h / 2) + (4 + h % 2))) ∧ (∀ x, x < 72 → rg (K (1161 * s + 15 * x + 1)) 0 23 ∧ rg (K (1161 * s + 15 * x + 3)) 0 1 ∧ rn (K (1161 * s + 15 * x + 4)) 0 71 ∧ rn (K (1161 * s + 15 * x + 5)) 0 71 ∧ rg (K (1161 * s + 15 * x + 8)) 0 50 ∧ rg (K (1161 * s + 15 * x + 9)) 0 9 ∧ rg (K (1161 * s + 15 * x + 13)) 0 600) ∧ (∀ p, p < 40 → rg (K (1161 * s + 1080 + 2 * p)) 0 2)
def J1 (S : SS) : Prop := ∃ n, n ≤ 72 ∧ S.1 0 29 = nI n ∧ AC n (S.1 23) ∧ ∃ u b, u + b ≤ 8 ∧ S.1 0 60 = nI u ∧ S.1 0 61 = nI b ∧ (∀ s, s < u → KO n (S.1 40) s) ∧ (∀ s, s < b → KO n (S.1 40) (8 + s))
def J2 (S : SS) : Prop := (S.1 64 6).toInt + (S.1 64 7).toInt ≤ 8
def J (S : SS) : Prop := J1 S ∧ J2 S
def jm (k i : Nat) : Bool := Nat.beq k 23 || Nat.beq k 40 || (Nat.beq k 0 && (Nat.beq i 29 || Nat.beq i 60 || Nat.beq i 61)) || (Nat.beq k 64 && (Nat.beq i 6 || Nat.beq i 7))
theorem J1.of {S T : SS} (h : J1 S) (e23 : ∀ b, T.1 23 b = S.1 23 b) (e40 : ∀ b, T.1 40 b = S.1 40 b) (e1 : T.1 0 29 = S.1 0 29) (e2 : T.1 0 60 = S.1 0 60) (e3 : T.1 0 61 = S.1 0 61) : J1 T := by
  have e23 : T.1 23 = S.1 23 := funext e23
  have e40 : T.1 40 = S.1 40 := funext e40
  unfold J1
  rw [e23, e40, e1, e2, e3]
  exact h
theorem J2.of {S T : SS} (h : J2 S) (e1 : T.1 64 6 = S.1 64 6) (e2 : T.1 64 7 = S.1 64 7) : J2 T := by
  unfold J2
  rw [e1, e2]
  exact h
theorem J.of {S T : SS} (h : J S) (e : ∀ a b, jm a b = true → T.1 a b = S.1 a b) : J T :=
  ⟨h.1.of (fun b => e 23 b rfl) (fun b => e 40 b rfl) (e 0 29 rfl) (e 0 60 rfl) (e 0 61 rfl), h.2.of (e 64 6 rfl) (e 64 7 rfl)⟩
def WR (S : SS) : Prop := RO S ∧ J S
theorem WR.st {S T : SS} {k i : Nat} {v : Int32} (h : WR S) (hv : ok k i v) (hj : jm k i = false) (e : T = st S k i v) : WR T := by
  refine ⟨h.1.st hv e, h.2.of (fun a b q => ?_)⟩
  subst e
  rw [st_at]
  by_cases ha : a = k
  · by_cases hb : b = i
    · rw [ha, hb, hj] at q; cases q
    · rw [if_pos ha, if_neg hb]
  · rw [if_neg ha]
theorem ro_0_5 {S : SS} (h : WR S) : rg (S.1 0 5) 0 200 := h.1 0 5
theorem wo_0_5 {S T : SS} {v : Int32} (h : WR S) (hv : rg v 0 200) (e : T = st S 0 5 v) : WR T := WR.st (k := 0) (i := 5) h hv rfl e
theorem ro_0_7 {S : SS} (h : WR S) : rg (S.1 0 7) 0 24 := h.1 0 7
theorem wo_0_7 {S T : SS} {v : Int32} (h : WR S) (hv : rg v 0 24) (e : T = st S 0 7 v) : WR T := WR.st (k := 0) (i := 7) h hv rfl e
theorem ro_0_15 {S : SS} (h : WR S) : rg (S.1 0 15) 0 40 := h.1 0 15
theorem wo_0_15 {S T : SS} {v : Int32} (h : WR S) (hv : rg v 0 40) (e : T = st S 0 15 v) : WR T := WR.st (k := 0) (i := 15) h hv rfl e
theorem ro_0_19 {S : SS} (h : WR S) : rg (S.1 0 19) 0 12 := h.1 0 19
theorem wo_0_19 {S T : SS} {v : Int32} (h : WR S) (hv : rg v 0 12) (e : T = st S 0 19 v) : WR T := WR.st (k := 0) (i := 19) h hv rfl e
theorem ro_0_26 {S : SS} (h : WR S) : rg (S.1 0 26) 0 23 := h.1 0 26
theorem wo_0_26 {S T : SS} {v : Int32} (h : WR S) (hv : rg v 0 23) (e : T = st S 0 26 v) : WR T := WR.st (k := 0) (i := 26) h hv rfl e
theorem ro_0_28 {S : SS} (h : WR S) : rg (S.1 0 28) 0 1 := h.1 0 28
theorem wo_0_28 {S T : SS} {v : Int32} (h : WR S) (hv : rg v 0 1) (e : T = st S 0 28 v) : WR T := WR.st (k := 0) (i := 28) h hv rfl e
theorem ro_0_29 {S : SS} (h : WR S) : rg (S.1 0 29) 0 72 := h.1 0 29
theorem ro_0_47 {S : SS} (h : WR S) : rg (S.1 0 47) 0 600 := h.1 0 47
theorem wo_0_47 {S T : SS} {v : Int32} (h : WR S) (hv : rg v 0 600) (e : T = st S 0 47 v) : WR T := WR.st (k := 0) (i := 47) h hv rfl e
theorem ro_0_54 {S : SS} (h : WR S) : rg (S.1 0 54) 0 1 := h.1 0 54
theorem wo_0_54 {S T : SS} {v : Int32} (h : WR S) (hv : rg v 0 1) (e : T = st S 0 54 v) : WR T := WR.st (k := 0) (i := 54) h hv rfl e
theorem ro_0_56 {S : SS} (h : WR S) : rg (S.1 0 56) 0 72 := h.1 0 56
theorem wo_0_56 {S T : SS} {v : Int32} (h : WR S) (hv : rg v 0 72) (e : T = st S 0 56 v) : WR T := WR.st (k := 0) (i := 56) h hv rfl e
theorem ro_0_57 {S : SS} (h : WR S) : rg (S.1 0 57) 0 1 := h.1 0 57
theorem wo_0_57 {S T : SS} {v : Int32} (h : WR S) (hv : rg v 0 1) (e : T = st S 0 57 v) : WR T := WR.st (k := 0) (i := 57) h hv rfl e
theorem ro_0_58 {S : SS} (h : WR S) : rg (S.1 0 58) 0 1 := h.1 0 58
theorem wo_0_58 {S T : SS} {v : Int32} (h : WR S) (hv : rg v 0 1) (e : T = st S 0 58 v) : WR T := WR.st (k := 0) (i := 58) h hv rfl e
theorem ro_0_60 {S : SS} (h : WR S) : rg (S.1 0 60) 0 8 := h.1 0 60
theorem ro_0_61 {S : SS} (h : WR S) : rg (S.1 0 61) 0 8 := h.1 0 61
theorem ro_0_62 {S : SS} (h : WR S) : rg (S.1 0 62) 0 600 := h.1 0 62
theorem wo_0_62 {S T : SS} {v : Int32} (h : WR S) (hv : rg v 0 600) (e : T = st S 0 62 v) : WR T := WR.st (k := 0) (i := 62) h hv rfl e
theorem ro_0_66 {S : SS} (h : WR S) : rg (S.1 0 66) 0 71 := h.1 0 66
theorem wo_0_66 {S T : SS} {v : Int32} (h : WR S) (hv : rg v 0 71) (e : T = st S 0 66 v) : WR T := WR.st (k := 0) (i := 66) h hv rfl e
theorem ro_0_67 {S : SS} (h : WR S) : rg (S.1 0 67) 0 1 := h.1 0 67
theorem wo_0_67 {S T : SS} {v : Int32} (h : WR S) (hv : rg v 0 1) (e : T = st S 0 67 v) : WR T := WR.st (k := 0) (i := 67) h hv rfl e
theorem ro_0_70 {S : SS} (h : WR S) : rg (S.1 0 70) 0 72 := h.1 0 70
theorem wo_0_70 {S T : SS} {v : Int32} (h : WR S) (hv : rg v 0 72) (e : T = st S 0 70 v) : WR T := WR.st (k := 0) (i := 70) h hv rfl e
theorem ro_0_77 {S : SS} (h : WR S) : rg (S.1 0 77) 0 399 := h.1 0 77
theorem wo_0_77 {S T : SS} {v : Int32} (h : WR S) (hv : rg v 0 399) (e : T = st S 0 77 v) : WR T := WR.st (k := 0) (i := 77) h hv rfl e
theorem ro_0_81 {S : SS} (h : WR S) : rg (S.1 0 81) 0 10 := h.1 0 81
theorem wo_0_81 {S T : SS} {v : Int32} (h : WR S) (hv : rg v 0 10) (e : T = st S 0 81 v) : WR T := WR.st (k := 0) (i := 81) h hv rfl e
theorem ro_62_2 {S : SS} (h : WR S) : rg (S.1 62 2) 0 200 := h.1 62 2
theorem wo_62_2 {S T : SS} {v : Int32} (h : WR S) (hv : rg v 0 200) (e : T = st S 62 2 v) : WR T := WR.st (k := 62) (i := 2) h hv rfl e
theorem ro_63_1 {S : SS} (h : WR S) : rg (S.1 63 1) 0 72 := h.1 63 1
theorem wo_63_1 {S T : SS} {v : Int32} (h : WR S) (hv : rg v 0 72) (e : T = st S 63 1 v) : WR T := WR.st (k := 63) (i := 1) h hv rfl e
theorem ro_64_3 {S : SS} (h : WR S) : rg (S.1 64 3) 0 7 := h.1 64 3
theorem wo_64_3 {S T : SS} {v : Int32} (h : WR S) (hv : rg v 0 7) (e : T = st S 64 3 v) : WR T := WR.st (k := 64) (i := 3) h hv rfl e
theorem ro_64_4 {S : SS} (h : WR S) : rg (S.1 64 4) 0 39 := h.1 64 4
theorem wo_64_4 {S T : SS} {v : Int32} (h : WR S) (hv : rg v 0 39) (e : T = st S 64 4 v) : WR T := WR.st (k := 64) (i := 4) h hv rfl e
theorem ro_64_5 {S : SS} (h : WR S) : rg (S.1 64 5) 0 40 := h.1 64 5
theorem wo_64_5 {S T : SS} {v : Int32} (h : WR S) (hv : rg v 0 40) (e : T = st S 64 5 v) : WR T := WR.st (k := 64) (i := 5) h hv rfl e
theorem ro_64_6 {S : SS} (h : WR S) : rg (S.1 64 6) 0 8 := h.1 64 6
theorem ro_64_7 {S : SS} (h : WR S) : rg (S.1 64 7) 0 8 := h.1 64 7
theorem ro_66_7 {S : SS} (h : WR S) : rg (S.1 66 7) 0 24 := h.1 66 7
theorem wo_66_7 {S T : SS} {v : Int32} (h : WR S) (hv : rg v 0 24) (e : T = st S 66 7 v) : WR T := WR.st (k := 66) (i := 7) h hv rfl e
theorem ro_66_8 {S : SS} (h : WR S) : rg (S.1 66 8) 0 40 := h.1 66 8
theorem wo_66_8 {S T : SS} {v : Int32} (h : WR S) (hv : rg v 0 40) (e : T = st S 66 8 v) : WR T := WR.st (k := 66) (i := 8) h hv rfl e
theorem ro_67_8 {S : SS} (h : WR S) : rg (S.1 67 8) 0 12 := h.1 67 8
theorem wo_67_8 {S T : SS} {v : Int32} (h : WR S) (hv : rg v 0 12) (e : T = st S 67 8 v) : WR T := WR.st (k := 67) (i := 8) h hv rfl e
theorem ro_68_4 {S : SS} (h : WR S) : rg (S.1 68 4) 0 72 := h.1 68 4
theorem wo_68_4 {S T : SS} {v : Int32} (h : WR S) (hv : rg v 0 72) (e : T = st S 68 4 v) : WR T := WR.st (k := 68) (i := 4) h hv rfl e
theorem ro_70_7 {S : SS} (h : WR S) : rg (S.1 70 7) 0 128 := h.1 70 7
theorem wo_70_7 {S T : SS} {v : Int32} (h : WR S) (hv : rg v 0 128) (e : T = st S 70 7 v) : WR T := WR.st (k := 70) (i := 7) h hv rfl e
theorem ro_4 {S : SS} (h : WR S) (i : Nat) : rg (S.1 4 i) 0 1 := h.1 4 i
theorem wo_4 {S T : SS} {i : Nat} {v : Int32} (h : WR S) (hv : rg v 0 1) (e : T = st S 4 i v) : WR T := WR.st (k := 4) h hv rfl e
theorem ro_5 {S : SS} (h : WR S) (i : Nat) : rn (S.1 5 i) 0 39 := h.1 5 i
theorem wo_5 {S T : SS} {i : Nat} {v : Int32} (h : WR S) (hv : rn v 0 39) (e : T = st S 5 i v) : WR T := WR.st (k := 5) h hv rfl e
theorem ro_6 {S : SS} (h : WR S) (i : Nat) : rg (S.1 6 i) 0 3 := h.1 6 i
theorem wo_6 {S T : SS} {i : Nat} {v : Int32} (h : WR S) (hv : rg v 0 3) (e : T = st S 6 i v) : WR T := WR.st (k := 6) h hv rfl e
theorem ro_7 {S : SS} (h : WR S) (i : Nat) : rg (S.1 7 i) 0 47 := h.1 7 i
theorem wo_7 {S T : SS} {i : Nat} {v : Int32} (h : WR S) (hv : rg v 0 47) (e : T = st S 7 i v) : WR T := WR.st (k := 7) h hv rfl e
theorem ro_9 {S : SS} (h : WR S) (i : Nat) : rg (S.1 9 i) 0 47 := h.1 9 i
theorem wo_9 {S T : SS} {i : Nat} {v : Int32} (h : WR S) (hv : rg v 0 47) (e : T = st S 9 i v) : WR T := WR.st (k := 9) h hv rfl e
theorem ro_10 {S : SS} (h : WR S) (i : Nat) : rg (S.1 10 i) 0 2 := h.1 10 i
theorem wo_10 {S T : SS} {i : Nat} {v : Int32} (h : WR S) (hv : rg v 0 2) (e : T = st S 10 i v) : WR T := WR.st (k := 10) h hv rfl e
theorem ro_12 {S : SS} (h : WR S) (i : Nat) : rg (S.1 12 i) 0 8 := h.1 12 i
theorem wo_12 {S T : SS} {i : Nat} {v : Int32} (h : WR S) (hv : rg v 0 8) (e : T = st S 12 i v) : WR T := WR.st (k := 12) h hv rfl e
theorem ro_13 {S : SS} (h : WR S) (i : Nat) : rg (S.1 13 i) 0 39 := h.1 13 i
theorem wo_13 {S T : SS} {i : Nat} {v : Int32} (h : WR S) (hv : rg v 0 39) (e : T = st S 13 i v) : WR T := WR.st (k := 13) h hv rfl e
theorem ro_14 {S : SS} (h : WR S) (i : Nat) : rg (S.1 14 i) 0 2 := h.1 14 i
theorem wo_14 {S T : SS} {i : Nat} {v : Int32} (h : WR S) (hv : rg v 0 2) (e : T = st S 14 i v) : WR T := WR.st (k := 14) h hv rfl e
theorem ro_16 {S : SS} (h : WR S) (i : Nat) : rg (S.1 16 i) 0 1 := h.1 16 i
theorem wo_16 {S T : SS} {i : Nat} {v : Int32} (h : WR S) (hv : rg v 0 1) (e : T = st S 16 i v) : WR T := WR.st (k := 16) h hv rfl e
theorem ro_19 {S : SS} (h : WR S) (i : Nat) : rg (S.1 19 i) 0 1 := h.1 19 i
theorem wo_19 {S T : SS} {i : Nat} {v : Int32} (h : WR S) (hv : rg v 0 1) (e : T = st S 19 i v) : WR T := WR.st (k := 19) h hv rfl e
theorem ro_20 {S : SS} (h : WR S) (i : Nat) : rg (S.1 20 i) 0 23 := h.1 20 i
theorem wo_20 {S T : SS} {i : Nat} {v : Int32} (h : WR S) (hv : rg v 0 23) (e : T = st S 20 i v) : WR T := WR.st (k := 20) h hv rfl e
theorem ro_22 {S : SS} (h : WR S) (i : Nat) : rg (S.1 22 i) 0 1 := h.1 22 i
theorem wo_22 {S T : SS} {i : Nat} {v : Int32} (h : WR S) (hv : rg v 0 1) (e : T = st S 22 i v) : WR T := WR.st (k := 22) h hv rfl e
theorem ro_23 {S : SS} (h : WR S) (i : Nat) : rn (S.1 23 i) 0 71 := h.1 23 i
theorem ro_26 {S : SS} (h : WR S) (i : Nat) : rg (S.1 26 i) 0 50 := h.1 26 i
theorem wo_26 {S T : SS} {i : Nat} {v : Int32} (h : WR S) (hv : rg v 0 50) (e : T = st S 26 i v) : WR T := WR.st (k := 26) h hv rfl e
theorem ro_27 {S : SS} (h : WR S) (i : Nat) : rg (S.1 27 i) 0 9 := h.1 27 i
theorem wo_27 {S T : SS} {i : Nat} {v : Int32} (h : WR S) (hv : rg v 0 9) (e : T = st S 27 i v) : WR T := WR.st (k := 27) h hv rfl e
theorem ro_28 {S : SS} (h : WR S) (i : Nat) : rg (S.1 28 i) 0 8 := h.1 28 i
theorem wo_28 {S T : SS} {i : Nat} {v : Int32} (h : WR S) (hv : rg v 0 8) (e : T = st S 28 i v) : WR T := WR.st (k := 28) h hv rfl e
theorem ro_29 {S : SS} (h : WR S) (i : Nat) : rg (S.1 29 i) 0 100 := h.1 29 i
theorem wo_29 {S T : SS} {i : Nat} {v : Int32} (h : WR S) (hv : rg v 0 100) (e : T = st S 29 i v) : WR T := WR.st (k := 29) h hv rfl e
theorem ro_31 {S : SS} (h : WR S) (i : Nat) : rg (S.1 31 i) 0 1 := h.1 31 i
theorem wo_31 {S T : SS} {i : Nat} {v : Int32} (h : WR S) (hv : rg v 0 1) (e : T = st S 31 i v) : WR T := WR.st (k := 31) h hv rfl e
theorem ro_33 {S : SS} (h : WR S) (i : Nat) : rg (S.1 33 i) 0 600 := h.1 33 i
theorem wo_33 {S T : SS} {i : Nat} {v : Int32} (h : WR S) (hv : rg v 0 600) (e : T = st S 33 i v) : WR T := WR.st (k := 33) h hv rfl e
theorem ro_34 {S : SS} (h : WR S) (i : Nat) : rg (S.1 34 i) 0 1 := h.1 34 i
theorem wo_34 {S T : SS} {i : Nat} {v : Int32} (h : WR S) (hv : rg v 0 1) (e : T = st S 34 i v) : WR T := WR.st (k := 34) h hv rfl e
theorem ro_35 {S : SS} (h : WR S) (i : Nat) : rn (S.1 35 i) 0 20 := h.1 35 i
theorem wo_35 {S T : SS} {i : Nat} {v : Int32} (h : WR S) (hv : rn v 0 20) (e : T = st S 35 i v) : WR T := WR.st (k := 35) h hv rfl e
theorem ro_37 {S : SS} (h : WR S) (i : Nat) : rg (S.1 37 i) 0 120 := h.1 37 i
theorem wo_37 {S T : SS} {i : Nat} {v : Int32} (h : WR S) (hv : rg v 0 120) (e : T = st S 37 i v) : WR T := WR.st (k := 37) h hv rfl e
theorem ro_39 {S : SS} (h : WR S) (i : Nat) : rg (S.1 39 i) 0 71 := h.1 39 i
theorem wo_39 {S T : SS} {i : Nat} {v : Int32} (h : WR S) (hv : rg v 0 71) (e : T = st S 39 i v) : WR T := WR.st (k := 39) h hv rfl e
theorem ro_43 {S : SS} (h : WR S) (i : Nat) : rg (S.1 43 i) 0 2 := h.1 43 i
theorem wo_43 {S T : SS} {i : Nat} {v : Int32} (h : WR S) (hv : rg v 0 2) (e : T = st S 43 i v) : WR T := WR.st (k := 43) h hv rfl e
theorem ro_44 {S : SS} (h : WR S) (i : Nat) : rg (S.1 44 i) 0 71 := h.1 44 i
theorem wo_44 {S T : SS} {i : Nat} {v : Int32} (h : WR S) (hv : rg v 0 71) (e : T = st S 44 i v) : WR T := WR.st (k := 44) h hv rfl e
theorem ro_45 {S : SS} (h : WR S) (i : Nat) : rg (S.1 45 i) 0 1 := h.1 45 i
theorem wo_45 {S T : SS} {i : Nat} {v : Int32} (h : WR S) (hv : rg v 0 1) (e : T = st S 45 i v) : WR T := WR.st (k := 45) h hv rfl e
theorem ro_46 {S : SS} (h : WR S) (i : Nat) : rg (S.1 46 i) 0 10 := h.1 46 i
theorem wo_46 {S T : SS} {i : Nat} {v : Int32} (h : WR S) (hv : rg v 0 10) (e : T = st S 46 i v) : WR T := WR.st (k := 46) h hv rfl e
theorem ro_47 {S : SS} (h : WR S) (i : Nat) : rg (S.1 47 i) 0 10 := h.1 47 i
theorem wo_47 {S T : SS} {i : Nat} {v : Int32} (h : WR S) (hv : rg v 0 10) (e : T = st S 47 i v) : WR T := WR.st (k := 47) h hv rfl e
theorem ro_48 {S : SS} (h : WR S) (i : Nat) : rg (S.1 48 i) 0 9 := h.1 48 i
theorem wo_48 {S T : SS} {i : Nat} {v : Int32} (h : WR S) (hv : rg v 0 9) (e : T = st S 48 i v) : WR T := WR.st (k := 48) h hv rfl e
theorem ro_49 {S : SS} (h : WR S) (i : Nat) : rg (S.1 49 i) 0 10 := h.1 49 i
theorem wo_49 {S T : SS} {i : Nat} {v : Int32} (h : WR S) (hv : rg v 0 10) (e : T = st S 49 i v) : WR T := WR.st (k := 49) h hv rfl e
theorem ro_50 {S : SS} (h : WR S) (i : Nat) : rg (S.1 50 i) 0 9 := h.1 50 i
theorem wo_50 {S T : SS} {i : Nat} {v : Int32} (h : WR S) (hv : rg v 0 9) (e : T = st S 50 i v) : WR T := WR.st (k := 50) h hv rfl e
theorem ro_51 {S : SS} (h : WR S) (i : Nat) : rg (S.1 51 i) 0 3 := h.1 51 i
theorem wo_51 {S T : SS} {i : Nat} {v : Int32} (h : WR S) (hv : rg v 0 3) (e : T = st S 51 i v) : WR T := WR.st (k := 51) h hv rfl e
theorem ro_52 {S : SS} (h : WR S) (i : Nat) : rg (S.1 52 i) 0 3 := h.1 52 i
theorem wo_52 {S T : SS} {i : Nat} {v : Int32} (h : WR S) (hv : rg v 0 3) (e : T = st S 52 i v) : WR T := WR.st (k := 52) h hv rfl e
theorem ro_56 {S : SS} (h : WR S) (i : Nat) : rg (S.1 56 i) 0 25919 := h.1 56 i
theorem wo_56 {S T : SS} {i : Nat} {v : Int32} (h : WR S) (hv : rg v 0 25919) (e : T = st S 56 i v) : WR T := WR.st (k := 56) h hv rfl e
theorem ro_58 {S : SS} (h : WR S) (i : Nat) : rg (S.1 58 i) 0 10 := h.1 58 i
theorem wo_58 {S T : SS} {i : Nat} {v : Int32} (h : WR S) (hv : rg v 0 10) (e : T = st S 58 i v) : WR T := WR.st (k := 58) h hv rfl e
theorem ro_60 {S : SS} (h : WR S) (i : Nat) : rg (S.1 60 i) 0 25919 := h.1 60 i
theorem wo_60 {S T : SS} {i : Nat} {v : Int32} (h : WR S) (hv : rg v 0 25919) (e : T = st S 60 i v) : WR T := WR.st (k := 60) h hv rfl e
theorem ro_96 {S : SS} (h : WR S) (i : Nat) : rg (S.1 96 i) 0 3 := h.1 96 i
theorem wo_96 {S T : SS} {i : Nat} {v : Int32} (h : WR S) (hv : rg v 0 3) (e : T = st S 96 i v) : WR T := WR.st (k := 96) h hv rfl e
theorem ro_98 {S : SS} (h : WR S) (i : Nat) : rg (S.1 98 i) 0 1 := h.1 98 i
theorem wo_98 {S T : SS} {i : Nat} {v : Int32} (h : WR S) (hv : rg v 0 1) (e : T = st S 98 i v) : WR T := WR.st (k := 98) h hv rfl e
theorem ro_99 {S : SS} (h : WR S) (i : Nat) : rg (S.1 99 i) 0 8 := h.1 99 i
theorem wo_99 {S T : SS} {i : Nat} {v : Int32} (h : WR S) (hv : rg v 0 8) (e : T = st S 99 i v) : WR T := WR.st (k := 99) h hv rfl e
theorem ro_105 {S : SS} (h : WR S) (i : Nat) : rg (S.1 105 i) 0 1 := h.1 105 i
theorem wo_105 {S T : SS} {i : Nat} {v : Int32} (h : WR S) (hv : rg v 0 1) (e : T = st S 105 i v) : WR T := WR.st (k := 105) h hv rfl e
theorem ro_123 {S : SS} (h : WR S) (i : Nat) : rg (S.1 123 i) 0 10 := h.1 123 i
theorem wo_123 {S T : SS} {i : Nat} {v : Int32} (h : WR S) (hv : rg v 0 10) (e : T = st S 123 i v) : WR T := WR.st (k := 123) h hv rfl e
theorem ro_125 {S : SS} (h : WR S) (i : Nat) : rg (S.1 125 i) 0 10 := h.1 125 i
theorem wo_125 {S T : SS} {i : Nat} {v : Int32} (h : WR S) (hv : rg v 0 10) (e : T = st S 125 i v) : WR T := WR.st (k := 125) h hv rfl e
theorem ro_127 {S : SS} (h : WR S) (i : Nat) : rg (S.1 127 i) 0 10 := h.1 127 i
theorem wo_127 {S T : SS} {i : Nat} {v : Int32} (h : WR S) (hv : rg v 0 10) (e : T = st S 127 i v) : WR T := WR.st (k := 127) h hv rfl e
