/-! ===== decode's digits ===== -/
theorem nI_ti {a : Nat} (h : a < 2 ^ 31) : (nI a).toInt = (a : Int) := Int32.toInt_ofNat_of_lt h
theorem nI_div {a b : Nat} (ha : a < 2 ^ 31) (hb : b < 2 ^ 31) (h0 : 0 < b) : nI a / nI b = nI (a / b) := by
  apply Int32.toInt_inj.mp
  have h1 := nI_ti ha
  have h2 := nI_ti hb
  have h3 : a / b < 2 ^ 31 := Nat.lt_of_le_of_lt (Nat.div_le_self _ _) ha
  rw [dv_toInt h2 (by omega) (by rw [h1]; omega), h1, nI_ti h3]
  exact (Int.natCast_ediv a b).symm
theorem nI_rem {a b : Nat} (ha : a < 2 ^ 31) (hb : b < 2 ^ 31) (h0 : 0 < b) : nI a - nI a / nI b * nI b = nI (a % b) := by
  apply Int32.toInt_inj.mp
  have h1 := nI_ti ha
  have h2 := nI_ti hb
  have h3 : a % b < 2 ^ 31 := Nat.lt_trans (Nat.mod_lt _ h0) hb
  rw [rm_toInt h2 (by omega) (by rw [h1]; omega), h1, nI_ti h3]
  exact (Int.natCast_emod a b).symm
/-- what is left of a number of an order after j digits -/
def rsA (L : Nat) : Nat → Nat
  | 0 => L
  | j + 1 => rsA L j / (j + 1)
theorem rsA_le (L : Nat) : ∀ j, rsA L j ≤ L
  | 0 => Nat.le_refl _
  | j + 1 => Nat.le_trans (Nat.div_le_self _ _) (rsA_le L j)
/-- the digit of place i -/
def dgA (n L i : Nat) : Nat := rsA L (n - 1 - i) % (n - i)
theorem nI_nz {a : Nat} (ha : a < 2 ^ 31) (h0 : 0 < a) : (!(decide (nI a = 0))) = true := by
  have : ¬ nI a = nI 0 := fun q => by
    have := (nI_eq (a := a) (b := 0) (by omega) (by omega)).mp q
    omega
  rw [decide_eq_false (p := nI a = 0) this]
  rfl
theorem de_L84 {S : SS} {P : SS → Prop} {n L : Nat} (h81 : S.1 0 81 = nI n) (hn : n ≤ 5) (hL : L < 1000) (hk : ∀ U, WR U → Fr [59] [] S U → (∀ i, i < n → U.1 59 i = nI (dgA n L i)) → Ew (f_M_decode_L133 NF 0 0 0 0 U) P) : ∀ (N j : Nat) (x : Int32) (T : SS), WR T → Fr [59] [] S T → ((j = n ∧ x = -1) ∨ (j < n ∧ x = nI (n - 1 - j))) → (∀ i, n - j ≤ i → i < n → T.1 59 i = nI (dgA n L i)) → n < N + j → Ew (f_M_decode_L84 N (nI (rsA L j)) x T) P
  | 0, j, x, T, hW, hF, hx, hd, hN => by omega
  | N + 1, j, x, T, hW, hF, hx, hd, hN => by
    refine v_eq (f_M_decode_L84.eq_2 _ _ _ _) ?_
    rcases hx with ⟨e, rfl⟩ | ⟨e, rfl⟩
    · refine v_t (by decide) ?_
      exact hk T hW hF (fun i hi => hd i (by omega) hi)
    · have hl := rsA_le L j
      refine v_f (nI_pos (by omega)) ?_
      have e1 : T.1 0 81 - nI (n - 1 - j) = nI (j + 1) := by
        rw [hF.1 0 81 rfl, h81, nI_sb (by omega) (by omega)]
        exact congrArg nI (by omega)
      rw [e1]
      refine v_grd (nI_nz (by omega) (by omega)) ?_
      refine v_grd (inb_nI (by omega) (by omega)) ?_
      rw [nI_clamp (n := n - 1 - j) (by omega), nI_rem (a := rsA L j) (b := j + 1) (by omega) (by omega) (by omega)]
      refine v_wrA (fun U eU gU vU => ?_)
      have hW1 := WR.st (k := 59) hW trivial rfl eU
      have e2 : U.1 0 81 - nI (n - 1 - j) = nI (j + 1) := by rw [gU.1 0 81 rfl]; exact e1
      rw [e2]
      refine v_grd (nI_nz (by omega) (by omega)) ?_
      refine v_nm ?_
      refine v_nm ?_
      rw [nI_div (a := rsA L j) (b := j + 1) (by omega) (by omega) (by omega)]
      refine de_L84 h81 hn hL hk N (j + 1) _ U hW1 (hF.tr gU rfl) ?_ (fun i h1 h2 => ?_) (by omega)
      · by_cases c : j + 1 = n
        · refine Or.inl ⟨c, ?_⟩
          rw [show n - 1 - j = 0 by omega]
          decide
        · refine Or.inr ⟨by omega, ?_⟩
          have q : nI (n - 1 - j) - nI 1 = nI (n - 1 - j) + (-1 : Int32) := by
            rw [Int32.sub_eq_add_neg, show -(nI 1) = (-1 : Int32) by decide]
          rw [← q, nI_sb (by omega) (by omega)]
          exact congrArg nI (by omega)
      · rw [eU, st_at]
        by_cases c : i = n - 1 - j
        · rw [if_pos rfl, if_pos c]
          unfold dgA
          rw [show n - 1 - i = j by omega, show n - i = j + 1 by omega]
        · rw [if_pos rfl, if_neg c]
          exact hd i (by omega) h2
/-! ===== the numbers of the orders: pure ===== -/
/-- the ranks that decode lays, and what it has used ahead of each -/
def chU (n L : Nat) : Nat → Nat
  | 0 => 0
  | i + 1 => chU n L i ||| 2 ^ ((pk (chU n L i) 5 (dgA n L i) 0).getD 9)
def chP (n L i : Nat) : Nat := (pk (chU n L i) 5 (dgA n L i) 0).getD 9
def fcN : Nat → Nat
  | 0 => 1
  | n + 1 => (n + 1) * fcN n
def chOk (n L : Nat) : Bool := (List.range n).all (fun i => decide (chU n L i < 32) && decide (chP n L i < n) && decide (pk (chU n L i) 5 (dgA n L i) 0 = some (chP n L i)) && decide (dgA n L i ≤ 5)) && decide (leh (chP n L) n n 0 0 = L) && (List.range n).all (fun i => (List.range n).all (fun j => i == j || !(chP n L i == chP n L j)))
theorem chOk_all : ((List.range 6).all (fun n => (List.range (fcN n)).all (fun L => chOk n L))) = true := by decide +kernel
