/-! ===== small rows for the walks by hand ===== -/
theorem rgt (x : Int32) : rg x (-2147483648) 2147483647 := ⟨by have := x.le_toInt; omega, by have := x.toInt_lt; omega⟩
theorem nz_h {x : Int32} (h : ¬ x = 0) : (!(decide (x = 0))) = true := by simp [h]
theorem lm_tr {S T : SS} {x : Int32} (h : ¬ S.1 0 29 ≤ x) (e : T.1 0 29 = S.1 0 29) : ¬ T.1 0 29 ≤ x := by rw [e]; exact h
theorem fr_nil {S T : SS} (h : Fr [] [] S T) : T = S := Prod.ext (funext fun a => funext fun b => h.1 a b rfl) h.2
theorem clamp_toInt {x : Int32} (h : 0 ≤ x.toInt) : (x.toNatClampNeg : Int) = x.toInt := by
  show ((x.toInt.toNat : Nat) : Int) = _
  omega
theorem st_i1 {S T : SS} {k : Nat} {x u : Int32} {a b : Int} (e : T = st S k x.toNatClampNeg u) (h : rg x a b) (q : decide (2 ≤ a) = true) : T.1 k (1 : Int32).toNatClampNeg = S.1 k (1 : Int32).toNatClampNeg := by
  have q := of_decide_eq_true q
  have h1 := h.1
  have h2 := clamp_toInt (x := x) (by omega)
  have h3 : (1 : Int32).toNatClampNeg = 1 := by decide
  subst e
  rw [st_at, if_pos rfl, if_neg (by rw [h3]; omega)]
theorem okS_g {x v : Int32} {a b : Int} (h : rg x a b) (q : decide (2 ≤ a) = true) : okS x.toNatClampNeg v := by
  have q := of_decide_eq_true q
  have h1 := h.1
  have h2 := clamp_toInt (x := x) (by omega)
  have h3 : Nat.beq x.toNatClampNeg 1 = false := by
    cases e : Nat.beq x.toNatClampNeg 1 with
    | false => rfl
    | true =>
      have := Nat.eq_of_beq_eq_true e
      omega
  unfold okS
  rw [h3]
  trivial
theorem wo_79_1 {S T : SS} {v : Int32} (h : WR S) (hv : rg v 0 72) (e : T = st S 79 (1 : Int32).toNatClampNeg v) : WR T := by
  rw [show (1 : Int32).toNatClampNeg = 1 by decide] at e
  exact WR.st (k := 79) (i := 1) h hv rfl e
theorem wo_79_0 {S T : SS} {v : Int32} (h : WR S) (e : T = st S 79 (0 : Int32).toNatClampNeg v) : WR T := by
  rw [show (0 : Int32).toNatClampNeg = 0 by decide] at e
  exact WR.st (k := 79) (i := 0) h trivial rfl e
theorem st_ix {S T : SS} {k : Nat} {x y u : Int32} {a b c d : Int} (e : T = st S k x.toNatClampNeg u) (h : ¬ x = y) (hx : rg x a b) (hy : rg y c d) (q : decide (0 ≤ a ∧ 0 ≤ c) = true) : T.1 k y.toNatClampNeg = S.1 k y.toNatClampNeg := by
  have q := of_decide_eq_true q
  have h1 := hx.1; have h2 := hy.1
  have e1 := clamp_toInt (x := x) (by omega)
  have e2 := clamp_toInt (x := y) (by omega)
  rw [← Int32.toInt_inj] at h
  subst e
  rw [st_at, if_pos rfl, if_neg (by omega)]
theorem dn_sp {x z : Int32} {a b B : Int} {n : Nat} (h : rg x a b) (hz : z = x + (-1)) (m : x.toInt - B < ((n + 1 : Nat) : Int)) (e : decide (-2147483647 ≤ a ∧ b ≤ 2147483647) = true) : z.toInt - B < (n : Int) := by
  have e := of_decide_eq_true e
  have h1 := h.1; have h2 := h.2
  have e1 : (-1 : Int32).toInt = -1 := by decide
  rw [hz, Int32.toInt_add, e1, bm (by omega) (by omega)]
  omega
theorem rg_nI {j : Nat} {a b : Int} (h1 : a ≤ j) (h2 : (j : Int) ≤ b) (h3 : j < 2 ^ 31) : rg (nI j) a b := ⟨by rw [nI_toInt h3]; exact h1, by rw [nI_toInt h3]; exact h2⟩
theorem rg_ex {x : Int32} {a b : Int} (h : rg x a b) (h0 : 0 ≤ a) : ∃ j : Nat, x = nI j ∧ a ≤ j ∧ (j : Int) ≤ b ∧ j < 2 ^ 31 := by
  obtain ⟨j, hj, rfl⟩ := nI_of (x := x) (by rw [Int32.lt_iff_toInt_lt, Int32.toInt_zero]; have := h.1; omega)
  have h1 := h.1; have h2 := h.2
  rw [nI_toInt hj] at h1 h2
  exact ⟨j, rfl, h1, h2, hj⟩
theorem n2 (x s : Nat) : (2 : Int32) * nI x + nI s = nI (2 * x + s) := by
  rw [show (2 : Int32) * nI x = nI (2 * x) from nI_mul 2 x, nI_add]
theorem nI_m4 {j : Nat} (h : j < 2 ^ 31) : ¬ nI j = -4 := fun e => nI_pos h (by rw [e]; decide)
theorem n1m {t : Nat} (h : t < 2) : (1 : Int32) - nI t = nI (1 - t) := by
  rcases (show t = 0 ∨ t = 1 by omega) with rfl | rfl <;> decide
/-- counting -/
def cn (P : Nat → Bool) : Nat → Nat
  | 0 => 0
  | k + 1 => cn P k + (if P k = true then 1 else 0)
theorem cn_le (P : Nat → Bool) : ∀ n, cn P n ≤ n
  | 0 => Nat.le_refl _
  | n + 1 => by
    have := cn_le P n
    simp only [cn]
    split <;> omega
theorem cn_mono {P Q : Nat → Bool} : ∀ n, (∀ i, i < n → P i = true → Q i = true) → cn P n ≤ cn Q n
  | 0, _ => Nat.le_refl _
  | n + 1, h => by
    have h1 := cn_mono n (fun i hi => h i (by omega))
    have h2 := h n (by omega)
    simp only [cn]
    by_cases p : P n = true
    · rw [if_pos p, if_pos (h2 p)]; omega
    · rw [if_neg p]; split <;> omega
theorem cn_lt {P Q : Nat → Bool} : ∀ n, (∀ i, i < n → P i = true → Q i = true) → ∀ j, j < n → ¬ P j = true → Q j = true → cn P n < cn Q n
  | 0, _, j, hj, _, _ => by omega
  | n + 1, h, j, hj, hp, hq => by
    simp only [cn]
    by_cases e : j = n
    · subst e
      have h1 := cn_mono j (fun i hi => h i (by omega))
      rw [if_neg hp, if_pos hq]; omega
    · have h1 := cn_lt n (fun i hi => h i (by omega)) j (by omega) hp hq
      have h2 := h n (by omega)
      by_cases p : P n = true
      · rw [if_pos p, if_pos (h2 p)]; omega
      · rw [if_neg p]; split <;> omega
theorem cn_ltn {P : Nat → Bool} {n j : Nat} (hj : j < n) (hp : ¬ P j = true) : cn P n + 1 ≤ n := by
  have h1 := cn_lt (P := P) (Q := fun _ => true) n (fun _ _ _ => rfl) j hj hp rfl
  have h2 := cn_le (fun _ => true) n
  omega
/-! ===== couplings ===== -/
theorem ACw.flip {n : Nat} {c : Nat → Int32} {pos : Nat → Int} {dir : Nat → Nat} (h : ACw n c pos dir) : ACw n c (fun x => - pos x) (fun x => 1 - dir x) := by
  refine ⟨fun x => by have := h.1 x; show 1 - dir x < 2; omega, fun x s hx hs => ?_⟩
  have hd := h.1 x
  rcases h.2 x s hx hs with q | ⟨o, t, ho, ht, e1, e2, q⟩
  · exact Or.inl q
  · refine Or.inr ⟨o, t, ho, ht, e1, e2, ?_⟩
    rcases q with ⟨q1, q2⟩ | ⟨q1, q2⟩
    · exact Or.inr ⟨by show s ≠ 1 - dir x; omega, by show - pos o + 1 = - pos x; omega⟩
    · exact Or.inl ⟨by show s = 1 - dir x; omega, by show - pos o = - pos x + 1; omega⟩
/-- over a coupling, and which side looks back -/
theorem ac_next {n : Nat} {c : Nat → Int32} {pos : Nat → Int} {dir : Nat → Nat} (h : ACw n c pos dir) (hn : n ≤ 72) {x s : Nat} (hx : x < n) (hs : s < 2) (q : ¬ c (2 * x + s) = -4) : ∃ o t : Nat, o < n ∧ t < 2 ∧ c (2 * x + s) = nI o ∧ c (2 * o + t) = nI x ∧ (c (2 * o) = nI x ↔ t = 0) ∧ (s = dir x → pos o = pos x + 1 ∧ 1 - t = dir o) := by
  rcases h.2 x s hx hs with e | ⟨o, t, ho, ht, e1, e2, p⟩
  · exact absurd e q
  · have hd := h.1 o
    have key : ∀ t', t' < 2 → c (2 * o + t') = nI x → ((t' = dir o ∧ pos x = pos o + 1) ∨ (t' ≠ dir o ∧ pos x + 1 = pos o)) := by
      intro t' ht' e
      rcases h.2 o t' ho ht' with f | ⟨x', t'', hx', ht'', f1, f2, f⟩
      · exact absurd (e.symm.trans f) (nI_m4 (by omega))
      · have : x = x' := (nI_eq (by omega) (by omega)).mp (e.symm.trans f1)
        subst this
        exact f
    have k1 := key t ht e2
    refine ⟨o, t, ho, ht, e1, e2, ⟨fun e0 => ?_, fun e0 => ?_⟩, fun es => ?_⟩
    · have k0 := key 0 (by omega) e0
      rcases (show t = 0 ∨ t = 1 by omega) with r | r
      · exact r
      · subst r; omega
    · subst e0; exact e2
    · rcases p with ⟨p1, p2⟩ | ⟨p1, p2⟩
      · refine ⟨p2, ?_⟩
        rcases k1 with k1 | k1 <;> omega
      · exact absurd es p1
def gp (pos : Nat → Int) (n : Nat) (p : Int) : Nat := cn (fun y => decide (p < pos y)) n
theorem gp_lt {pos : Nat → Int} {n o : Nat} {p : Int} (ho : o < n) (e : pos o = p + 1) : gp pos n (pos o) < gp pos n p :=
  cn_lt n (fun i _ q => by simp at q ⊢; omega) o ho (by simp) (by simp; omega)
theorem gp_n {pos : Nat → Int} {n x : Nat} (hx : x < n) : gp pos n (pos x) + 1 ≤ n := cn_ltn hx (by simp)
/-- a row of THINGS that holds all that its THINGS are coupled to -/
def LU (n : Nat) (c : Nat → Int32) (m : Nat) (r : Nat → Int32) : Prop := ∀ k, k < m → ∃ y, y < n ∧ r k = nI y ∧ ∀ d, d < 2 → c (2 * y + d) = -4 ∨ ∃ k', k' < m ∧ c (2 * y + d) = r k'
def RW (n : Nat) (c : Nat → Int32) (m x s : Nat) (r : Nat → Int32) : Prop := (∀ k, k < m → ∃ y, y < n ∧ r k = nI y ∧ (k + 1 < m → ∀ d, d < 2 → c (2 * y + d) = -4 ∨ ∃ k', k' < m ∧ c (2 * y + d) = r k')) ∧ r (m - 1) = nI x ∧ (c (2 * x + (1 - s)) = -4 ∨ ∃ k', k' < m ∧ c (2 * x + (1 - s)) = r k')
theorem sideTo_s {S : SS} {c : Nat → Int32} {o x t : Nat} (hc : S.1 23 = c) (ho : o < 72) (ht : t < 2) (h : c (2 * o) = nI x ↔ t = 0) : f_M_sideTo (nI o) (nI x) S = some (nI t, S) := by
  rw [f_M_sideTo.eq_1, show (2 : Int32) * nI o = nI (2 * o) from nI_mul 2 o, inb_nI (by omega) (by omega), nI_clamp (by omega), hc]
  rcases (show t = 0 ∨ t = 1 by omega) with r | r
  · subst r
    rw [if_pos (h.mpr rfl)]; rfl
  · subst r
    rw [if_neg (fun e => by have := h.mp e; omega)]; rfl
set_option maxHeartbeats 1000000 in
theorem lu81 {n : Nat} {c : Nat → Int32} {pos : Nat → Int} {dir : Nat → Nat} (hn : n ≤ 72) (hc : ACw n c pos dir) {S0 : SS} : ∀ (N m x s : Nat) (S : SS), WR S → S.1 23 = c → S.1 0 56 = nI m → 1 ≤ m → x < n → s < 2 → s = dir x → m + gp pos n (pos x) ≤ n → gp pos n (pos x) < N → RW n c m x s (S.1 39) → Fr [39] [(0, 56), (0, 57), (0, 58)] S0 S → Ew (f_M_lineUp_L81 N (nI x) (nI s) S) (fun U => WR U ∧ Fr [39] [(0, 56), (0, 57), (0, 58)] S0 U ∧ ∃ m', m ≤ m' ∧ m' ≤ n ∧ U.1 0 56 = nI m' ∧ LU n c m' (U.1 39) ∧ ∀ k, k < m → U.1 39 k = S.1 39 k)
  | 0, m, x, s, S, hW, h23, h56, hm, hx, hs, hd, hg, hN, hR, hF => by omega
  | N + 1, m, x, s, S, hW, h23, h56, hm, hx, hs, hd, hg, hN, hR, hF => by
    refine v_eq (f_M_lineUp_L81.eq_2 _ _ _ _) ?_
    rw [n2, nI_clamp (by omega), h23]
    refine v_grd (inb_nI (by omega) (by omega)) ?_
    obtain ⟨R1, R2, R3⟩ := hR
    refine v_i (fun q => ?_) (fun q => ?_)
    · refine v_wrO (fun T eT hT vT => ?_)
      have e39 : T.1 39 = S.1 39 := funext fun b => hT.1 39 b rfl
      refine v_some ⟨wo_0_58 hW (rg_nI (by omega) (by omega) (by omega)) eT, hF.tr hT rfl, m, Nat.le_refl _, by omega, (hT.1 0 56 rfl).trans h56, ?_, fun k _ => by rw [e39]⟩
      rw [e39]
      intro k hk
      obtain ⟨y, hy, e1, e2⟩ := R1 k hk
      refine ⟨y, hy, e1, fun d hd2 => ?_⟩
      by_cases hk2 : k + 1 < m
      · exact e2 hk2 d hd2
      · have hk3 : k = m - 1 := by omega
        subst hk3
        have : y = x := (nI_eq (by omega) (by omega)).mp (e1.symm.trans R2)
        subst this
        by_cases hds : d = s
        · subst hds; exact Or.inl q
        · have : d = 1 - s := by omega
          subst this; exact R3
    · obtain ⟨o, t, ho, ht, e1, e2, e3, e4⟩ := ac_next hc hn hx hs q
      obtain ⟨e5, e6⟩ := e4 hd
      have hgl := gp_lt (pos := pos) ho e5
      refine v_grd (inb_nI (by omega) (by omega)) ?_
      refine v_nm ?_
      rw [e1, sideTo_s h23 (by omega) ht e3, bnd_r]
      refine v_nm ?_
      rw [n1m ht, h56]
      refine v_grd (inb_nI (by omega) (by omega)) ?_
      rw [nI_clamp (by omega)]
      refine v_wrA (fun T eT hT vT => ?_)
      have hW1 := wo_39 hW (rg_nI (j := o) (by omega) (by omega) (by omega)) eT
      have h56a : T.1 0 56 = nI m := (hT.1 0 56 rfl).trans h56
      refine v_wrO (fun U eU hU vU => ?_)
      rw [h56a, nI_1] at eU vU
      have hW2 := wo_0_56 hW1 (rg_nI (j := m + 1) (by omega) (by omega) (by omega)) eU
      have e39 : U.1 39 = T.1 39 := funext fun b => hU.1 39 b rfl
      have t39 : ∀ k, k < m → T.1 39 k = S.1 39 k := fun k hk => by
        rw [eT, st_at, if_pos rfl, if_neg (by omega)]
      have r39 : ∀ k, k < m → U.1 39 k = S.1 39 k := fun k hk => by rw [e39]; exact t39 k hk
      have rm : U.1 39 m = nI o := by rw [e39]; exact vT
      have h23' : U.1 23 = c := by
        rw [← h23]; funext b; rw [hU.1 23 b rfl, hT.1 23 b rfl]
      refine v_mono (lu81 hn hc N (m + 1) o (1 - t) U hW2 h23' vU (by omega) ho (by omega) e6 (by omega) (by omega) ?_ ((hF.tr hT rfl).tr hU rfl)) (fun V hV => ?_)
      · refine ⟨fun k hk => ?_, by rw [Nat.add_sub_cancel]; exact rm, ?_⟩
        · by_cases hkm : k = m
          · subst hkm
            exact ⟨o, ho, rm, fun h => by omega⟩
          · obtain ⟨y, hy, f1, f2⟩ := R1 k (by omega)
            refine ⟨y, hy, (r39 k (by omega)).trans f1, fun _ d hd2 => ?_⟩
            by_cases hk2 : k + 1 < m
            · rcases f2 hk2 d hd2 with f | ⟨k', hk', f⟩
              · exact Or.inl f
              · exact Or.inr ⟨k', by omega, by rw [r39 k' hk']; exact f⟩
            · have hk3 : k = m - 1 := by omega
              subst hk3
              have : y = x := (nI_eq (by omega) (by omega)).mp (f1.symm.trans R2)
              subst this
              by_cases hds : d = s
              · subst hds; exact Or.inr ⟨m, by omega, by rw [rm]; exact e1⟩
              · have : d = 1 - s := by omega
                subst this
                rcases R3 with f | ⟨k', hk', f⟩
                · exact Or.inl f
                · exact Or.inr ⟨k', by omega, by rw [r39 k' hk']; exact f⟩
        · refine Or.inr ⟨m - 1, by omega, ?_⟩
          rw [r39 _ (by omega), R2, show 1 - (1 - t) = t by omega]
          exact e2
      · obtain ⟨g1, g2, m', g3, g4, g5, g6, g7⟩ := hV
        exact ⟨g1, g2, m', by omega, g4, g5, g6, fun k hk => (g7 k (by omega)).trans (r39 k hk)⟩
set_option maxHeartbeats 1000000 in
theorem lu4 {n : Nat} {c : Nat → Int32} {pos : Nat → Int} {dir : Nat → Nat} (hn : n ≤ 72) (hc : ACw n c pos dir) {S0 : SS} : ∀ (N x s : Nat) (S : SS), WR S → S.1 23 = c → x < n → s < 2 → s = dir x → gp pos n (pos x) < N → Fr [39] [(0, 56), (0, 57), (0, 58)] S0 S → Ew (f_M_lineUp_L4 N (nI x) (nI s) S) (fun U => WR U ∧ Fr [39] [(0, 56), (0, 57), (0, 58)] S0 U ∧ ∃ m', 1 ≤ m' ∧ m' ≤ n ∧ U.1 0 56 = nI m' ∧ LU n c m' (U.1 39) ∧ ∃ k, k < m' ∧ U.1 39 k = nI x)
  | 0, x, s, S, hW, h23, hx, hs, hd, hN, hF => by omega
  | N + 1, x, s, S, hW, h23, hx, hs, hd, hN, hF => by
    refine v_eq (f_M_lineUp_L4.eq_2 _ _ _ _) ?_
    rw [n2, nI_clamp (by omega), h23]
    refine v_grd (inb_nI (by omega) (by omega)) ?_
    refine v_i (fun q => ?_) (fun q => ?_)
    · refine v_wrO (fun T1 eT1 hT1 vT1 => ?_)
      have hW1 := wo_0_57 hW (rg_nI (by omega) (by omega) (by omega)) eT1
      refine v_wrO (fun T2 eT2 hT2 vT2 => ?_)
      have hW2 := wo_0_56 hW1 (rgl 0 0 72 rfl) eT2
      refine v_nm ?_
      rw [n1m hs, vT2]
      refine v_grd rfl ?_
      refine v_wrA (fun T3 eT3 hT3 vT3 => ?_)
      have hW3 := wo_39 hW2 (rg_nI (j := x) (by omega) (by omega) (by omega)) eT3
      have h56 : T3.1 0 56 = 0 := (hT3.1 0 56 rfl).trans vT2
      refine v_wrO (fun T4 eT4 hT4 vT4 => ?_)
      rw [h56] at eT4 vT4
      have hW4 := wo_0_56 hW3 (rgl (0 + 1) 0 72 rfl) eT4
      have hF4 := (((hF.tr hT1 rfl).tr hT2 rfl).tr hT3 rfl).tr hT4 rfl
      have h23' : T4.1 23 = c := by
        rw [← h23]; funext b; rw [hT4.1 23 b rfl, hT3.1 23 b rfl, hT2.1 23 b rfl, hT1.1 23 b rfl]
      have r0 : T4.1 39 0 = nI x := by rw [hT4.1 39 0 rfl]; exact vT3
      refine v_mono (lu81 hn hc.flip NF 1 x (1 - s) T4 hW4 h23' vT4 (Nat.le_refl _) hx (by omega) (by show 1 - s = 1 - dir x; omega) (by have := gp_n (pos := fun x => - pos x) hx; omega) (by have := gp_n (pos := fun x => - pos x) hx; have : NF = 100000 := rfl; omega) ?_ hF4) (fun V hV => ?_)
      · refine ⟨fun k hk => ⟨x, hx, by rw [show k = 0 by omega]; exact r0, fun h => by omega⟩, r0, Or.inl ?_⟩
        rw [show 1 - (1 - s) = s by omega]; exact q
      · obtain ⟨g1, g2, m', g3, g4, g5, g6, g7⟩ := hV
        exact ⟨g1, g2, m', g3, g4, g5, g6, 0, by omega, (g7 0 (by omega)).trans r0⟩
    · obtain ⟨o, t, ho, ht, e1, e2, e3, e4⟩ := ac_next hc hn hx hs q
      obtain ⟨e5, e6⟩ := e4 hd
      have hgl := gp_lt (pos := pos) ho e5
      refine v_grd (inb_nI (by omega) (by omega)) ?_
      refine v_nm ?_
      rw [e1, sideTo_s h23 (by omega) ht e3, bnd_r]
      refine v_nm ?_
      rw [n1m ht]
      refine v_mono (lu4 hn hc N o (1 - t) S hW h23 ho (by omega) e6 (by omega) hF) (fun V hV => ?_)
      obtain ⟨g1, g2, m', g3, g4, g5, g6, k, g7, g8⟩ := hV
      refine ⟨g1, g2, m', g3, g4, g5, g6, ?_⟩
      obtain ⟨y, hy, f1, f2⟩ := g6 k g7
      have : y = o := (nI_eq (by omega) (by omega)).mp (f1.symm.trans g8)
      subst this
      rcases f2 t ht with f | ⟨k', hk', f⟩
      · exact absurd (e2.symm.trans f) (nI_m4 (by omega))
      · exact ⟨k', hk', f.symm.trans e2⟩
theorem AC.dir {n : Nat} {c : Nat → Int32} (h : AC n c) (x : Nat) {s : Nat} (hs : s < 2) : ∃ pos dir, ACw n c pos dir ∧ s = dir x := by
  obtain ⟨pos, dir, h⟩ := h
  have := h.1 x
  by_cases e : s = dir x
  · exact ⟨pos, dir, h, e⟩
  · exact ⟨_, _, h.flip, by show s = 1 - dir x; omega⟩
theorem lm_n {S : SS} {n x : Nat} (h : S.1 0 29 = nI n) (hn : n ≤ 72) (hx : x ≤ 71) (q : ¬ S.1 0 29 ≤ nI x) : x < n := by
  rcases Nat.lt_or_ge x n with e | e
  · exact e
  · exact absurd (by rw [h]; exact nI_le e (by omega)) q
/-- the CONSIST of a THING, in a row -/
theorem u_M_lineUp {a1 : Int32} {S : SS} (hW : WR S) (h0 : rg a1 0 71) (hl0 : ¬ S.1 0 29 ≤ a1) : Ew (f_M_lineUp a1 S) (fun U => WR U ∧ Fr [39] [(0, 56), (0, 57), (0, 58)] S U ∧ ∃ n x m, n ≤ 72 ∧ S.1 0 29 = nI n ∧ a1 = nI x ∧ x < n ∧ 1 ≤ m ∧ m ≤ n ∧ U.1 0 56 = nI m ∧ LU n (S.1 23) m (U.1 39) ∧ ∃ k, k < m ∧ U.1 39 k = nI x) := by
  obtain ⟨x, rfl, hx0, hx1, hx2⟩ := rg_ex h0 (by omega)
  obtain ⟨n, hn, h29, hA, -⟩ := hW.2.1
  have hx : x < n := lm_n h29 hn (by omega) hl0
  obtain ⟨pos, dir, hc, hd⟩ := hA.dir x (s := 0) (by omega)
  refine v_eq (f_M_lineUp.eq_1 _ _) ?_
  refine v_mono (lu4 hn hc NF x 0 S hW rfl hx (by omega) hd (by have := gp_n (pos := pos) hx; have : NF = 100000 := rfl; omega) Fr.rf) (fun V hV => ?_)
  obtain ⟨g1, g2, m', g3, g4, g5, g6, k, g7, g8⟩ := hV
  exact ⟨g1, g2, n, x, m', hn, h29, rfl, hx, g3, g4, g5, g6, k, g7, g8⟩
theorem t_M_lineUp {a1 : Int32} {S : SS} (hW : WR S) (h0 : rg a1 0 71) (hl0 : ¬ S.1 0 29 ≤ a1) : Ew (f_M_lineUp a1 S) (fun U => WR U ∧ Fr [39] [(0, 56), (0, 57), (0, 58)] S U ∧ rg (U.1 0 56) 1 72) := by
  refine v_mono (u_M_lineUp hW h0 hl0) (fun U h => ?_)
  obtain ⟨g1, g2, n, x, m, hn, -, -, -, g3, g4, g5, -⟩ := h
  exact ⟨g1, g2, by rw [g5]; exact rg_nI (by omega) (by omega) (by omega)⟩
