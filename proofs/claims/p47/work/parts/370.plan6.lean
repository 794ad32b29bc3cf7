/-! ===== the reference's code of a row of STACKS ===== -/
theorem nI_sb {a b : Nat} (h : b ≤ a) (ha : a < 2 ^ 31) : nI a - nI b = nI (a - b) := by
  rw [← Int32.toInt_inj, Int32.toInt_sub, nI_toInt (by omega), nI_toInt (by omega), nI_toInt (by omega), bm (by omega) (by omega)]
  omega
theorem rk_L2 {S : SS} {w : Int32} {n k : Nat} (h81 : S.1 0 81 = nI n) (hn : n ≤ 10) (hk : k < n) (hw : S.1 54 k = w) (hd : ∀ j, j < k → S.1 54 j ≠ w) : ∀ (N i : Nat), i ≤ k → n < N + i → f_M_rankOf_L2 N w (nI i) S = some (nI k, S)
  | 0, i, hi, hN => by omega
  | N + 1, i, hi, hN => by
    rw [f_M_rankOf_L2.eq_2, h81, if_neg (nI_ge (by omega) (by omega)), inb_nI (by omega) (by omega), nI_clamp (n := i) (by omega)]
    show (if S.1 54 i = w then f_M_rankOf_j26 (nI i) S else nm (nI i + 1) _) = _
    by_cases c : i = k
    · subst c
      rw [if_pos hw, f_M_rankOf_j26.eq_1, h81, if_neg (nI_ge (by omega) (by omega))]
    · rw [if_neg (hd i (by omega))]
      show f_M_rankOf_L2 N w (nI i + 1) S = _
      rw [nI_1]
      exact rk_L2 h81 hn hk hw hd N (i + 1) (by omega) (by omega)
theorem rk {S : SS} {w : Int32} {n k : Nat} (h81 : S.1 0 81 = nI n) (hn : n ≤ 10) (hk : k < n) (hw : S.1 54 k = w) (hd : ∀ j, j < k → S.1 54 j ≠ w) : f_M_rankOf w S = some (nI k, S) := by
  rw [f_M_rankOf.eq_1]
  exact rk_L2 h81 hn hk hw hd NF 0 (by omega) (by have : NF = 100000 := rfl; omega)
/-- where STACK s begins in the one list -/
def off (S : SS) : Nat → Nat
  | 0 => 0
  | s + 1 => off S s + mN S s
/-- f tells the rank of each WAGON in the one list -/
def Rk (S : SS) (n : Nat) (f : Nat → Nat) : Prop := ∀ s i, s < 4 → i < mN S s → f (off S s + i) < n ∧ S.1 54 (f (off S s + i)) = S.1 57 (10 * s + i)
def PWd (S : SS) (n : Nat) : Prop := S.1 0 81 = nI n ∧ n ≤ 5 ∧ ∀ i j, i < n → j < n → S.1 54 i = S.1 54 j → i = j
theorem co_L28 {S : SS} {K : Int32 → Int32 → SS → Option (Int32 × SS)} {P : Int32 → SS → Prop} {n s : Nat} {f : Nat → Nat} (hW0 : WR S) (hp : PWd S n) (hf : Rk S n f) (hs : s < 4) (hoff : off S s + mN S s ≤ n) (hK : ∀ T, WR T → Fr [59] [] S T → (∀ j, j < off S s + mN S s → T.1 59 j = nI (f j)) → Ex2 (K (nI (off S s + mN S s)) (nI (s + 1)) T) P) : ∀ (N i : Nat) (T : SS), WR T → Fr [59] [] S T → (∀ j, j < off S s + i → T.1 59 j = nI (f j)) → i ≤ mN S s → mN S s < N + i → Ex2 (f_M_code_L28 K N (nI (off S s + i)) (nI s) (nI i) T) P
  | 0, i, T, hW, hF, hj, hi, hN => by omega
  | N + 1, i, T, hW, hF, hj, hi, hN => by
    obtain ⟨h81, hn5, hd⟩ := hp
    obtain ⟨lm, em⟩ := mN_le hW0 s
    refine e_eq (f_M_code_L28.eq_2 _ _ _ _ _ _) ?_
    rw [nI_clamp (n := s) (by omega), hF.1 58 s rfl, em]
    refine e_grd (inb_nI hs (by omega)) ?_
    refine e_i (fun q => ?_) (fun q => ?_)
    · have : i = mN S s := by
        rcases Nat.lt_or_ge i (mN S s) with e | e
        · exact absurd q (nI_ge e (by omega))
        · omega
      subst this
      refine e_nm ?_
      rw [nI_1]
      exact hK T hW hF hj
    · have him : i < mN S s := by
        rcases Nat.lt_or_ge i (mN S s) with e | e
        · exact e
        · exact absurd (nI_le e (by omega)) q
      obtain ⟨f1, f2⟩ := hf s i hs him
      have e : (10 : Int32) * nI s + nI i = nI (10 * s + i) := by
        rw [show (10 : Int32) * nI s = nI (10 * s) from nI_mul 10 s, nI_add]
      rw [e, nI_clamp (n := 10 * s + i) (by omega)]
      refine e_grd (inb_nI (by omega) (by omega)) ?_
      have hrk := rk (S := T) (w := T.1 57 (10 * s + i)) (n := n) (k := f (off S s + i)) ((hF.1 0 81 rfl).trans h81) (by omega) f1 (by rw [hF.1 54 _ rfl, hF.1 57 _ rfl]; exact f2) (fun j hj2 k => by
        rw [hF.1 54 _ rfl, hF.1 57 _ rfl, ← f2] at k
        have := hd j _ (by omega) f1 k
        omega)
      rw [hrk, bnd_r]
      refine e_grd (inb_nI (by omega) (by omega)) ?_
      rw [nI_clamp (n := off S s + i) (by omega)]
      refine e_wrA (fun U eU gU vU => ?_)
      have hW1 := WR.st (k := 59) hW trivial rfl eU
      refine e_grd (inb_nI (by omega) (by omega)) ?_
      rw [vU]
      refine e_f (nI_m4 (by omega)) ?_
      refine e_nm ?_
      refine e_nm ?_
      rw [nI_1, nI_1, show off S s + i + 1 = off S s + (i + 1) by omega]
      refine co_L28 hW0 ⟨h81, hn5, hd⟩ hf hs hoff hK N (i + 1) U hW1 (hF.tr gU rfl) (fun j hj2 => ?_) (by omega) (by omega)
      rw [eU, st_at, if_pos rfl]
      by_cases c : j = off S s + i
      · rw [if_pos c, c]
      · rw [if_neg c]; exact hj j (by omega)
/-- how many behind i are less -/
def lss (f : Nat → Nat) (i : Nat) : Nat → Nat → Nat
  | 0, _ => 0
  | d + 1, j => (if f j < f i then 1 else 0) + lss f i d (j + 1)
def leh (f : Nat → Nat) (n : Nat) : Nat → Nat → Nat → Nat
  | 0, _, c => c
  | d + 1, i, c => leh f n d (i + 1) (c * (n - i) + lss f i (n - (i + 1)) (i + 1))
theorem co_L105 {T : SS} {K : Int32 → Int32 → Int32 → SS → Option (Int32 × SS)} {P : Int32 → SS → Prop} {n i c : Nat} {f : Nat → Nat} (hn : n ≤ 5) (hi : i < n) (hf : ∀ j, j < n → T.1 59 j = nI (f j) ∧ f j < 10) : ∀ (d j less N : Nat), j + d = n → d < N → Ex2 (K (nI n) (nI (c * (n - i) + (less + lss f i d j))) (nI (i + 1)) T) P → Ex2 (f_M_code_L105 K N (nI n) (nI c) (nI i) (nI less) (nI j) T) P
  | d, j, less, 0, hj, hN, h => by omega
  | 0, j, less, N + 1, hj, hN, h => by
    refine e_eq (f_M_code_L105.eq_2 _ _ _ _ _ _ _ _) ?_
    refine e_t (nI_le (by omega) (by omega)) ?_
    refine e_nm ?_
    refine e_nm ?_
    rw [nI_sb (by omega) (by omega), nI_mul, nI_add, nI_1]
    exact h
  | d + 1, j, less, N + 1, hj, hN, h => by
    refine e_eq (f_M_code_L105.eq_2 _ _ _ _ _ _ _ _) ?_
    refine e_f (nI_ge (by omega) (by omega)) ?_
    refine e_grd (inb_nI (by omega) (by omega)) ?_
    refine e_grd (inb_nI (by omega) (by omega)) ?_
    have hfi := hf i hi
    have hfj := hf j (by omega)
    rw [nI_clamp (n := i) (by omega), nI_clamp (n := j) (by omega), hfi.1, hfj.1]
    refine e_i (fun q => ?_) (fun q => ?_)
    · refine e_eq (f_M_code_j134.eq_1 _ _ _ _ _ _ _ _) ?_
      refine e_nm ?_
      refine e_nm ?_
      rw [nI_1, show nI less + (0 : Int32) = nI less from nI_add less 0]
      refine co_L105 hn hi hf d (j + 1) less N (by omega) (by omega) ?_
      have : ¬ f j < f i := fun k => nI_ge k (by omega) q
      unfold lss at h
      rw [if_neg this, Nat.zero_add] at h
      exact h
    · refine e_eq (f_M_code_j134.eq_1 _ _ _ _ _ _ _ _) ?_
      refine e_nm ?_
      refine e_nm ?_
      rw [nI_1, nI_1]
      refine co_L105 hn hi hf d (j + 1) (less + 1) N (by omega) (by omega) ?_
      have : f j < f i := by
        rcases Nat.lt_or_ge (f j) (f i) with k | k
        · exact k
        · exact absurd (nI_le k (by omega)) q
      unfold lss at h
      rw [if_pos this, ← Nat.add_assoc less 1] at h
      exact h
/-- the code of a row of STACKS -/
def cdN (S : SS) (n : Nat) (f : Nat → Nat) : Nat := leh f n n 0 0 * 216 + mN S 0 * 36 + mN S 1 * 6 + mN S 2
theorem co_L92 {S0 S T : SS} {n : Nat} {f : Nat → Nat} (hW0 : WR S) (hn : n ≤ 5) (hW : WR T) (hF : Fr [59] [] S T) (hF0 : Fr [59] [] S0 S) (hf : ∀ j, j < n → T.1 59 j = nI (f j) ∧ f j < 10) : ∀ (d i c N : Nat), i + d = n → d < N → Ex2 (f_M_code_L92 N (nI n) (nI c) (nI i) T) (fun r U => WR U ∧ Fr [59] [] S0 U ∧ r = nI (leh f n d i c * 216 + mN S 0 * 36 + mN S 1 * 6 + mN S 2))
  | d, i, c, 0, hi, hN => by omega
  | 0, i, c, N + 1, hi, hN => by
    refine e_eq (f_M_code_L92.eq_2 _ _ _ _ _) ?_
    refine e_t (nI_le (by omega) (by omega)) ?_
    refine e_grd rfl ?_
    refine e_grd rfl ?_
    refine e_grd rfl ?_
    refine e_some ⟨hW, hF0.tr hF rfl, ?_⟩
    rw [show (0 : Int32).toNatClampNeg = 0 by decide, show (1 : Int32).toNatClampNeg = 1 by decide, show (2 : Int32).toNatClampNeg = 2 by decide, hF.1 58 0 rfl, hF.1 58 1 rfl, hF.1 58 2 rfl, (mN_le hW0 0).2, (mN_le hW0 1).2, (mN_le hW0 2).2, show nI c * (216 : Int32) = nI (c * 216) from nI_mul c 216, show nI (mN S 0) * (36 : Int32) = nI (mN S 0 * 36) from nI_mul _ 36, show nI (mN S 1) * (6 : Int32) = nI (mN S 1 * 6) from nI_mul _ 6, nI_add, nI_add, nI_add]
    rfl
  | d + 1, i, c, N + 1, hi, hN => by
    refine e_eq (f_M_code_L92.eq_2 _ _ _ _ _) ?_
    refine e_f (nI_ge (by omega) (by omega)) ?_
    refine e_nm ?_
    rw [nI_1]
    refine co_L105 hn (by omega) hf (n - (i + 1)) (i + 1) 0 NF (by omega) (by have : NF = 100000 := rfl; omega) ?_
    rw [Nat.zero_add]
    exact co_L92 hW0 hn hW hF hF0 hf d (i + 1) _ N (by omega) (by omega)
theorem off_4 (S : SS) : off S 4 = mN S 0 + mN S 1 + mN S 2 + mN S 3 := by
  show 0 + mN S 0 + mN S 1 + mN S 2 + mN S 3 = _
  omega
theorem off_le (S : SS) {s : Nat} (hs : s < 4) : off S s + mN S s ≤ off S 4 := by
  rw [off_4]
  rcases (show s = 0 ∨ s = 1 ∨ s = 2 ∨ s = 3 by omega) with rfl | rfl | rfl | rfl
  · show 0 + mN S 0 ≤ _; omega
  · show 0 + mN S 0 + mN S 1 ≤ _; omega
  · show 0 + mN S 0 + mN S 1 + mN S 2 ≤ _; omega
  · show 0 + mN S 0 + mN S 1 + mN S 2 + mN S 3 ≤ _; omega
theorem off_in (S : SS) {j : Nat} (hj : j < off S 4) : ∃ s i, s < 4 ∧ i < mN S s ∧ j = off S s + i := by
  rw [off_4] at hj
  by_cases c0 : j < mN S 0
  · exact ⟨0, j, by omega, c0, by show j = 0 + j; omega⟩
  · by_cases c1 : j < mN S 0 + mN S 1
    · exact ⟨1, j - mN S 0, by omega, by omega, by show j = 0 + mN S 0 + (j - mN S 0); omega⟩
    · by_cases c2 : j < mN S 0 + mN S 1 + mN S 2
      · exact ⟨2, j - (mN S 0 + mN S 1), by omega, by omega, by show j = 0 + mN S 0 + mN S 1 + (j - (mN S 0 + mN S 1)); omega⟩
      · exact ⟨3, j - (mN S 0 + mN S 1 + mN S 2), by omega, by omega, by show j = 0 + mN S 0 + mN S 1 + mN S 2 + (j - (mN S 0 + mN S 1 + mN S 2)); omega⟩
theorem co_L21 {S : SS} {n : Nat} {f : Nat → Nat} (hW0 : WR S) (hp : PWd S n) (hf : Rk S n f) (hoff : off S 4 = n) : ∀ (N s : Nat) (T : SS), WR T → Fr [59] [] S T → (∀ j, j < off S s → T.1 59 j = nI (f j)) → s ≤ 4 → 4 < N + s → Ex2 (f_M_code_L21 N (nI (off S s)) (nI s) T) (fun r U => WR U ∧ Fr [59] [] S U ∧ r = nI (cdN S n f))
  | 0, s, T, hW, hF, hj, hs, hN => by omega
  | N + 1, s, T, hW, hF, hj, hs, hN => by
    have hn5 := hp.2.1
    refine e_eq (f_M_code_L21.eq_2 _ _ _ _) ?_
    refine e_i (fun q => ?_) (fun q => ?_)
    · have : s = 4 := by
        rcases Nat.lt_or_ge s 4 with e | e
        · exact absurd q (nI_ge (b := 4) e (by omega))
        · omega
      subst this
      rw [hoff]
      refine co_L92 hW0 hn5 hW hF Fr.rf (fun j hjn => ⟨hj j (by omega), ?_⟩) n 0 0 NF (by omega) (by have : NF = 100000 := rfl; omega)
      obtain ⟨s, i, h1, h2, rfl⟩ := off_in S (j := j) (by omega)
      have := (hf s i h1 h2).1
      omega
    · have hs4 : s < 4 := by
        rcases Nat.lt_or_ge s 4 with e | e
        · exact e
        · exact absurd (nI_le (a := 4) e (by omega)) q
      have hle := off_le S hs4
      have lm := (mN_le hW0 s).1
      refine co_L28 hW0 hp hf hs4 (by omega) (fun T' hW' hF' hj' => ?_) NF 0 T hW hF hj (by omega) (by have : NF = 100000 := rfl; omega)
      exact co_L21 hW0 hp hf hoff N (s + 1) T' hW' hF' hj' (by omega) (by omega)
/-- code() tells the code -/
theorem cox {S : SS} {n : Nat} {f : Nat → Nat} (hW : WR S) (hp : PWd S n) (hf : Rk S n f) (hoff : off S 4 = n) : Ex2 (f_M_code S) (fun r U => WR U ∧ Fr [59] [] S U ∧ r = nI (cdN S n f)) := by
  have hn5 := hp.2.1
  refine e_eq (f_M_code.eq_1 _) ?_
  refine e_bnd ?_
  refine e_eq (f_M_sumOf_M_many.eq_1 _) ?_
  refine e_grd rfl ?_
  refine e_grd rfl ?_
  refine e_grd rfl ?_
  refine e_grd rfl ?_
  refine e_some ?_
  refine e_t ?_ ?_
  · rw [show (0 : Int32).toNatClampNeg = 0 by decide, show (1 : Int32).toNatClampNeg = 1 by decide, show (2 : Int32).toNatClampNeg = 2 by decide, show (3 : Int32).toNatClampNeg = 3 by decide, (mN_le hW 0).2, (mN_le hW 1).2, (mN_le hW 2).2, (mN_le hW 3).2, nI_add, nI_add, nI_add, hp.1, ← hoff, off_4]
  · exact co_L21 hW hp hf hoff NF 0 S hW Fr.rf (fun j hj => absurd hj (by show ¬ j < 0; omega)) (by omega) (by have : NF = 100000 := rfl; omega)
