/-! ===== the reference's STACKS at work, as lists ===== -/
def wN (S : SS) (s i : Nat) : Nat := (S.1 57 (10 * s + i)).toNatClampNeg
def mN (S : SS) (s : Nat) : Nat := (S.1 58 s).toNatClampNeg
def cfS (S : SS) : Cf := fun s => if s < 4 then (List.range (mN S s)).map (wN S s) else []
theorem mN_le {S : SS} (hW : WR S) (s : Nat) : mN S s ≤ 10 ∧ S.1 58 s = nI (mN S s) := by
  obtain ⟨j, hj, h1, h2, h3⟩ := rg_ex (ro_58 hW s) (by omega)
  have e : mN S s = j := by unfold mN; rw [hj]; exact nI_clamp h3
  rw [e]
  exact ⟨by omega, hj⟩
theorem cfS_len {S : SS} {s : Nat} (hs : s < 4) : (cfS S s).length = mN S s := by
  unfold cfS
  rw [if_pos hs, List.length_map, List.length_range]
theorem cfS_get {S : SS} {s i : Nat} (hs : s < 4) (hi : i < mN S s) : (cfS S s)[i]? = some (wN S s i) := by
  unfold cfS
  rw [if_pos hs, List.getElem?_map, List.getElem?_range hi]
  rfl
theorem cfS_far (S : SS) {s : Nat} (hs : 4 ≤ s) : cfS S s = [] := by
  unfold cfS
  rw [if_neg (by omega)]
set_option maxHeartbeats 1000000 in
theorem shx_L3 {S0 S : SS} {a b n : Nat} (hW0 : WR S) (ha : a < 4) (hb : b < 4) (hab : a ≠ b) (hn : n ≤ mN S a) (hr : mN S b + n ≤ 10) (hF0 : Fr [57, 58] [] S0 S) : ∀ (N i : Nat) (T : SS), WR T → Fr [57] [] S T → (∀ j, T.1 57 j = if 10 * b + mN S b ≤ j ∧ j < 10 * b + mN S b + i then S.1 57 (10 * a + mN S a - n + (j - (10 * b + mN S b))) else S.1 57 j) → i ≤ n → n < N + i → Ew (f_M_shift_L3 N (nI a) (nI b) (nI n) (nI i) T) (fun U => WR U ∧ Fr [57, 58] [] S0 U ∧ (∀ s, mN U s = if s = a then mN S a - n else if s = b then mN S b + n else mN S s) ∧ ∀ j, U.1 57 j = if 10 * b + mN S b ≤ j ∧ j < 10 * b + mN S b + n then S.1 57 (10 * a + mN S a - n + (j - (10 * b + mN S b))) else S.1 57 j)
  | 0, i, T, hW, hF, hj, hi, hN => by omega
  | N + 1, i, T, hW, hF, hj, hi, hN => by
    obtain ⟨la, ea⟩ := mN_le hW0 a
    obtain ⟨lb, eb⟩ := mN_le hW0 b
    have ta : T.1 58 a = nI (mN S a) := (hF.1 58 a rfl).trans ea
    have tb : T.1 58 b = nI (mN S b) := (hF.1 58 b rfl).trans eb
    refine v_eq (f_M_shift_L3.eq_2 _ _ _ _ _ _) ?_
    rw [nI_clamp (n := a) (by omega), nI_clamp (n := b) (by omega), ta, tb]
    refine v_i (fun q => ?_) (fun q => ?_)
    · have hin : i = n := by
        rcases Nat.lt_or_ge i n with e | e
        · exact absurd q (nI_ge e (by omega))
        · omega
      subst hin
      have sa : nI (mN S a) - nI i = nI (mN S a - i) := by
        rw [← Int32.toInt_inj, Int32.toInt_sub, nI_toInt (by omega), nI_toInt (by omega), nI_toInt (by omega), bm (by omega) (by omega)]
        omega
      refine v_grd (inb_nI ha (by omega)) ?_
      refine v_grd (inb_nI ha (by omega)) ?_
      rw [sa]
      refine v_wrA (fun T1 e1 g1 v1 => ?_)
      have hW1 := wo_58 hW (rg_nI (j := mN S a - i) (by omega) (by omega) (by omega)) e1
      have tb1 : T1.1 58 b = nI (mN S b) := by
        rw [e1, st_at, if_pos rfl, if_neg (Ne.symm hab)]; exact tb
      rw [tb1, nI_add]
      refine v_grd (inb_nI hb (by omega)) ?_
      refine v_grd (inb_nI hb (by omega)) ?_
      refine v_wrA (fun U e2 g2 v2 => ?_)
      have hW2 := wo_58 hW1 (rg_nI (j := mN S b + i) (by omega) (by omega) (by omega)) e2
      refine v_some ⟨hW2, ((hF0.tr hF rfl).tr g1 rfl).tr g2 rfl, fun s => ?_, fun j => ?_⟩
      · show (U.1 58 s).toNatClampNeg = _
        rw [e2, st_at, if_pos rfl]
        by_cases c1 : s = b
        · rw [if_pos c1, if_neg (by omega), if_pos c1, nI_clamp (by omega)]
        · rw [if_neg c1, e1, st_at, if_pos rfl]
          by_cases c2 : s = a
          · rw [if_pos c2, if_pos c2, nI_clamp (by omega)]
          · rw [if_neg c2, if_neg c2, if_neg c1, hF.1 58 s rfl]; rfl
      · rw [g2.1 57 j rfl, g1.1 57 j rfl]; exact hj j
    · have hin : i < n := by
        rcases Nat.lt_or_ge i n with e | e
        · exact e
        · exact absurd (nI_le e (by omega)) q
      have i1 : (((10 : Int32) * nI a + nI (mN S a)) - nI n) + nI i = nI (10 * a + mN S a - n + i) := by
        rw [show (10 : Int32) * nI a = nI (10 * a) from nI_mul 10 a, nI_add]
        rw [← Int32.toInt_inj, Int32.toInt_add, Int32.toInt_sub, nI_toInt (by omega), nI_toInt (by omega), nI_toInt (by omega), nI_toInt (by omega), bm (z := ((10 * a + mN S a : Nat) : Int) - (n : Int)) (by omega) (by omega), bm (by omega) (by omega)]
        omega
      have i2 : ((10 : Int32) * nI b + nI (mN S b)) + nI i = nI (10 * b + mN S b + i) := by
        rw [show (10 : Int32) * nI b = nI (10 * b) from nI_mul 10 b, nI_add, nI_add]
      rw [i1, i2, nI_clamp (n := 10 * a + mN S a - n + i) (by omega), nI_clamp (n := 10 * b + mN S b + i) (by omega)]
      refine v_grd (inb_nI hb (by omega)) ?_
      refine v_grd (inb_nI ha (by omega)) ?_
      refine v_grd (inb_nI (by omega) (by omega)) ?_
      refine v_grd (inb_nI (by omega) (by omega)) ?_
      refine v_wrA (fun T1 e1 g1 v1 => ?_)
      have hW1 := WR.st (k := 57) hW trivial rfl e1
      refine v_nm ?_
      rw [nI_1]
      refine shx_L3 hW0 ha hb hab hn hr hF0 N (i + 1) T1 hW1 (hF.tr g1 rfl) (fun j => ?_) (by omega) (by omega)
      rw [e1, st_at, if_pos rfl]
      by_cases c : j = 10 * b + mN S b + i
      · rw [if_pos c, if_pos (by omega), hj, if_neg (by omega), c]
        exact congrArg (S.1 57) (by omega)
      · rw [if_neg c, hj]
        by_cases c2 : 10 * b + mN S b ≤ j ∧ j < 10 * b + mN S b + i
        · rw [if_pos c2, if_pos (by omega)]
        · rw [if_neg c2, if_neg (by omega)]
/-- a MOVE on the rows is a MOVE on the lists -/
theorem shx {S : SS} {a b n : Nat} (hW : WR S) (ha : a < 4) (hb : b < 4) (hab : a ≠ b) (hn : n ≤ mN S a) (hr : mN S b + n ≤ 10) : Ew (f_M_shift (nI a) (nI b) (nI n) S) (fun U => WR U ∧ Fr [57, 58] [] S U ∧ cfS U = mvd a b n (cfS S)) := by
  obtain ⟨la, ea⟩ := mN_le hW a
  obtain ⟨lb, eb⟩ := mN_le hW b
  refine v_eq (f_M_shift.eq_1 _ _ _ _) ?_
  refine v_mono (shx_L3 hW ha hb hab hn hr Fr.rf NF 0 S hW Fr.rf (fun j => by rw [if_neg (by omega)]) (by omega) (by have : NF = 100000 := rfl; omega)) (fun U hU => ?_)
  obtain ⟨h1, h2, h3, h4⟩ := hU
  refine ⟨h1, h2, funext fun s => ?_⟩
  by_cases hs : s < 4
  · have hlen : (cfS S a).length = mN S a := cfS_len ha
    apply List.ext_getElem?
    intro i
    have hm := h3 s
    have hw : ∀ i, i < 10 → wN U s i = if s = b ∧ mN S b ≤ i ∧ i < mN S b + n then wN S a (mN S a - n + (i - mN S b)) else wN S s i := fun i hi => by
      unfold wN
      rw [h4]
      by_cases c : s = b ∧ mN S b ≤ i ∧ i < mN S b + n
      · obtain ⟨c1, c2, c3⟩ := c
        subst c1
        rw [if_pos (by omega), if_pos ⟨rfl, c2, c3⟩]
        exact congrArg (fun q => (S.1 57 q).toNatClampNeg) (by omega)
      · rw [if_neg c, if_neg (fun k => c ⟨by omega, by omega, by omega⟩)]
    have ls := (mN_le hW s).1
    unfold mvd
    by_cases c1 : s = a
    · subst c1
      rw [if_pos rfl] at hm
      rw [if_pos rfl, hlen, List.getElem?_take]
      by_cases hi : i < mN S s - n
      · rw [if_pos hi, cfS_get hs (by omega), cfS_get hs (by omega), hw i (by omega), if_neg (by omega)]
      · rw [if_neg hi, List.getElem?_eq_none (by rw [cfS_len hs]; omega)]
    · rw [if_neg c1] at hm
      rw [if_neg c1]
      by_cases c2 : s = b
      · subst c2
        rw [if_pos rfl] at hm
        rw [if_pos rfl, hlen]
        by_cases hi : i < mN S s
        · rw [List.getElem?_append_left (by rw [cfS_len hs]; exact hi), cfS_get hs (by omega), cfS_get hs hi, hw i (by omega), if_neg (by omega)]
        · rw [List.getElem?_append_right (by rw [cfS_len hs]; omega), cfS_len hs, List.getElem?_drop]
          by_cases hi2 : i < mN S s + n
          · rw [cfS_get hs (by omega), cfS_get ha (by omega), hw i (by omega), if_pos ⟨rfl, by omega, hi2⟩]
          · rw [List.getElem?_eq_none (by rw [cfS_len hs]; omega), List.getElem?_eq_none (by rw [hlen]; omega)]
      · rw [if_neg c2] at hm
        rw [if_neg c2]
        by_cases hi : i < mN S s
        · rw [cfS_get hs (by omega), cfS_get hs hi, hw i (by omega), if_neg (fun k => c2 k.1)]
        · rw [List.getElem?_eq_none (by rw [cfS_len hs]; omega), List.getElem?_eq_none (by rw [cfS_len hs]; omega)]
  · rw [cfS_far U (by omega)]
    unfold mvd
    rw [if_neg (by omega), if_neg (by omega), cfS_far S (by omega)]
