/-! ===== the reference's decode ===== -/
def bt (u k : Nat) : Bool := decide (u / 2 ^ k % 2 = 1)
theorem bt_c : ∀ u : Fin 32, ∀ k : Fin 6, ((((nI u.1) >>> ((nI k.1) &&& 31)) &&& (1 : Int32)) = 1) ↔ bt u.1 k.1 = true := by decide +kernel
theorem bt_o : ∀ u : Fin 32, ∀ k : Fin 5, (nI u.1) ||| ((1 : Int32) <<< ((nI k.1) &&& 31)) = nI (u.1 ||| 2 ^ k.1) := by decide +kernel
/-- the number of places left among those not used -/
def pk (u : Nat) : Nat → Nat → Nat → Option Nat
  | 0, _, _ => none
  | d + 1, left, k => if bt u k = true then pk u d left (k + 1) else if left = 0 then some k else pk u d (left - 1) (k + 1)
theorem de_L154 {S : SS} {K : Int32 → Int32 → Int32 → Int32 → SS → Option SS} {P : SS → Prop} {u r : Nat} {x5 x6 x7 : Int32} (hu : u < 32) (hr : r < 5) (hk : Ew (f_M_decode_L206 K NF (nI (u ||| 2 ^ r)) x5 x6 x7 (nI r) S) P) : ∀ (d left k N : Nat), d < N → k + d ≤ 5 → left ≤ 10 → pk u d left k = some r → Ew (f_M_decode_L154 K N (nI u) x5 x6 x7 (nI left) (nI k) S) P
  | d, left, k, 0, hN, hd, hl, h => by omega
  | 0, left, k, N + 1, hN, hd, hl, h => by cases h
  | d + 1, left, k, N + 1, hN, hd, hl, h => by
    have hb := bt_c ⟨u, hu⟩ ⟨k, by omega⟩
    refine v_eq (f_M_decode_L154.eq_2 _ _ _ _ _ _ _ _ _) ?_
    unfold pk at h
    by_cases c : bt u k = true
    · rw [if_pos c] at h
      refine v_t (hb.mpr c) ?_
      refine v_eq (f_M_decode_j170.eq_1 _ _ _ _ _ _ _ _) ?_
      refine v_t (hb.mpr c) ?_
      refine v_eq (f_M_decode_j188.eq_1 _ _ _ _ _ _ _ _ _) ?_
      refine v_nm ?_
      refine v_nm ?_
      rw [nI_1, show nI left - (0 : Int32) = nI left from Int32.sub_zero _]
      exact de_L154 hu hr hk d left (k + 1) N (by omega) (by omega) hl h
    · rw [if_neg c] at h
      refine v_f (fun q => c (hb.mp q)) ?_
      by_cases c2 : left = 0
      · rw [if_pos c2] at h
        subst c2
        cases h
        refine v_t (by decide) ?_
        refine v_nm ?_
        rw [bt_o ⟨u, hu⟩ ⟨r, hr⟩]
        exact hk
      · rw [if_neg c2] at h
        refine v_f (nI_nle (by omega) (by omega)) ?_
        refine v_eq (f_M_decode_j170.eq_1 _ _ _ _ _ _ _ _) ?_
        refine v_f (fun q => c (hb.mp q)) ?_
        refine v_eq (f_M_decode_j188.eq_1 _ _ _ _ _ _ _ _ _) ?_
        refine v_nm ?_
        refine v_nm ?_
        rw [nI_1, show nI left - (1 : Int32) = nI (left - 1) from nI_sb (b := 1) (by omega) (by omega)]
        exact de_L154 hu hr hk d (left - 1) (k + 1) N (by omega) (by omega) (by omega) h
/-- from a place of the one list to the STACK that has it -/
theorem de_L206 {S T : SS} {K : Int32 → Int32 → Int32 → Int32 → SS → Option SS} {P : SS → Prop} {u r i : Nat} (hW0 : WR S) (hW : WR T) (hF : Fr [57] [] S T) (hr : r < 5) (hi : i < off S 4) (hK : ∀ s at' U, s < 4 → at' < mN S s → i = off S s + at' → WR U → Fr [57] [] S U → (∀ j, U.1 57 j = if j = 10 * s + at' then S.1 54 r else T.1 57 j) → Ew (K (nI u) (nI s) (nI (at' + 1)) (nI (i + 1)) U) P) : ∀ (N s at' : Nat), s < 4 → at' ≤ mN S s → i = off S s + at' → 4 - s < N → Ew (f_M_decode_L206 K N (nI u) (nI s) (nI at') (nI i) (nI r) T) P
  | 0, s, at', hs, ha, he, hN => by omega
  | N + 1, s, at', hs, ha, he, hN => by
    obtain ⟨lm, em⟩ := mN_le hW0 s
    refine v_eq (f_M_decode_L206.eq_2 _ _ _ _ _ _ _ _) ?_
    rw [nI_clamp (n := s) (by omega), hF.1 58 s rfl, em]
    refine v_grd (inb_nI hs (by omega)) ?_
    refine v_i (fun q => ?_) (fun q => ?_)
    · have e : at' = mN S s := (nI_eq (by omega) (by omega)).mp q
      have hs3 : s < 3 := by
        rcases Nat.lt_or_ge s 3 with c | c
        · exact c
        · have : s = 3 := by omega
          subst this
          have : off S 4 = off S 3 + mN S 3 := rfl
          omega
      refine v_nm ?_
      rw [nI_1]
      exact de_L206 hW0 hW hF hr hi hK N (s + 1) 0 (by omega) (by omega) (by show i = off S s + mN S s + 0; omega) (by omega)
    · have hlt : at' < mN S s := by
        rcases Nat.lt_or_ge at' (mN S s) with c | c
        · exact c
        · exact absurd (by rw [show at' = mN S s by omega]) q
      have e : (10 : Int32) * nI s + nI at' = nI (10 * s + at') := by
        rw [show (10 : Int32) * nI s = nI (10 * s) from nI_mul 10 s, nI_add]
      refine v_grd (inb_nI (by omega) (by omega)) ?_
      rw [e, nI_clamp (n := 10 * s + at') (by omega), nI_clamp (n := r) (by omega)]
      refine v_grd (inb_nI (by omega) (by omega)) ?_
      refine v_wrA (fun U eU gU vU => ?_)
      have hW1 := WR.st (k := 57) hW trivial rfl eU
      refine v_nm ?_
      refine v_nm ?_
      rw [nI_1, nI_1]
      refine hK s at' U hs hlt he hW1 (hF.tr gU rfl) (fun j => ?_)
      rw [eU, st_at, if_pos rfl, hF.1 54 r rfl]
/-- all places: p tells which rank comes there, us what was used ahead of it -/
theorem de_L133 {S0 S : SS} {n : Nat} {fl p us : Nat → Nat} (hW0 : WR S) (hF0 : Fr [57, 58, 59] [] S0 S) (h81 : S.1 0 81 = nI n) (hn : n ≤ 5) (hoff : off S 4 = n) (hfl : ∀ i, i < n → S.1 59 i = nI (fl i) ∧ fl i ≤ 5) (hch : ∀ i, i < n → us i < 32 ∧ p i < 5 ∧ pk (us i) 5 (fl i) 0 = some (p i) ∧ us (i + 1) = us i ||| 2 ^ p i) : ∀ (N i s at' : Nat) (T : SS), WR T → Fr [57] [] S T → s < 4 → at' ≤ mN S s → i = off S s + at' → (∀ s' j, s' < 4 → j < mN S s' → off S s' + j < i → T.1 57 (10 * s' + j) = S.1 54 (p (off S s' + j))) → i ≤ n → n < N + i → Ew (f_M_decode_L133 N (nI (us i)) (nI s) (nI at') (nI i) T) (fun U => WR U ∧ Fr [57, 58, 59] [] S0 U ∧ Fr [57] [] S U ∧ ∀ s' j, s' < 4 → j < mN S s' → U.1 57 (10 * s' + j) = S.1 54 (p (off S s' + j)))
  | 0, i, s, at', T, hW, hF, hs, ha, he, hj, hi, hN => by omega
  | N + 1, i, s, at', T, hW, hF, hs, ha, he, hj, hi, hN => by
    refine v_eq (f_M_decode_L133.eq_2 _ _ _ _ _ _) ?_
    rw [hF.1 0 81 rfl, h81]
    refine v_i (fun q => ?_) (fun q => ?_)
    · have : i = n := by
        rcases Nat.lt_or_ge i n with c | c
        · exact absurd q (nI_ge c (by omega))
        · omega
      refine v_some ⟨hW, hF0.tr hF rfl, hF, fun s' j h1 h2 => hj s' j h1 h2 ?_⟩
      have := off_le S h1
      omega
    · have hin : i < n := by
        rcases Nat.lt_or_ge i n with c | c
        · exact c
        · exact absurd (nI_le c (by omega)) q
      obtain ⟨c1, c2, c3, c4⟩ := hch i hin
      refine v_grd (inb_nI (by omega) (by omega)) ?_
      refine v_nm ?_
      rw [nI_clamp (n := i) (by omega), hF.1 59 i rfl, (hfl i hin).1]
      refine de_L154 c1 c2 ?_ 5 (fl i) 0 NF (by have : NF = 100000 := rfl; omega) (by omega) (by have := (hfl i hin).2; omega) c3
      refine de_L206 hW0 hW hF c2 (by omega) (fun s2 at2 U h1 h2 h3 h4 h5 h6 => ?_) NF s at' hs ha he (by have : NF = 100000 := rfl; omega)
      rw [← c4]
      refine de_L133 hW0 hF0 h81 hn hoff hfl hch N (i + 1) s2 (at2 + 1) U h4 h5 h1 (by omega) (by omega) (fun s' j k1 k2 k3 => ?_) (by omega) (by omega)
      rw [h6]
      have l1 := (mN_le hW0 s').1
      have l2 := (mN_le hW0 s2).1
      by_cases c : 10 * s' + j = 10 * s2 + at2
      · have d1 : s' = s2 := by omega
        have d2 : j = at2 := by omega
        subst d1; subst d2
        rw [if_pos rfl, h3]
      · rw [if_neg c]
        refine hj s' j k1 k2 ?_
        rcases Nat.lt_or_ge (off S s' + j) i with d | d
        · exact d
        · exfalso
          have e3 : off S s' + j = off S s2 + at2 := by omega
          -- one place of the one list lies on one STACK
          have o0 : off S 0 = 0 := rfl
          have o1 : off S 1 = off S 0 + mN S 0 := rfl
          have o2 : off S 2 = off S 1 + mN S 1 := rfl
          have o3 : off S 3 = off S 2 + mN S 2 := rfl
          have d1 : s' = s2 := by
            rcases (show s' = 0 ∨ s' = 1 ∨ s' = 2 ∨ s' = 3 by omega) with rfl | rfl | rfl | rfl <;> rcases (show s2 = 0 ∨ s2 = 1 ∨ s2 = 2 ∨ s2 = 3 by omega) with rfl | rfl | rfl | rfl <;> first | rfl | (exfalso; omega)
          subst d1
          exact c (by omega)
