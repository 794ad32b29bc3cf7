section
/-! ===== wipe ===== -/
def bcV (a : Int32) : Int32 := match f_Integer_bitCount_0f7a4 a (fun _ _ => 0, fun _ => 0) with
  | some (r, _) => r
  | none => 0
theorem bc_v (a : Int32) (S : SS) : f_Integer_bitCount_0f7a4 a S = some (bcV a, S) := rfl
def pcN : Nat → Nat → Nat
  | 0, _ => 0
  | k + 1, m => m % 2 + pcN k (m / 2)
theorem bc_all : ∀ m : Fin 1024, bcV (nI m.1) = nI (pcN 10 m.1) := by decide +kernel
theorem or_all : ∀ (w : Fin 10) (m : Fin 1024), m.1.testBit w.1 = false → pcN 10 (m.1 ||| 2 ^ w.1) = pcN 10 m.1 + 1 := by decide +kernel
theorem nI_or (a b : Nat) : nI a ||| nI b = nI (a ||| b) := by
  show Int32.ofNat a ||| Int32.ofNat b = Int32.ofNat (a ||| b)
  apply Int32.toBitVec_inj.mp
  rw [Int32.toBitVec_or]
  exact (BitVec.ofNat_or (w := 32)).symm
theorem sh_all : ∀ w : Fin 10, (1 : Int32) <<< (nI w.1 &&& 31) = nI (2 ^ w.1) := by decide +kernel
def hN (S : SS) (s : Nat) : Nat := (S.1 123 s).toNatClampNeg
theorem hN_le {S : SS} (hW : WR S) (s : Nat) : hN S s ≤ 10 ∧ S.1 123 s = nI (hN S s) := by
  obtain ⟨j, hj, h1, h2, h3⟩ := rg_ex (ro_123 hW s) (by omega)
  have e : hN S s = j := by unfold hN; rw [hj]; exact nI_clamp h3
  rw [e]
  exact ⟨by omega, hj⟩
def oH (S : SS) : Nat → Nat
  | 0 => 0
  | s + 1 => oH S s + hN S s
/-- the mask of what was read: a bit for each WAGON, and so many of them -/
def Msk (S : SS) (m s i : Nat) : Prop := m < 1024 ∧ pcN 10 m = oH S s + i ∧ ∀ w, w < 10 → (m.testBit w = true ↔ Bef (S.1 123) (S.1 122) (nI w) s i)
theorem ms_L11 {S : SS} {K : Int32 → Int32 → SS → Option (Int32 × SS)} {s : Nat} (hW : WR S) (h9 : ∀ i, rg (S.1 122 i) 0 9) (hD : DW (S.1 123) (S.1 122)) (hs : s < 4) (P : Int32 × SS → Prop) (hK : ∀ m, Msk S m (s + 1) 0 → ∃ z, K (nI m) (nI (s + 1)) S = some z ∧ P z) : ∀ (N i m : Nat), Msk S m s i → i ≤ hN S s → hN S s < N + i → ∃ z, f_Stacks_members_start_L11 K N (nI m) (nI s) (nI i) S = some z ∧ P z
  | 0, i, m, hm, hi, hN' => by omega
  | N + 1, i, m, hm, hi, hN' => by
    obtain ⟨l10, eh⟩ := hN_le hW s
    rw [f_Stacks_members_start_L11.eq_2, inb_nI hs (by omega), nI_clamp (n := s) (by omega), eh]
    show ∃ z, (if nI (hN S s) ≤ nI i then nm (nI s + 1) (fun z1 => K (nI m) z1 S) else _) = some z ∧ P z
    by_cases c : i = hN S s
    · rw [if_pos (nI_le (by omega) (by omega))]
      obtain ⟨h1, h2, h3⟩ := hm
      obtain ⟨z, e, p⟩ := hK m ⟨h1, by rw [h2, c]; rfl, fun w hw => (h3 w hw).trans (Bef_end hs (by rw [eh, nI_ti (by omega)]; omega))⟩
      refine ⟨z, ?_, p⟩
      show K (nI m) (nI s + 1) S = some z
      rw [nI_1]; exact e
    · have hi' : i < hN S s := by omega
      rw [if_neg (nI_ge hi' (by omega)), wa_start hs eh l10 hi', bnd_r]
      obtain ⟨w, ew, w1, w2, w3⟩ := rg_ex (h9 (10 * s + i)) (by omega)
      have hw : w < 10 := by omega
      obtain ⟨h1, h2, h3⟩ := hm
      have nb : m.testBit w = false := by
        cases hb : m.testBit w with
        | false => rfl
        | true =>
          obtain ⟨s', i', a1, a2, a3, a4⟩ := (h3 w hw).mp hb
          obtain ⟨d1, d2⟩ := hD s' i' s i a2 hs a3 (by rw [eh, nI_ti (by omega)]; omega) (a4.trans ew.symm)
          omega
      have e1 : nI m ||| ((1 : Int32) <<< (S.1 122 (10 * s + i) &&& 31)) = nI (m ||| 2 ^ w) := by
        rw [ew, sh_all ⟨w, hw⟩, nI_or]
      have mk : Msk S (m ||| 2 ^ w) s (i + 1) := by
        refine ⟨?_, ?_, fun v hv => ?_⟩
        · exact Nat.or_lt_two_pow (n := 10) h1 (Nat.pow_lt_pow_right (by omega) hw)
        · rw [or_all ⟨w, hw⟩ ⟨m, h1⟩ nb, h2]
          rfl
        · rw [Nat.testBit_or, Nat.testBit_two_pow, Bool.or_eq_true, decide_eq_true_eq, h3 v hv]
          constructor
          · intro k
            rcases k with ⟨s', i', a1, a2, a3, a4⟩ | k
            · exact ⟨s', i', by omega, a2, a3, a4⟩
            · subst k
              exact ⟨s, i, Or.inr ⟨rfl, by omega⟩, hs, by rw [eh, nI_ti (by omega)]; omega, ew⟩
          · intro ⟨s', i', a1, a2, a3, a4⟩
            by_cases cc : s' = s ∧ i' = i
            · obtain ⟨c1, c2⟩ := cc
              subst c1 c2
              right
              exact nI_inj (by omega) (by omega) (ew.symm.trans a4)
            · left
              exact ⟨s', i', by omega, a2, a3, a4⟩
      obtain ⟨z, e, p⟩ := ms_L11 hW h9 hD hs P hK N (i + 1) (m ||| 2 ^ w) mk (by omega) (by omega)
      refine ⟨z, ?_, p⟩
      show f_Stacks_members_start_L11 K N (nI m ||| ((1 : Int32) <<< (S.1 122 (10 * s + i) &&& 31))) (nI s) (nI i + 1) S = some z
      rw [e1, nI_1]; exact e
theorem ms_L4 {S : SS} (hW : WR S) (h9 : ∀ i, rg (S.1 122 i) 0 9) (hD : DW (S.1 123) (S.1 122)) : ∀ (N s m : Nat), Msk S m s 0 → s ≤ 4 → 4 < N + s → ∃ z, f_Stacks_members_start_L4 N (nI m) (nI s) S = some z ∧ ∃ m', z = (nI m', S) ∧ Msk S m' 4 0
  | 0, s, m, hm, hs, hN' => by omega
  | N + 1, s, m, hm, hs, hN' => by
    rw [f_Stacks_members_start_L4.eq_2]
    by_cases c : s = 4
    · subst c
      rw [if_pos (show (4 : Int32) ≤ nI 4 from nI_le (a := 4) (by omega) (by omega))]
      exact ⟨_, rfl, m, rfl, hm⟩
    · have hs4 : s < 4 := by omega
      rw [if_neg (show ¬ ((4 : Int32) ≤ nI s) from nI_ge (b := 4) hs4 (by omega))]
      have := (hN_le hW s).1
      exact ms_L11 hW h9 hD hs4 _ (fun m' hm' => ms_L4 hW h9 hD N (s + 1) m' hm' (by omega) (by omega)) NF 0 m hm (by omega) (by have : NF = 100000 := rfl; omega)
theorem msx {S : SS} (hW : WR S) (h9 : ∀ i, rg (S.1 122 i) 0 9) (hD : DW (S.1 123) (S.1 122)) : ∃ m, f_Stacks_members_start S = some (nI m, S) ∧ bcV (nI m) = nI (oH S 4) := by
  have m0 : Msk S 0 0 0 := by
    refine ⟨by omega, rfl, fun w hw => ⟨fun k => ?_, fun k => ?_⟩⟩
    · rw [Nat.zero_testBit] at k
      cases k
    · obtain ⟨s', i', a1, -⟩ := k
      omega
  obtain ⟨z, e, m, ez, h1, h2, h3⟩ := ms_L4 hW h9 hD NF 0 0 m0 (by omega) (by have : NF = 100000 := rfl; omega)
  rw [ez] at e
  refine ⟨m, e, ?_⟩
  rw [bc_all ⟨m, h1⟩, h2]
  rfl
theorem fl_s {S : SS} : ∀ (N k : Nat) (T U : SS), F1 [123] [] S T → (∀ i, T.1 123 i = if i < k ∧ i < 4 then 0 else S.1 123 i) → k ≤ 4 → f_Arrays_fill_53178_start_heights_L5 N 0 (nI k) (nI 4) T = some U → F1 [123] [] S U ∧ ∀ i, U.1 123 i = if i < 4 then 0 else S.1 123 i
  | 0, k, T, U, hF, hj, hk, h => by
    rw [f_Arrays_fill_53178_start_heights_L5.eq_1] at h
    cases h
  | N + 1, k, T, U, hF, hj, hk, h => by
    rw [f_Arrays_fill_53178_start_heights_L5.eq_2] at h
    by_cases c : k = 4
    · subst c
      rw [if_pos (nI_le (by omega) (by omega))] at h
      have := some_1 h
      subst this
      refine ⟨hF, fun i => ?_⟩
      rw [hj]
      by_cases d : i < 4
      · rw [if_pos ⟨d, d⟩, if_pos d]
      · rw [if_neg (fun q => d q.1), if_neg d]
    · rw [if_neg (nI_ge (by omega) (by omega))] at h
      replace h := (grd_t h).2
      replace h := wr_t h
      obtain ⟨T1, t1, h⟩ := h
      have h : f_Arrays_fill_53178_start_heights_L5 N 0 (nI k + 1) (nI 4) T1 = some U := h
      rw [nI_1] at h
      rw [nI_clamp (n := k) (by omega)] at t1
      refine fl_s N (k + 1) T1 U (F1.tr (L1 := [123]) (F' := []) (U := T1) hF (by rw [t1]; exact (fr_stA _ _ _ _).f1) rfl) (fun i => ?_) (by omega) h
      rw [t1, st_at, if_pos rfl]
      by_cases d : i = k
      · rw [if_pos d, if_pos (by omega)]
      · rw [if_neg d, hj]
        by_cases d2 : i < k ∧ i < 4
        · rw [if_pos d2, if_pos (by omega)]
        · rw [if_neg d2, if_neg (by omega)]
theorem em_s {S U : SS} (h : f_Stacks_empty_start S = some U) : F1 [123] [] S U ∧ ∀ i, U.1 123 i = if i < 4 then 0 else S.1 123 i := by
  rw [f_Stacks_empty_start.eq_1] at h
  replace h := bndv_t h
  obtain ⟨T, hT, h⟩ := h
  have := some_1 h
  subst this
  rw [f_Arrays_fill_53178_start_heights.eq_1] at hT
  replace hT := nm_q hT
  obtain ⟨z, ez, hT⟩ := hT
  rw [ez, show Int32.ofNat 4 = nI 4 from rfl, show (0 : Int32) = nI 0 from rfl] at hT
  exact fl_s NF 0 S T F1.rf (fun i => by rw [if_neg (by omega)]) (by omega) hT
theorem fl_g {S : SS} : ∀ (N k : Nat) (T U : SS), F1 [125] [] S T → (∀ i, T.1 125 i = if i < k ∧ i < 4 then 0 else S.1 125 i) → k ≤ 4 → f_Arrays_fill_53178_goal_heights_L5 N 0 (nI k) (nI 4) T = some U → F1 [125] [] S U ∧ ∀ i, U.1 125 i = if i < 4 then 0 else S.1 125 i
  | 0, k, T, U, hF, hj, hk, h => by
    rw [f_Arrays_fill_53178_goal_heights_L5.eq_1] at h
    cases h
  | N + 1, k, T, U, hF, hj, hk, h => by
    rw [f_Arrays_fill_53178_goal_heights_L5.eq_2] at h
    by_cases c : k = 4
    · subst c
      rw [if_pos (nI_le (by omega) (by omega))] at h
      have := some_1 h
      subst this
      refine ⟨hF, fun i => ?_⟩
      rw [hj]
      by_cases d : i < 4
      · rw [if_pos ⟨d, d⟩, if_pos d]
      · rw [if_neg (fun q => d q.1), if_neg d]
    · rw [if_neg (nI_ge (by omega) (by omega))] at h
      replace h := (grd_t h).2
      replace h := wr_t h
      obtain ⟨T1, t1, h⟩ := h
      have h : f_Arrays_fill_53178_goal_heights_L5 N 0 (nI k + 1) (nI 4) T1 = some U := h
      rw [nI_1] at h
      rw [nI_clamp (n := k) (by omega)] at t1
      refine fl_g N (k + 1) T1 U (F1.tr (L1 := [125]) (F' := []) (U := T1) hF (by rw [t1]; exact (fr_stA _ _ _ _).f1) rfl) (fun i => ?_) (by omega) h
      rw [t1, st_at, if_pos rfl]
      by_cases d : i = k
      · rw [if_pos d, if_pos (by omega)]
      · rw [if_neg d, hj]
        by_cases d2 : i < k ∧ i < 4
        · rw [if_pos d2, if_pos (by omega)]
        · rw [if_neg d2, if_neg (by omega)]
theorem em_g {S U : SS} (h : f_Stacks_empty_goal S = some U) : F1 [125] [] S U ∧ ∀ i, U.1 125 i = if i < 4 then 0 else S.1 125 i := by
  rw [f_Stacks_empty_goal.eq_1] at h
  replace h := bndv_t h
  obtain ⟨T, hT, h⟩ := h
  have := some_1 h
  subst this
  rw [f_Arrays_fill_53178_goal_heights.eq_1] at hT
  replace hT := nm_q hT
  obtain ⟨z, ez, hT⟩ := hT
  rw [ez, show Int32.ofNat 4 = nI 4 from rfl, show (0 : Int32) = nI 0 from rfl] at hT
  exact fl_g NF 0 S T F1.rf (fun i => by rw [if_neg (by omega)]) (by omega) hT
theorem mw_L10 {S : SS} {x1 : Int32} : ∀ (N k : Nat) (T U : SS) (r : Int32), F1 [47, 49] [(0, 76), (0, 77)] S T → (∀ i, T.1 47 i = if i < k ∧ i < 4 then 0 else S.1 47 i) → (∀ i, T.1 49 i = if i < k ∧ i < 4 then 0 else S.1 49 i) → k ≤ 4 → f_M_wipe_L10 N x1 (nI k) T = some (r, U) → r = x1 ∧ F1 [47, 49] [(0, 76), (0, 77)] S U ∧ (∀ i, U.1 47 i = if i < 4 then 0 else S.1 47 i) ∧ ∀ i, U.1 49 i = if i < 4 then 0 else S.1 49 i
  | 0, k, T, U, r, hF, h1, h2, hk, h => by
    rw [f_M_wipe_L10.eq_1] at h
    cases h
  | N + 1, k, T, U, r, hF, h1, h2, hk, h => by
    rw [f_M_wipe_L10.eq_2] at h
    by_cases c : k = 4
    · subst c
      rw [if_pos (show (4 : Int32) ≤ nI 4 from nI_le (a := 4) (by omega) (by omega))] at h
      replace h := wr_t h
      obtain ⟨T1, t1, h⟩ := h
      replace h := wr_t h
      obtain ⟨T2, t2, h⟩ := h
      injection h with h; injection h with a1 a2
      have g : F1 [] [(0, 76), (0, 77)] T U := by
        rw [← a2, t2, t1]
        exact F1.tr (F1.tr F1.rf (fr_stO _ _ _ _).f1 rfl) (fr_stO _ _ _ _).f1 rfl
      refine ⟨a1.symm, F1.tr hF g rfl, fun i => ?_, fun i => ?_⟩
      · rw [g 47 i rfl, h1]
        by_cases d : i < 4
        · rw [if_pos ⟨d, d⟩, if_pos d]
        · rw [if_neg (fun q => d q.1), if_neg d]
      · rw [g 49 i rfl, h2]
        by_cases d : i < 4
        · rw [if_pos ⟨d, d⟩, if_pos d]
        · rw [if_neg (fun q => d q.1), if_neg d]
    · rw [if_neg (show ¬ ((4 : Int32) ≤ nI k) from nI_ge (b := 4) (by omega) (by omega))] at h
      replace h := (grd_t h).2
      replace h := wr_t h
      obtain ⟨T1, t1, h⟩ := h
      replace h := (grd_t h).2
      replace h := wr_t h
      obtain ⟨T2, t2, h⟩ := h
      have h : f_M_wipe_L10 N x1 (nI k + 1) T2 = some (r, U) := h
      rw [nI_1] at h
      rw [nI_clamp (n := k) (by omega)] at t1 t2
      refine mw_L10 N (k + 1) T2 U r (F1.tr (L1 := [49]) (F' := []) (T := T1) (U := T2) (F1.tr (L1 := [47]) (F' := []) (U := T1) hF (by rw [t1]; exact (fr_stA _ _ _ _).f1) rfl) (by rw [t2]; exact (fr_stA _ _ _ _).f1) rfl) (fun i => ?_) (fun i => ?_) (by omega) h
      · rw [t2, st_at, if_neg (by decide), t1, st_at, if_pos rfl]
        by_cases d : i = k
        · rw [if_pos d, if_pos (by omega)]
        · rw [if_neg d, h1]
          by_cases d2 : i < k ∧ i < 4
          · rw [if_pos d2, if_pos (by omega)]
          · rw [if_neg d2, if_neg (by omega)]
      · rw [t2, st_at, if_pos rfl]
        by_cases d : i = k
        · rw [if_pos d, if_pos (by omega)]
        · rw [if_neg d, t1, st_at, if_neg (by decide), h2]
          by_cases d2 : i < k ∧ i < 4
          · rw [if_pos d2, if_pos (by omega)]
          · rw [if_neg d2, if_neg (by omega)]
theorem wipe_eq {r1 r2 : Int32} {S S1 S2 : SS} (hW : WR S) (w1 : WR S1) (hP : PL S) (h1 : ∀ i, S.1 122 i = S.1 48 i) (h2 : ∀ i, S.1 123 i = S.1 47 i) (h4 : ∀ i, S.1 125 i = S.1 49 i) (e1 : f_Yard_wipe S = some (r1, S1)) (e2 : f_M_wipe S1 = some (r2, S2)) (g1 : F1 [123, 125] [(70, 7), (70, 8)] S S1) (g2 : F1 [47, 49] [(0, 76), (0, 77)] S1 S2) : r1 = r2 ∧ (∀ i, S2.1 123 i = S2.1 47 i) ∧ ∀ i, S2.1 125 i = S2.1 49 i := by
  have e123 : S.1 123 = S.1 47 := funext h2
  have e122 : S.1 122 = S.1 48 := funext h1
  obtain ⟨m, em, bm⟩ := msx hW (fun i => by rw [h1]; exact ro_48 hW i) (by rw [e123, e122]; exact hP.2.1)
  rw [f_Yard_wipe.eq_1] at e1
  replace e1 := bnd_t e1
  obtain ⟨v, T, hT, e1⟩ := e1
  injection e1 with e1; injection e1 with a1 a2
  rw [f_Plans_clear.eq_1] at hT
  replace hT := bnd_s hT em
  replace hT := bnd_s hT (bc_v _ _)
  replace hT := bndv_t hT
  obtain ⟨T1, t1, hT⟩ := hT
  replace hT := bndv_t hT
  obtain ⟨T2, t2, hT⟩ := hT
  replace hT := bndv_t hT
  obtain ⟨T3, t3, hT⟩ := hT
  injection hT with hT; injection hT with c1 c2
  have g3 : F1 [] [(70, 7), (70, 8)] T2 T3 := by
    have t3 : some (st (st T2 70 8 0) 70 7 0) = some T3 := t3
    rw [← some_1 t3]
    exact F1.tr (F1.tr F1.rf (fr_stO _ _ _ _).f1 rfl) (fr_stO _ _ _ _).f1 rfl
  obtain ⟨f1, z1⟩ := em_s t1
  obtain ⟨f2, z2⟩ := em_g t2
  rw [f_M_wipe.eq_1] at e2
  obtain ⟨rs, Us, es, eU, ers, -⟩ := smx w1
  subst eU
  replace e2 := bnd_s e2 es
  obtain ⟨q1, q2, q3, q4⟩ := mw_L10 NF 0 Us S2 r2 F1.rf (fun i => by rw [if_neg (by omega)]) (fun i => by rw [if_neg (by omega)]) (by omega) e2
  have sN : StN Us = oH S 4 := by
    show (Us.1 47 0).toNatClampNeg + (Us.1 47 1).toNatClampNeg + (Us.1 47 2).toNatClampNeg + (Us.1 47 3).toNatClampNeg = 0 + hN S 0 + hN S 1 + hN S 2 + hN S 3
    unfold hN
    rw [g1 47 0 rfl, g1 47 1 rfl, g1 47 2 rfl, g1 47 3 rfl, h2, h2, h2, h2]
    omega
  refine ⟨?_, fun i => ?_, fun i => ?_⟩
  · rw [← a1, ← c1, bm, q1, ers, sN]
  · rw [q3, q2 123 i rfl, ← a2, ← c2, g3 123 i rfl, f2 123 i rfl, z1]
    by_cases d : i < 4
    · rw [if_pos d, if_pos d]
    · rw [if_neg d, if_neg d, c2, a2, g1 47 i rfl, h2]
  · rw [q4, q2 125 i rfl, ← a2, ← c2, g3 125 i rfl, z2]
    by_cases d : i < 4
    · rw [if_pos d, if_pos d]
    · rw [if_neg d, if_neg d, f1 125 i rfl, c2, a2, g1 49 i rfl, h4]
end
section
/-! ===== link ===== -/
theorem la_n {k : Nat} (S : SS) (hk : k < 48) : f_Layout_linksAt (nI k) S = some (S.1 96 k, S) := by
  rw [f_Layout_linksAt.eq_1, if_neg (nI_nn (by omega)), if_neg (show ¬ ((48 : Int32) ≤ nI k) from nI_ge (b := 48) hk (by omega)), inb_nI hk (by omega), nI_clamp (by omega)]
  rfl
theorem i3_n {e i : Nat} : (3 : Int32) * nI e + nI i = nI (3 * e + i) := by
  rw [show (3 : Int32) * nI e = nI (3 * e) from nI_mul 3 e, nI_add]
theorem aj_n {e n : Nat} {w : Int32} {S : SS} (he : e < 48) (hn : S.1 96 e = nI n) (h3 : n ≤ 3) : ∀ (N i : Nat), i ≤ n → n < N + i → ∃ b : Bool, f_Layout_areJoined_L2 N (nI e) w (nI i) S = some (bI b, S) ∧ (b = true ↔ ∃ j, i ≤ j ∧ j < n ∧ S.1 97 (3 * e + j) = w)
  | 0, i, hi, hN => by omega
  | N + 1, i, hi, hN => by
    rw [f_Layout_areJoined_L2.eq_2, la_n _ he, bnd_r, hn]
    by_cases c : i = n
    · rw [if_pos (nI_le (by omega) (by omega))]
      refine ⟨false, rfl, fun k => (by cases k), fun k => ?_⟩
      obtain ⟨j, a, b, -⟩ := k
      omega
    · have hi' : i < n := by omega
      rw [if_neg (nI_ge hi' (by omega)), i3_n, inb_nI (by omega) (by omega), nI_clamp (n := 3 * e + i) (by omega)]
      show ∃ b : Bool, (if S.1 97 (3 * e + i) = w then some ((1 : Int32), S) else nm (nI i + 1) (fun z3 => f_Layout_areJoined_L2 N (nI e) w z3 S)) = some (bI b, S) ∧ _
      by_cases q : S.1 97 (3 * e + i) = w
      · rw [if_pos q]
        exact ⟨true, rfl, fun _ => ⟨i, Nat.le_refl _, hi', q⟩, fun _ => rfl⟩
      · rw [if_neg q]
        obtain ⟨b, e1, p⟩ := aj_n (w := w) he hn h3 N (i + 1) (by omega) (by omega)
        refine ⟨b, ?_, p.trans ⟨fun k => ?_, fun k => ?_⟩⟩
        · show f_Layout_areJoined_L2 N (nI e) w (nI i + 1) S = _
          rw [nI_1]; exact e1
        · obtain ⟨j, a, b', d⟩ := k
          exact ⟨j, by omega, b', d⟩
        · obtain ⟨j, a, b', d⟩ := k
          by_cases cj : j = i
          · rw [cj] at d; exact absurd d q
          · exact ⟨j, by omega, b', d⟩
theorem l80_n {e n : Nat} {w : Int32} {S : SS} (he : e < 48) (hn : S.1 6 e = nI n) (h3 : n ≤ 3) : ∀ (N i : Nat) (b : Bool), i ≤ n → n < N + i → ∃ (b' : Bool) (N' : Nat), f_M_link_L80 N (nI e) w (bI b) (nI i) S = f_M_link_L80 (N' + 1) (nI e) w (bI b') (nI n) S ∧ (b' = true ↔ (b = true ∨ ∃ j, i ≤ j ∧ j < n ∧ S.1 7 (3 * e + j) = w))
  | 0, i, b, hi, hN => by omega
  | N + 1, i, b, hi, hN => by
    by_cases c : i = n
    · subst c
      refine ⟨b, N, rfl, fun k => Or.inl k, fun k => ?_⟩
      rcases k with k | ⟨j, a, d, -⟩
      · exact k
      · omega
    · have hi' : i < n := by omega
      have step : ∀ b2 : Bool, f_M_link_L80 (N + 1) (nI e) w (bI b) (nI i) S = f_M_link_L80 N (nI e) w (bI b2) (nI (i + 1)) S → (b2 = true ↔ (b = true ∨ S.1 7 (3 * e + i) = w)) → ∃ (b' : Bool) (N' : Nat), f_M_link_L80 (N + 1) (nI e) w (bI b) (nI i) S = f_M_link_L80 (N' + 1) (nI e) w (bI b') (nI n) S ∧ (b' = true ↔ (b = true ∨ ∃ j, i ≤ j ∧ j < n ∧ S.1 7 (3 * e + j) = w)) := fun b2 e2 p2 => by
        obtain ⟨b', N', e3, p3⟩ := l80_n (w := w) he hn h3 N (i + 1) b2 (by omega) (by omega)
        refine ⟨b', N', e2.trans e3, p3.trans ⟨fun k => ?_, fun k => ?_⟩⟩
        · rcases k with k | ⟨j, a, d, f⟩
          · rcases p2.mp k with k | k
            · exact Or.inl k
            · exact Or.inr ⟨i, Nat.le_refl _, hi', k⟩
          · exact Or.inr ⟨j, by omega, d, f⟩
        · rcases k with k | ⟨j, a, d, f⟩
          · exact Or.inl (p2.mpr (Or.inl k))
          · by_cases cj : j = i
            · subst cj; exact Or.inl (p2.mpr (Or.inr f))
            · exact Or.inr ⟨j, by omega, d, f⟩
      have un : f_M_link_L80 (N + 1) (nI e) w (bI b) (nI i) S = (if bI b = 0 then (if S.1 7 (3 * e + i) = w then f_M_link_L80 N (nI e) w 1 (nI (i + 1)) S else f_M_link_L80 N (nI e) w 0 (nI (i + 1)) S) else f_M_link_L80 N (nI e) w 1 (nI (i + 1)) S) := by
        rw [f_M_link_L80.eq_2, inb_nI he (by omega), nI_clamp (n := e) (by omega), hn]
        show (if nI n ≤ nI i then _ else (if bI b = 0 then grd (inb ((3 : Int32) * nI e + nI i) 144) (if S.1 7 ((3 : Int32) * nI e + nI i).toNatClampNeg = w then f_M_link_j114 (fun v0 v1 v2 v3 S => f_M_link_L80 N v0 v1 v2 v3 S) (nI e) w (nI i) S else f_M_link_j119 (fun v0 v1 v2 v3 S => f_M_link_L80 N v0 v1 v2 v3 S) (nI e) w (nI i) 0 S) else f_M_link_j114 (fun v0 v1 v2 v3 S => f_M_link_L80 N v0 v1 v2 v3 S) (nI e) w (nI i) S)) = _
        rw [if_neg (nI_ge hi' (by omega)), i3_n, inb_nI (by omega) (by omega), nI_clamp (n := 3 * e + i) (by omega), f_M_link_j114.eq_1, f_M_link_j119.eq_1, f_M_link_j119.eq_1]
        show (if bI b = 0 then (if S.1 7 (3 * e + i) = w then f_M_link_L80 N (nI e) w 1 (nI i + 1) S else f_M_link_L80 N (nI e) w 0 (nI i + 1) S) else f_M_link_L80 N (nI e) w 1 (nI i + 1) S) = _
        rw [nI_1]
      cases hb : b with
      | false =>
        rw [hb] at un step
        rw [if_pos (show bI false = 0 from rfl)] at un
        by_cases q : S.1 7 (3 * e + i) = w
        · rw [if_pos q] at un
          exact step true un ⟨fun _ => Or.inr q, fun _ => rfl⟩
        · rw [if_neg q] at un
          refine step false un ⟨fun k => (by cases k), fun k => ?_⟩
          rcases k with k | k
          · exact k
          · exact absurd k q
      | true =>
        rw [hb] at un step
        rw [if_neg (by decide)] at un
        exact step true un ⟨fun _ => Or.inl rfl, fun _ => rfl⟩
theorem mg_n {e n : Nat} {S : SS} (he : e < 48) (hn : S.1 96 e = nI n) (h3 : n ≤ 3) : f_Layout_mayGetLink (nI e) S = some (if n < (if S.1 94 e = -4 then 1 else 3) then 1 else 0, S) := by
  rw [f_Layout_mayGetLink.eq_1, la_n _ he, bnd_r, pa_n _ he, bnd_r, hn]
  by_cases q : S.1 94 e = -4
  · rw [if_pos q, if_pos q, f_Layout_mayGetLink_j20.eq_1]
    by_cases c : n < 1
    · rw [if_pos c, if_neg (show ¬ ((1 : Int32) ≤ nI n) from nI_ge (b := 1) c (by omega))]
    · rw [if_neg c, if_pos (show (1 : Int32) ≤ nI n from nI_le (a := 1) (by omega) (by omega))]
  · rw [if_neg q, if_neg q, f_Layout_mayGetLink_j20.eq_1]
    by_cases c : n < 3
    · rw [if_pos c, if_neg (show ¬ ((3 : Int32) ≤ nI n) from nI_ge (b := 3) c (by omega))]
    · rw [if_neg c, if_pos (show (3 : Int32) ≤ nI n from nI_le (a := 3) (by omega) (by omega))]
theorem ml_n {e : Nat} {S : SS} (he : e < 48) : f_M_mostLinks (nI e) S = some (if S.1 5 e = -4 then 1 else 3, S) := by
  rw [f_M_mostLinks.eq_1, inb_nI he (by omega), nI_clamp (n := e) (by omega)]
  show (if S.1 5 e = -4 then some ((1 : Int32), S) else some ((3 : Int32), S)) = _
  by_cases q : S.1 5 e = -4
  · rw [if_pos q, if_pos q]
  · rw [if_neg q, if_neg q]
theorem al_n {e f n : Nat} {S U : SS} (he : e < 48) (hn : S.1 96 e = nI n) (h3 : n < 3) (h : f_Layout_addLink (nI e) (nI f) S = some U) : F1 [96, 97] [] S U ∧ (∀ i, U.1 96 i = if i = e then nI (n + 1) else S.1 96 i) ∧ ∀ i, U.1 97 i = if i = 3 * e + n then nI f else S.1 97 i := by
  rw [f_Layout_addLink.eq_1] at h
  replace h := bnd_s h (ie_n _ he)
  rw [if_neg (by decide)] at h
  replace h := (grd_t h).2
  rw [nI_clamp (n := e) (by omega), hn, if_neg (show ¬ ((3 : Int32) ≤ nI n) from nI_ge (b := 3) h3 (by omega)), i3_n] at h
  replace h := (grd_t (grd_t h).2).2
  replace h := wr_t h
  obtain ⟨T1, t1, h⟩ := h
  replace h := (grd_t (grd_t h).2).2
  replace h := wr_t h
  obtain ⟨T2, t2, h⟩ := h
  have := some_1 h
  subst this
  rw [nI_clamp (n := 3 * e + n) (by omega)] at t1
  have g1 : T1.1 96 e = nI n := by rw [t1, st_at, if_neg (by decide), hn]
  rw [g1, nI_1] at t2
  refine ⟨?_, fun i => ?_, fun i => ?_⟩
  · rw [t2, t1]
    exact F1.tr (F1.tr F1.rf (fr_stA _ _ _ _).f1 rfl) (fr_stA _ _ _ _).f1 rfl
  · rw [t2, st_at, if_pos rfl, show T1.1 96 i = S.1 96 i by rw [t1, st_at, if_neg (by decide)]]
  · rw [t2, st_at, if_neg (by decide), t1, st_at, if_pos rfl]
set_option maxHeartbeats 1000000 in
theorem link_eq {a b c d r1 r2 : Int32} {S S1 S2 : SS} (hW : WR S) (ht : S.1 66 7 = S.1 0 7) (hq : ∀ i, S.1 94 i = S.1 5 i) (h6 : ∀ i, S.1 96 i = S.1 6 i) (h7 : ∀ i, S.1 97 i = S.1 7 i) (e1 : f_Yard_link a b c d S = some (r1, S1)) (e2 : f_M_link a b c d S1 = some (r2, S2)) (k7 : S1.1 0 7 = S.1 0 7) (k5 : ∀ i, S1.1 5 i = S.1 5 i) (k6 : ∀ i, S1.1 6 i = S.1 6 i) (k77 : ∀ i, S1.1 7 i = S.1 7 i) (m6 : ∀ i, S2.1 96 i = S1.1 96 i) (m7 : ∀ i, S2.1 97 i = S1.1 97 i) : r1 = r2 ∧ (∀ i, S2.1 96 i = S2.1 6 i) ∧ ∀ i, S2.1 97 i = S2.1 7 i := by
  rw [f_Yard_link.eq_1] at e1
  rw [f_M_link.eq_1] at e2
  replace e1 := bnd_s e1 (in_v _ _ _ _)
  replace e2 := bnd_s e2 (sd_v _ _)
  have stay : some ((-1 : Int32), S) = some (r1, S1) → some ((-1 : Int32), S1) = some (r2, S2) → r1 = r2 ∧ (∀ i, S2.1 96 i = S2.1 6 i) ∧ ∀ i, S2.1 97 i = S2.1 7 i := fun a b => by
    injection a with a; injection a with a1 a2
    injection b with b; injection b with b1 b2
    rw [← a1, ← b1, ← b2, ← a2]
    exact ⟨rfl, h6, h7⟩
  by_cases q : inV b 0 1 = 0
  · rw [if_pos q] at e1
    rw [if_neg (sd_in.mp q)] at e2
    replace e1 := bnd_s e1 (in_v _ _ _ _)
    replace e2 := bnd_s e2 (sd_v _ _)
    by_cases q2 : inV d 0 1 = 0
    · rw [if_pos q2] at e1
      rw [if_neg (sd_in.mp q2)] at e2
      replace e1 := bndv_t e1
      obtain ⟨T, hT, e1⟩ := e1
      have gT := rb_t hT
      replace e2 := bndv_t e2
      obtain ⟨V, hV, e2⟩ := e2
      have gV := mb_t hV
      replace e1 := bnd_s e1 (tf_v _ _)
      replace e2 := bnd_s e2 (ms_v _ _)
      rw [gT 66 7 rfl, ht] at e1
      rw [gV 0 7 rfl, k7] at e2
      have no1 : ∀ {x : Int32}, ¬ x = 0 → f_Yard_link_j83 a b c d x T = some (r1, S1) → r1 = -2 ∧ (∀ i, S1.1 96 i = S.1 96 i) ∧ ∀ i, S1.1 97 i = S.1 97 i := fun {x} hx hj => by
        rw [f_Yard_link_j83.eq_1, if_neg hx] at hj
        replace hj := bnd_t hj
        obtain ⟨v, T9, h9, hj⟩ := hj
        obtain ⟨p1, p2⟩ := rf_t h9
        injection hj with hj; injection hj with b1 b2
        rw [← b1, ← b2]
        exact ⟨p1, fun i => (p2 96 i rfl).trans (gT 96 i rfl), fun i => (p2 97 i rfl).trans (gT 97 i rfl)⟩
      have no2 : ∀ {U : SS}, F1 [1] [(0, 0)] V U → (r2 = -2 ∧ U = S2) → r1 = -2 ∧ (∀ i, S1.1 96 i = S.1 96 i) ∧ (∀ i, S1.1 97 i = S.1 97 i) → r1 = r2 ∧ (∀ i, S2.1 96 i = S2.1 6 i) ∧ ∀ i, S2.1 97 i = S2.1 7 i := fun {U} gU hU p => by
        obtain ⟨u1, u2⟩ := hU
        obtain ⟨p1, p2, p3⟩ := p
        refine ⟨by rw [p1, u1], fun i => ?_, fun i => ?_⟩
        · rw [m6, p2, ← u2, gU 6 i rfl, gV 6 i rfl, k6, h6]
        · rw [m7, p3, ← u2, gU 7 i rfl, gV 7 i rfl, k77, h7]
      by_cases qa : tfV (S.1 0 7) a = 0
      · rw [if_pos qa] at e1
        rw [qa] at e2
        replace e2 := bnd_s e2 (en_0 _)
        rw [if_pos rfl] at e2
        replace e1 := bnd_s e1 (tf_v _ _)
        replace e2 := bnd_s e2 (ms_v _ _)
        rw [gT 66 7 rfl, ht] at e1
        rw [gV 0 7 rfl, k7] at e2
        rw [f_Yard_link_j53.eq_1] at e1
        by_cases qc : tfV (S.1 0 7) c = 0
        · rw [if_pos qc] at e1
          rw [qc] at e2
          replace e2 := bnd_s e2 (en_0 _)
          rw [if_pos rfl] at e2
          obtain ⟨ta, ta1, rfl⟩ := tf0 qa
          obtain ⟨tc, tc1, rfl⟩ := tf0 qc
          obtain ⟨sb, sb1, rfl⟩ := in01 q
          obtain ⟨sd, sd1, rfl⟩ := in01 q2
          rw [idx_n, idx_n] at e1 e2
          have he : 2 * ta + sb < 48 := by omega
          have hf : 2 * tc + sd < 48 := by omega
          generalize hE : 2 * ta + sb = e at e1 e2 he
          generalize hF : 2 * tc + sd = f at e1 e2 hf
          obtain ⟨n, en, n1, n2, n3⟩ := rg_ex (ro_96 hW e) (by omega)
          obtain ⟨m, em, mm1, mm2, mm3⟩ := rg_ex (ro_96 hW f) (by omega)
          have nT : T.1 96 e = nI n := by rw [gT 96 _ rfl, en]
          have mT : T.1 96 f = nI m := by rw [gT 96 _ rfl, em]
          have nV : V.1 6 e = nI n := by rw [gV 6 _ rfl, k6, ← h6, en]
          have mV : V.1 6 f = nI m := by rw [gV 6 _ rfl, k6, ← h6, em]
          have c5e : T.1 94 e = V.1 5 e := by rw [gT 94 _ rfl, hq, gV 5 _ rfl, k5]
          have c5f : T.1 94 f = V.1 5 f := by rw [gT 94 _ rfl, hq, gV 5 _ rfl, k5]
          have c7 : ∀ i, T.1 97 i = V.1 7 i := fun i => by rw [gT 97 _ rfl, h7, gV 7 _ rfl, k77]
          -- the reference's loop
          have hz : ∀ b0 : Bool, f_M_link_j75 (nI e) (nI f) (bI b0) V = some (r2, S2) → ∃ (b' : Bool) (N' : Nat), f_M_link_L80 (N' + 1) (nI e) (nI f) (bI b') (nI n) V = some (r2, S2) ∧ (b' = true ↔ (b0 = true ∨ ∃ j, j < n ∧ V.1 7 (3 * e + j) = nI f)) := fun b0 h0 => by
            rw [f_M_link_j75.eq_1] at h0
            obtain ⟨b', N', x1, x2⟩ := l80_n (w := nI f) he nV (by omega) NF 0 b0 (by omega) (by have : NF = 100000 := rfl; omega)
            have h0 : f_M_link_L80 NF (nI e) (nI f) (bI b0) (nI 0) V = some (r2, S2) := h0
            rw [x1] at h0
            refine ⟨b', N', h0, x2.trans ⟨fun k => ?_, fun k => ?_⟩⟩
            · rcases k with k | ⟨j, -, j2, j3⟩
              · exact Or.inl k
              · exact Or.inr ⟨j, j2, j3⟩
            · rcases k with k | ⟨j, j2, j3⟩
              · exact Or.inl k
              · exact Or.inr ⟨j, by omega, j2, j3⟩
          have j164 : ∀ {U : SS}, f_M_link_j164 U = some (r2, S2) → r2 = -2 ∧ F1 [1] [(0, 0)] U S2 := fun {U} hj => by
            rw [f_M_link_j164.eq_1] at hj
            replace hj := bnd_t hj
            obtain ⟨v, U9, h9, hj⟩ := hj
            obtain ⟨p1, p2⟩ := mo_t h9
            injection hj with hj; injection hj with b1 b2
            rw [← b1, ← b2]
            exact ⟨p1, p2⟩
          have hz2 : ∃ (b' : Bool) (N' : Nat), f_M_link_L80 (N' + 1) (nI e) (nI f) (bI b') (nI n) V = some (r2, S2) ∧ (b' = true ↔ (e = f ∨ ∃ j, j < n ∧ V.1 7 (3 * e + j) = nI f)) := by
            have e2 : (if nI e = nI f then f_M_link_j75 (nI e) (nI f) 1 V else f_M_link_j75 (nI e) (nI f) 0 V) = some (r2, S2) := e2
            by_cases ef : e = f
            · rw [if_pos (by rw [ef])] at e2
              obtain ⟨b', N', x1, x2⟩ := hz true e2
              exact ⟨b', N', x1, x2.trans ⟨fun _ => Or.inl ef, fun _ => Or.inl rfl⟩⟩
            · rw [if_neg (fun k => ef (nI_inj (by omega) (by omega) k))] at e2
              obtain ⟨b', N', x1, x2⟩ := hz false e2
              refine ⟨b', N', x1, x2.trans ⟨fun k => ?_, fun k => ?_⟩⟩
              · rcases k with k | k
                · cases k
                · exact Or.inr k
              · rcases k with k | k
                · exact absurd k ef
                · exact Or.inr k
          obtain ⟨b', N', x1, x2⟩ := hz2
          rw [f_M_link_L80.eq_2, inb_nI he (by omega), nI_clamp (n := e) (by omega), nV] at x1
          have x1 : (if nI n ≤ nI n then (if bI b' = 0 then grd true (bnd (f_M_mostLinks (nI e) V) (fun r19 S18 => if r19 ≤ nI n then f_M_link_j164 S18 else grd (inb (nI f) 48) (bnd (f_M_mostLinks (nI f) S18) (fun r21 S20 => if (S18.1 6 (nI f).toNatClampNeg) < r21 then grd true (grd (inb (((3 : Int32) * nI e) + (S20.1 6 e)) 144) (wr S20 7 (((3 : Int32) * nI e) + (S20.1 6 e)).toNatClampNeg (nI f) (fun S22 => grd true (grd (inb (((3 : Int32) * nI e) + (S22.1 6 e)) 144) (wr S22 8 (((3 : Int32) * nI e) + (S22.1 6 e)).toNatClampNeg (S22.1 0 14) (fun S23 => grd true (grd true (wr S23 6 e ((S23.1 6 e) + (1 : Int32)) (fun S24 => grd (inb (nI f) 48) (grd (inb (((3 : Int32) * nI f) + (S24.1 6 (nI f).toNatClampNeg)) 144) (wr S24 7 (((3 : Int32) * nI f) + (S24.1 6 (nI f).toNatClampNeg)).toNatClampNeg (nI e) (fun S25 => grd (inb (nI f) 48) (grd (inb (((3 : Int32) * nI f) + (S25.1 6 (nI f).toNatClampNeg)) 144) (wr S25 8 (((3 : Int32) * nI f) + (S25.1 6 (nI f).toNatClampNeg)).toNatClampNeg (S25.1 0 14) (fun S26 => grd (inb (nI f) 48) (grd (inb (nI f) 48) (wr S26 6 (nI f).toNatClampNeg ((S26.1 6 (nI f).toNatClampNeg) + (1 : Int32)) (fun S27 => wr S27 0 14 ((S27.1 0 14) + (1 : Int32)) (fun S28 => bndv (f_M_forget S28) (fun S29 => some ((1 : Int32), S29))))))))))))))))))))) else f_M_link_j164 S20)))) else f_M_link_j164 V) else _) = some (r2, S2) := x1
          rw [if_pos (nI_le (Nat.le_refl _) (by omega))] at x1
          -- the class
          replace e1 := bnd_t e1
          obtain ⟨r13, T2, h13, e1⟩ := e1
          rw [f_Layout_mayJoin.eq_1] at h13
          have cls : T2 = T ∧ ((r13 = 0 ∧ ¬ (e ≠ f ∧ (¬ ∃ j, j < n ∧ T.1 97 (3 * e + j) = nI f) ∧ n < (if T.1 94 e = -4 then 1 else 3) ∧ m < (if T.1 94 f = -4 then 1 else 3))) ∨ (r13 = 1 ∧ (e ≠ f ∧ (¬ ∃ j, j < n ∧ T.1 97 (3 * e + j) = nI f) ∧ n < (if T.1 94 e = -4 then 1 else 3) ∧ m < (if T.1 94 f = -4 then 1 else 3)))) := by
            by_cases ef : e = f
            · rw [if_pos (by rw [ef])] at h13
              injection h13 with h13; injection h13 with b1 b2
              exact ⟨b2.symm, Or.inl ⟨b1.symm, fun k => k.1 ef⟩⟩
            · rw [if_neg (fun k => ef (nI_inj (by omega) (by omega) k)), f_Layout_areJoined.eq_1] at h13
              obtain ⟨bj, ej, pj⟩ := aj_n (w := nI f) he nT (by omega) NF 0 (by omega) (by have : NF = 100000 := rfl; omega)
              have pj : bj = true ↔ ∃ j, j < n ∧ T.1 97 (3 * e + j) = nI f := pj.trans ⟨fun ⟨j, _, j2, j3⟩ => ⟨j, j2, j3⟩, fun ⟨j, j2, j3⟩ => ⟨j, Nat.zero_le _, j2, j3⟩⟩
              replace h13 := bnd_s h13 ej
              cases hbj : bj with
              | true =>
                rw [hbj, if_neg (show ¬ bI true = 0 by decide)] at h13
                injection h13 with h13; injection h13 with b1 b2
                exact ⟨b2.symm, Or.inl ⟨b1.symm, fun k => k.2.1 (pj.mp hbj)⟩⟩
              | false =>
                have nj : ¬ ∃ j, j < n ∧ T.1 97 (3 * e + j) = nI f := fun k => by rw [pj.mpr k] at hbj; cases hbj
                rw [hbj, if_pos (show bI false = 0 from rfl)] at h13
                replace h13 := bnd_s h13 (mg_n he nT (by omega))
                by_cases g1 : n < (if T.1 94 e = -4 then 1 else 3)
                · rw [if_pos g1, if_neg (by decide)] at h13
                  replace h13 := bnd_s h13 (mg_n hf mT (by omega))
                  by_cases g2 : m < (if T.1 94 f = -4 then 1 else 3)
                  · rw [if_pos g2, if_neg (by decide)] at h13
                    injection h13 with h13; injection h13 with b1 b2
                    exact ⟨b2.symm, Or.inr ⟨b1.symm, ef, nj, g1, g2⟩⟩
                  · rw [if_neg g2, if_pos rfl] at h13
                    injection h13 with h13; injection h13 with b1 b2
                    exact ⟨b2.symm, Or.inl ⟨b1.symm, fun k => g2 k.2.2.2⟩⟩
                · rw [if_neg g1, if_pos rfl] at h13
                  injection h13 with h13; injection h13 with b1 b2
                  exact ⟨b2.symm, Or.inl ⟨b1.symm, fun k => g1 k.2.2.1⟩⟩
          obtain ⟨eT, cls⟩ := cls
          subst eT
          have c97 : (∃ j, j < n ∧ T2.1 97 (3 * e + j) = nI f) ↔ ∃ j, j < n ∧ V.1 7 (3 * e + j) = nI f := ⟨fun ⟨j, j2, j3⟩ => ⟨j, j2, by rw [← c7]; exact j3⟩, fun ⟨j, j2, j3⟩ => ⟨j, j2, by rw [c7]; exact j3⟩⟩
          have lim : ∀ {z : Int32} {k : Nat}, k ≤ 3 → ((if z = -4 then (1 : Int32) else 3) ≤ nI k ↔ ¬ k < (if z = -4 then 1 else 3)) := fun {z k} hk => by
            by_cases zq : z = -4
            · rw [if_pos zq, if_pos zq]
              constructor
              · intro x y
                exact absurd x (show ¬ ((1 : Int32) ≤ nI k) from nI_ge (b := 1) y (by omega))
              · intro x
                exact (show (1 : Int32) ≤ nI k from nI_le (a := 1) (by omega) (by omega))
            · rw [if_neg zq, if_neg zq]
              constructor
              · intro x y
                exact absurd x (show ¬ ((3 : Int32) ≤ nI k) from nI_ge (b := 3) y (by omega))
              · intro x
                exact (show (3 : Int32) ≤ nI k from nI_le (a := 3) (by omega) (by omega))
          rcases cls with ⟨r0, no⟩ | ⟨r0, ef, nj, g1, g2⟩
          · rw [if_pos r0] at e1
            have p := no1 (by decide) e1
            have fin : r2 = -2 ∧ F1 [1] [(0, 0)] V S2 := by
              cases hb' : b' with
              | true =>
                rw [hb', if_neg (show ¬ bI true = 0 by decide)] at x1
                exact j164 x1
              | false =>
                rw [hb', if_pos (show bI false = 0 from rfl)] at x1
                have nf : ¬ (e = f ∨ ∃ j, j < n ∧ V.1 7 (3 * e + j) = nI f) := fun k => by rw [x2.mpr k] at hb'; cases hb'
                replace x1 := (grd_t x1).2
                replace x1 := bnd_s x1 (ml_n he)
                by_cases l1 : n < (if T2.1 94 e = -4 then 1 else 3)
                · rw [c5e] at l1
                  rw [if_neg (fun z => (lim (by omega)).mp z l1)] at x1
                  replace x1 := (grd_t x1).2
                  replace x1 := bnd_s x1 (ml_n hf)
                  rw [nI_clamp (n := f) (by omega), mV, if_neg] at x1
                  · exact j164 x1
                  · intro z
                    refine no ⟨fun k => nf (Or.inl k), fun k => nf (Or.inr (c97.mp k)), by rw [c5e]; exact l1, ?_⟩
                    rw [c5f]
                    apply Classical.byContradiction
                    intro y
                    have := (lim (z := V.1 5 f) (k := m) (by omega)).mpr y
                    rw [Int32.lt_iff_toInt_lt] at z
                    rw [Int32.le_iff_toInt_le] at this
                    omega
                · rw [c5e] at l1
                  rw [if_pos ((lim (by omega)).mpr l1)] at x1
                  exact j164 x1
            exact no2 fin.2 ⟨fin.1, rfl⟩ p
          · rw [if_neg (by rw [r0]; decide), f_Yard_link_j83.eq_1, if_pos qc, idx_n, idx_n, hE, hF] at e1
            replace e1 := bndv_t e1
            obtain ⟨T3, hT3, e1⟩ := e1
            have gT3 := hf_t hT3
            replace e1 := bndv_t e1
            obtain ⟨T4, hT4, e1⟩ := e1
            injection e1 with e1; injection e1 with a1 a2
            rw [f_Layout_join.eq_1] at hT4
            replace hT4 := bndv_t hT4
            obtain ⟨T5, hT5, hT4⟩ := hT4
            replace hT4 := bndv_t hT4
            obtain ⟨T6, hT6, hT4⟩ := hT4
            have e64 := some_1 hT4
            have n3' : n < 3 := by
              have := g1
              by_cases zq : T2.1 94 e = -4
              · rw [if_pos zq] at this; omega
              · rw [if_neg zq] at this; exact this
            have m3' : m < 3 := by
              have := g2
              by_cases zq : T2.1 94 f = -4
              · rw [if_pos zq] at this; omega
              · rw [if_neg zq] at this; exact this
            obtain ⟨y1, y2, y3⟩ := al_n (f := f) he (by rw [gT3 96 _ rfl, nT]) n3' hT5
            obtain ⟨y4, y5, y6⟩ := al_n (f := e) hf (by rw [y2, if_neg (Ne.symm ef), gT3 96 _ rfl, mT]) m3' hT6
            have hb' : b' = false := by
              cases hb' : b' with
              | false => rfl
              | true =>
                rcases x2.mp hb' with k | k
                · exact absurd k ef
                · exact absurd (c97.mpr k) nj
            rw [hb', if_pos (show bI false = 0 from rfl)] at x1
            replace x1 := (grd_t x1).2
            replace x1 := bnd_s x1 (ml_n he)
            rw [c5e] at g1
            rw [c5f] at g2
            rw [if_neg (fun z => (lim (by omega)).mp z g1)] at x1
            replace x1 := (grd_t x1).2
            replace x1 := bnd_s x1 (ml_n hf)
            rw [nI_clamp (n := f) (by omega), mV, if_pos] at x1
            rotate_left
            · have : ¬ ((if V.1 5 f = -4 then (1 : Int32) else 3) ≤ nI m) := fun z => (lim (z := V.1 5 f) (k := m) (by omega)).mp z g2
              rw [Int32.lt_iff_toInt_lt]
              rw [Int32.le_iff_toInt_le] at this
              omega
            rw [nV, i3_n, nI_clamp (n := 3 * e + n) (by omega)] at x1
            replace x1 := (grd_t (grd_t x1).2).2
            replace x1 := wr_t x1
            obtain ⟨U1, u1, x1⟩ := x1
            replace x1 := (grd_t (grd_t x1).2).2
            replace x1 := wr_t x1
            obtain ⟨U2, u2, x1⟩ := x1
            replace x1 := (grd_t (grd_t x1).2).2
            replace x1 := wr_t x1
            obtain ⟨U3, u3, x1⟩ := x1
            have v3 : U3.1 6 f = nI m := by rw [u3, st_at, if_pos rfl, if_neg (Ne.symm ef), u2, st_at, if_neg (by decide), u1, st_at, if_neg (by decide), mV]
            rw [v3, i3_n, nI_clamp (n := 3 * f + m) (by omega)] at x1
            replace x1 := (grd_t (grd_t x1).2).2
            replace x1 := wr_t x1
            obtain ⟨U4, u4, x1⟩ := x1
            replace x1 := (grd_t (grd_t x1).2).2
            replace x1 := wr_t x1
            obtain ⟨U5, u5, x1⟩ := x1
            replace x1 := (grd_t (grd_t x1).2).2
            replace x1 := wr_t x1
            obtain ⟨U6, u6, x1⟩ := x1
            replace x1 := wr_t x1
            obtain ⟨U7, u7, x1⟩ := x1
            replace x1 := bndv_t x1
            obtain ⟨U8, h8, x1⟩ := x1
            have g8 := mf_t h8
            injection x1 with x1; injection x1 with d1 d2
            have w2 : U2.1 6 e = nI n := by rw [u2, st_at, if_neg (by decide), u1, st_at, if_neg (by decide), nV]
            have w5 : U5.1 6 f = nI m := by rw [u5, st_at, if_neg (by decide), u4, st_at, if_neg (by decide), v3]
            have k6' : ∀ i, U8.1 6 i = if i = f then nI (m + 1) else if i = e then nI (n + 1) else S.1 6 i := fun i => by
              rw [g8 6 i rfl, u7, st_at, if_neg (by decide), u6, st_at, if_pos rfl, w5, nI_1]
              by_cases cf : i = f
              · rw [if_pos cf, if_pos cf]
              · rw [if_neg cf, if_neg cf, u5, st_at, if_neg (by decide), u4, st_at, if_neg (by decide), u3, st_at, if_pos rfl, w2, nI_1]
                by_cases ce : i = e
                · rw [if_pos ce, if_pos ce]
                · rw [if_neg ce, if_neg ce, u2, st_at, if_neg (by decide), u1, st_at, if_neg (by decide), gV 6 i rfl, k6]
            have k7' : ∀ i, U8.1 7 i = if i = 3 * f + m then nI e else if i = 3 * e + n then nI f else S.1 7 i := fun i => by
              rw [g8 7 i rfl, u7, st_at, if_neg (by decide), u6, st_at, if_neg (by decide), u5, st_at, if_neg (by decide), u4, st_at, if_pos rfl]
              by_cases cf : i = 3 * f + m
              · rw [if_pos cf, if_pos cf]
              · rw [if_neg cf, if_neg cf, u3, st_at, if_neg (by decide), u2, st_at, if_neg (by decide), u1, st_at, if_pos rfl]
                by_cases ce : i = 3 * e + n
                · rw [if_pos ce, if_pos ce]
                · rw [if_neg ce, if_neg ce, gV 7 i rfl, k77]
            refine ⟨by rw [← a1, ← d1], fun i => ?_, fun i => ?_⟩
            · rw [m6, ← a2, ← e64, y5, ← d2, k6']
              by_cases cf : i = f
              · rw [if_pos cf, if_pos cf]
              · rw [if_neg cf, if_neg cf, y2]
                by_cases ce : i = e
                · rw [if_pos ce, if_pos ce]
                · rw [if_neg ce, if_neg ce, gT3 96 i rfl, gT 96 i rfl, h6]
            · rw [m7, ← a2, ← e64, y6, ← d2, k7']
              by_cases cf : i = 3 * f + m
              · rw [if_pos cf, if_pos cf]
              · rw [if_neg cf, if_neg cf, y3]
                by_cases ce : i = 3 * e + n
                · rw [if_pos ce, if_pos ce]
                · rw [if_neg ce, if_neg ce, gT3 97 i rfl, gT 97 i rfl, h7]
        · rw [if_neg qc] at e1
          replace e2 := bnd_t e2
          obtain ⟨v, U, hU, e2⟩ := e2
          obtain ⟨u1, u2⟩ := en_1 qc hU
          rw [if_neg (by rw [u1]; decide)] at e2
          injection e2 with e2; injection e2 with d1 d2
          exact no2 u2 ⟨d1.symm, d2⟩ (no1 qc e1)
      · rw [if_neg qa, f_Yard_link_j53.eq_1, if_neg qa] at e1
        replace e2 := bnd_t e2
        obtain ⟨v, U, hU, e2⟩ := e2
        obtain ⟨u1, u2⟩ := en_1 qa hU
        rw [if_neg (by rw [u1]; decide)] at e2
        injection e2 with e2; injection e2 with d1 d2
        exact no2 u2 ⟨d1.symm, d2⟩ (no1 qa e1)
    · rw [if_neg q2] at e1
      rw [if_pos (Classical.byContradiction (fun c => q2 (sd_in.mpr c)))] at e2
      exact stay e1 e2
  · rw [if_neg q] at e1
    rw [if_pos (Classical.byContradiction (fun c => q (sd_in.mpr c)))] at e2
    exact stay e1 e2
end
section
/-! ===== bound ===== -/
theorem po2_start {s h i0 : Nat} {S : SS} {w : Int32} (hs : s < 4) (hh : S.1 123 s = nI h) (h10 : h ≤ 10) (h0 : i0 < h) (ew : S.1 122 (10 * s + i0) = w) (un : ∀ j, j < h → S.1 122 (10 * s + j) = w → j = i0) : ∀ (N i : Nat), i ≤ i0 → i0 < N + i → f_Stacks_placeOn_start_L2 N (nI s) w (nI i) S = some (nI i0, S)
  | 0, i, hi, hN => by omega
  | N + 1, i, hi, hN => by
    rw [f_Stacks_placeOn_start_L2.eq_2, hs_n _ hs, bnd_r, hh, if_neg (nI_ge (by omega) (by omega)), wa_start hs hh h10 (by omega), bnd_r]
    by_cases c : i = i0
    · rw [c, if_pos ew]
    · rw [if_neg (fun q => c (un i (by omega) q))]
      show f_Stacks_placeOn_start_L2 N (nI s) w (nI i + 1) S = _
      rw [nI_1]
      exact po2_start hs hh h10 h0 ew un N (i + 1) (by omega) (by omega)
theorem sk2_start {S : SS} {w : Int32} {s0 i0 : Nat} (hW : WR S) (hD : DW (S.1 123) (S.1 122)) (hs0 : s0 < 4) (hi0 : (i0 : Int) < (S.1 123 s0).toInt) (ew : S.1 122 (10 * s0 + i0) = w) : ∀ (N s : Nat), s ≤ s0 → s0 < N + s → f_Stacks_stackOf_start_L2 N w (nI s) S = some (nI s0, S)
  | 0, s, hs, hN => by omega
  | N + 1, s, hs, hN => by
    rw [f_Stacks_stackOf_start_L2.eq_2, if_neg (show ¬ ((4 : Int32) ≤ nI s) from nI_ge (b := 4) (by omega) (by omega))]
    obtain ⟨h, eh, h1, h2, h3⟩ := rg_ex (ro_123 hW s) (by omega)
    have th : (S.1 123 s).toInt = (h : Int) := by rw [eh, nI_ti (by omega)]
    by_cases c : s = s0
    · subst c
      have e := po2_start (w := w) (by omega) eh (by omega) (i0 := i0) (by omega) ew (fun j hj q => (hD s j s i0 hs0 hs0 (by omega) hi0 (q.trans ew.symm)).2) NF 0 (by omega) (by have : NF = 100000 := rfl; omega)
      have e : f_Stacks_placeOn_start (nI s) w S = some (nI i0, S) := e
      rw [e, bnd_r, if_neg (nI_m4 (by omega))]
    · obtain ⟨r, e, p⟩ := po_start (w := w) (by omega) eh (by omega) NF 0 (by omega) (by have : NF = 100000 := rfl; omega)
      have e : f_Stacks_placeOn_start (nI s) w S = some (r, S) := e
      rw [e, bnd_r]
      rcases p with ⟨p1, -⟩ | ⟨-, j, -, p3, p4⟩
      · rw [if_pos p1]
        show f_Stacks_stackOf_start_L2 N w (nI s + 1) S = _
        rw [nI_1]
        exact sk2_start hW hD hs0 hi0 ew N (s + 1) (by omega) (by omega)
      · exact absurd (hD s j s0 i0 (by omega) hs0 (by omega) hi0 (p4.trans ew.symm)).1 c
theorem be_start {S : SS} {w : Int32} {s i : Nat} (hW : WR S) (hD : DW (S.1 123) (S.1 122)) (hs : s < 4) (hi : (i : Int) < (S.1 123 s).toInt) (ew : S.1 122 (10 * s + i) = w) : f_Stacks_below_start w S = some (if i = 0 then nI (10 + s) else S.1 122 (10 * s + (i - 1)), S) := by
  obtain ⟨h, eh, h1, h2, h3⟩ := rg_ex (ro_123 hW s) (by omega)
  have th : (S.1 123 s).toInt = (h : Int) := by rw [eh, nI_ti (by omega)]
  have e1 : f_Stacks_stackOf_start w S = some (nI s, S) := by
    rw [f_Stacks_stackOf_start.eq_1]
    exact sk2_start hW hD hs hi ew NF 0 (by omega) (by have : NF = 100000 := rfl; omega)
  have e2 : f_Stacks_placeOn_start (nI s) w S = some (nI i, S) := by
    rw [f_Stacks_placeOn_start.eq_1]
    exact po2_start (w := w) hs eh (by omega) (i0 := i) (by omega) ew (fun j hj q => (hD s j s i hs hs (by omega) hi (q.trans ew.symm)).2) NF 0 (by omega) (by have : NF = 100000 := rfl; omega)
  rw [f_Stacks_below_start.eq_1, e1, bnd_r, e2, bnd_r]
  by_cases c : i = 0
  · subst c
    rw [if_pos (by decide), if_pos rfl, show (10 : Int32) + nI s = nI (10 + s) from nI_add 10 s]
  · rw [if_neg (show ¬ (nI i ≤ 0) from nI_ge (a := 0) (b := i) (by omega) (by omega)), if_neg c, show nI i - (1 : Int32) = nI (i - 1) from nI_sb (b := 1) (by omega) (by omega), wa_start hs eh (by omega) (by omega), bnd_r]
theorem po2_goal {s h i0 : Nat} {S : SS} {w : Int32} (hs : s < 4) (hh : S.1 125 s = nI h) (h10 : h ≤ 10) (h0 : i0 < h) (ew : S.1 124 (10 * s + i0) = w) (un : ∀ j, j < h → S.1 124 (10 * s + j) = w → j = i0) : ∀ (N i : Nat), i ≤ i0 → i0 < N + i → f_Stacks_placeOn_goal_L2 N (nI s) w (nI i) S = some (nI i0, S)
  | 0, i, hi, hN => by omega
  | N + 1, i, hi, hN => by
    rw [f_Stacks_placeOn_goal_L2.eq_2, hg_n _ hs, bnd_r, hh, if_neg (nI_ge (by omega) (by omega)), wa_goal hs hh h10 (by omega), bnd_r]
    by_cases c : i = i0
    · rw [c, if_pos ew]
    · rw [if_neg (fun q => c (un i (by omega) q))]
      show f_Stacks_placeOn_goal_L2 N (nI s) w (nI i + 1) S = _
      rw [nI_1]
      exact po2_goal hs hh h10 h0 ew un N (i + 1) (by omega) (by omega)
theorem sk2_goal {S : SS} {w : Int32} {s0 i0 : Nat} (hW : WR S) (hD : DW (S.1 125) (S.1 124)) (hs0 : s0 < 4) (hi0 : (i0 : Int) < (S.1 125 s0).toInt) (ew : S.1 124 (10 * s0 + i0) = w) : ∀ (N s : Nat), s ≤ s0 → s0 < N + s → f_Stacks_stackOf_goal_L2 N w (nI s) S = some (nI s0, S)
  | 0, s, hs, hN => by omega
  | N + 1, s, hs, hN => by
    rw [f_Stacks_stackOf_goal_L2.eq_2, if_neg (show ¬ ((4 : Int32) ≤ nI s) from nI_ge (b := 4) (by omega) (by omega))]
    obtain ⟨h, eh, h1, h2, h3⟩ := rg_ex (ro_125 hW s) (by omega)
    have th : (S.1 125 s).toInt = (h : Int) := by rw [eh, nI_ti (by omega)]
    by_cases c : s = s0
    · subst c
      have e := po2_goal (w := w) (by omega) eh (by omega) (i0 := i0) (by omega) ew (fun j hj q => (hD s j s i0 hs0 hs0 (by omega) hi0 (q.trans ew.symm)).2) NF 0 (by omega) (by have : NF = 100000 := rfl; omega)
      have e : f_Stacks_placeOn_goal (nI s) w S = some (nI i0, S) := e
      rw [e, bnd_r, if_neg (nI_m4 (by omega))]
    · obtain ⟨r, e, p⟩ := po_goal (w := w) (by omega) eh (by omega) NF 0 (by omega) (by have : NF = 100000 := rfl; omega)
      have e : f_Stacks_placeOn_goal (nI s) w S = some (r, S) := e
      rw [e, bnd_r]
      rcases p with ⟨p1, -⟩ | ⟨-, j, -, p3, p4⟩
      · rw [if_pos p1]
        show f_Stacks_stackOf_goal_L2 N w (nI s + 1) S = _
        rw [nI_1]
        exact sk2_goal hW hD hs0 hi0 ew N (s + 1) (by omega) (by omega)
      · exact absurd (hD s j s0 i0 (by omega) hs0 (by omega) hi0 (p4.trans ew.symm)).1 c
theorem be_goal {S : SS} {w : Int32} {s i : Nat} (hW : WR S) (hD : DW (S.1 125) (S.1 124)) (hs : s < 4) (hi : (i : Int) < (S.1 125 s).toInt) (ew : S.1 124 (10 * s + i) = w) : f_Stacks_below_goal w S = some (if i = 0 then nI (10 + s) else S.1 124 (10 * s + (i - 1)), S) := by
  obtain ⟨h, eh, h1, h2, h3⟩ := rg_ex (ro_125 hW s) (by omega)
  have th : (S.1 125 s).toInt = (h : Int) := by rw [eh, nI_ti (by omega)]
  have e1 : f_Stacks_stackOf_goal w S = some (nI s, S) := by
    rw [f_Stacks_stackOf_goal.eq_1]
    exact sk2_goal hW hD hs hi ew NF 0 (by omega) (by have : NF = 100000 := rfl; omega)
  have e2 : f_Stacks_placeOn_goal (nI s) w S = some (nI i, S) := by
    rw [f_Stacks_placeOn_goal.eq_1]
    exact po2_goal (w := w) hs eh (by omega) (i0 := i) (by omega) ew (fun j hj q => (hD s j s i hs hs (by omega) hi (q.trans ew.symm)).2) NF 0 (by omega) (by have : NF = 100000 := rfl; omega)
  rw [f_Stacks_below_goal.eq_1, e1, bnd_r, e2, bnd_r]
  by_cases c : i = 0
  · subst c
    rw [if_pos (by decide), if_pos rfl, show (10 : Int32) + nI s = nI (10 + s) from nI_add 10 s]
  · rw [if_neg (show ¬ (nI i ≤ 0) from nI_ge (a := 0) (b := i) (by omega) (by omega)), if_neg c, show nI i - (1 : Int32) = nI (i - 1) from nI_sb (b := 1) (by omega) (by omega), wa_goal hs eh (by omega) (by omega), bnd_r]
theorem ud15_s {S : SS} {K : Int32 → Int32 → Int32 → SS → Option (Int32 × SS)} {w : Int32} {s : Nat} {P : Option (Int32 × SS) → Prop} (hW : WR S) (hs : s < 4) (F : Nat → Nat → Int32 → Prop) (hF : ∀ (i : Nat) (r : Int32), (i : Int) < (S.1 47 s).toInt → F s i r → F s (i + 1) (if S.1 48 (10 * s + i) = w then (if i = 0 then nI (100 + s) else S.1 48 (10 * s + (i - 1))) else r)) (hK : ∀ (r : Int32) (i : Nat), (S.1 47 s).toInt ≤ i → F s i r → P (K w r (nI (s + 1)) S)) : ∀ (N i : Nat) (r : Int32), F s i r → (i : Int) ≤ (S.1 47 s).toInt → (S.1 47 s).toInt - i < (N : Int) → P (f_M_under_M_startMany_M_startOn_L15 K N w r (nI s) (nI i) S)
  | 0, i, r, hr, hi, hN => by omega
  | N + 1, i, r, hr, hi, hN => by
    obtain ⟨h, eh, h1, h2, h3⟩ := rg_ex (ro_47 hW s) (by omega)
    have th : (S.1 47 s).toInt = (h : Int) := by rw [eh, nI_ti (by omega)]
    rw [f_M_under_M_startMany_M_startOn_L15.eq_2, inb_nI hs (by omega), nI_clamp (n := s) (by omega), eh]
    show P (if nI h ≤ nI i then nm (nI s + 1) (fun z1 => K w r z1 S) else _)
    by_cases c : h ≤ i
    · rw [if_pos (nI_le c (by omega))]
      show P (K w r (nI s + 1) S)
      rw [nI_1]
      exact hK r i (by omega) hr
    · rw [if_neg (nI_ge (by omega) (by omega)), show (10 : Int32) * nI s + nI i = nI (10 * s + i) by rw [show (10 : Int32) * nI s = nI (10 * s) from nI_mul 10 s, nI_add], inb_nI (by omega) (by omega), nI_clamp (n := 10 * s + i) (by omega)]
      have hf := hF i r (by omega) hr
      have go : ∀ r', F s (i + 1) r' → P (f_M_under_M_startMany_M_startOn_j64 (fun v0 v1 v2 v3 S => f_M_under_M_startMany_M_startOn_L15 K N v0 v1 v2 v3 S) w r' (nI s) (nI i) S) := fun r' hr' => by
        rw [f_M_under_M_startMany_M_startOn_j64.eq_1]
        show P (f_M_under_M_startMany_M_startOn_L15 K N w r' (nI s) (nI i + 1) S)
        rw [nI_1]
        exact ud15_s hW hs F hF hK N (i + 1) r' hr' (by omega) (by omega)
      by_cases q : S.1 48 (10 * s + i) = w
      · rw [if_pos q] at hf
        show P (if S.1 48 (10 * s + i) = w then (if nI i = 0 then f_M_under_M_startMany_M_startOn_j63 (fun v0 v1 v2 v3 S => f_M_under_M_startMany_M_startOn_L15 K N v0 v1 v2 v3 S) w (nI s) (nI i) ((100 : Int32) + nI s) S else grd (inb (nI (10 * s + i) - (1 : Int32)) 40) (f_M_under_M_startMany_M_startOn_j63 (fun v0 v1 v2 v3 S => f_M_under_M_startMany_M_startOn_L15 K N v0 v1 v2 v3 S) w (nI s) (nI i) (S.1 48 (nI (10 * s + i) - (1 : Int32)).toNatClampNeg) S)) else _)
        rw [if_pos q]
        by_cases c0 : i = 0
        · subst c0
          rw [if_pos rfl] at hf
          rw [if_pos (show nI 0 = 0 from rfl), f_M_under_M_startMany_M_startOn_j63.eq_1, show (100 : Int32) + nI s = nI (100 + s) from nI_add 100 s]
          exact go _ hf
        · rw [if_neg c0] at hf
          rw [if_neg (show ¬ nI i = 0 from fun z => c0 (nI_inj (by omega) (by omega) (z.trans (show (0 : Int32) = nI 0 from rfl)))), show nI (10 * s + i) - (1 : Int32) = nI (10 * s + (i - 1)) by rw [show nI (10 * s + i) - (1 : Int32) = nI (10 * s + i - 1) from nI_sb (b := 1) (by omega) (by omega)]; exact congrArg nI (by omega), inb_nI (by omega) (by omega), nI_clamp (n := 10 * s + (i - 1)) (by omega)]
          show P (f_M_under_M_startMany_M_startOn_j63 (fun v0 v1 v2 v3 S => f_M_under_M_startMany_M_startOn_L15 K N v0 v1 v2 v3 S) w (nI s) (nI i) (S.1 48 (10 * s + (i - 1))) S)
          rw [f_M_under_M_startMany_M_startOn_j63.eq_1]
          exact go _ hf
      · rw [if_neg q] at hf
        show P (if S.1 48 (10 * s + i) = w then _ else f_M_under_M_startMany_M_startOn_j64 (fun v0 v1 v2 v3 S => f_M_under_M_startMany_M_startOn_L15 K N v0 v1 v2 v3 S) w r (nI s) (nI i) S)
        rw [if_neg q]
        exact go _ hf
theorem ud15_g {S : SS} {K : Int32 → Int32 → Int32 → SS → Option (Int32 × SS)} {w : Int32} {s : Nat} {P : Option (Int32 × SS) → Prop} (hW : WR S) (hs : s < 4) (F : Nat → Nat → Int32 → Prop) (hF : ∀ (i : Nat) (r : Int32), (i : Int) < (S.1 49 s).toInt → F s i r → F s (i + 1) (if S.1 50 (10 * s + i) = w then (if i = 0 then nI (100 + s) else S.1 50 (10 * s + (i - 1))) else r)) (hK : ∀ (r : Int32) (i : Nat), (S.1 49 s).toInt ≤ i → F s i r → P (K w r (nI (s + 1)) S)) : ∀ (N i : Nat) (r : Int32), F s i r → (i : Int) ≤ (S.1 49 s).toInt → (S.1 49 s).toInt - i < (N : Int) → P (f_M_under_M_goalMany_M_goalOn_L15 K N w r (nI s) (nI i) S)
  | 0, i, r, hr, hi, hN => by omega
  | N + 1, i, r, hr, hi, hN => by
    obtain ⟨h, eh, h1, h2, h3⟩ := rg_ex (ro_49 hW s) (by omega)
    have th : (S.1 49 s).toInt = (h : Int) := by rw [eh, nI_ti (by omega)]
    rw [f_M_under_M_goalMany_M_goalOn_L15.eq_2, inb_nI hs (by omega), nI_clamp (n := s) (by omega), eh]
    show P (if nI h ≤ nI i then nm (nI s + 1) (fun z1 => K w r z1 S) else _)
    by_cases c : h ≤ i
    · rw [if_pos (nI_le c (by omega))]
      show P (K w r (nI s + 1) S)
      rw [nI_1]
      exact hK r i (by omega) hr
    · rw [if_neg (nI_ge (by omega) (by omega)), show (10 : Int32) * nI s + nI i = nI (10 * s + i) by rw [show (10 : Int32) * nI s = nI (10 * s) from nI_mul 10 s, nI_add], inb_nI (by omega) (by omega), nI_clamp (n := 10 * s + i) (by omega)]
      have hf := hF i r (by omega) hr
      have go : ∀ r', F s (i + 1) r' → P (f_M_under_M_goalMany_M_goalOn_j64 (fun v0 v1 v2 v3 S => f_M_under_M_goalMany_M_goalOn_L15 K N v0 v1 v2 v3 S) w r' (nI s) (nI i) S) := fun r' hr' => by
        rw [f_M_under_M_goalMany_M_goalOn_j64.eq_1]
        show P (f_M_under_M_goalMany_M_goalOn_L15 K N w r' (nI s) (nI i + 1) S)
        rw [nI_1]
        exact ud15_g hW hs F hF hK N (i + 1) r' hr' (by omega) (by omega)
      by_cases q : S.1 50 (10 * s + i) = w
      · rw [if_pos q] at hf
        show P (if S.1 50 (10 * s + i) = w then (if nI i = 0 then f_M_under_M_goalMany_M_goalOn_j63 (fun v0 v1 v2 v3 S => f_M_under_M_goalMany_M_goalOn_L15 K N v0 v1 v2 v3 S) w (nI s) (nI i) ((100 : Int32) + nI s) S else grd (inb (nI (10 * s + i) - (1 : Int32)) 40) (f_M_under_M_goalMany_M_goalOn_j63 (fun v0 v1 v2 v3 S => f_M_under_M_goalMany_M_goalOn_L15 K N v0 v1 v2 v3 S) w (nI s) (nI i) (S.1 50 (nI (10 * s + i) - (1 : Int32)).toNatClampNeg) S)) else _)
        rw [if_pos q]
        by_cases c0 : i = 0
        · subst c0
          rw [if_pos rfl] at hf
          rw [if_pos (show nI 0 = 0 from rfl), f_M_under_M_goalMany_M_goalOn_j63.eq_1, show (100 : Int32) + nI s = nI (100 + s) from nI_add 100 s]
          exact go _ hf
        · rw [if_neg c0] at hf
          rw [if_neg (show ¬ nI i = 0 from fun z => c0 (nI_inj (by omega) (by omega) (z.trans (show (0 : Int32) = nI 0 from rfl)))), show nI (10 * s + i) - (1 : Int32) = nI (10 * s + (i - 1)) by rw [show nI (10 * s + i) - (1 : Int32) = nI (10 * s + i - 1) from nI_sb (b := 1) (by omega) (by omega)]; exact congrArg nI (by omega), inb_nI (by omega) (by omega), nI_clamp (n := 10 * s + (i - 1)) (by omega)]
          show P (f_M_under_M_goalMany_M_goalOn_j63 (fun v0 v1 v2 v3 S => f_M_under_M_goalMany_M_goalOn_L15 K N v0 v1 v2 v3 S) w (nI s) (nI i) (S.1 50 (10 * s + (i - 1))) S)
          rw [f_M_under_M_goalMany_M_goalOn_j63.eq_1]
          exact go _ hf
      · rw [if_neg q] at hf
        show P (if S.1 50 (10 * s + i) = w then _ else f_M_under_M_goalMany_M_goalOn_j64 (fun v0 v1 v2 v3 S => f_M_under_M_goalMany_M_goalOn_L15 K N v0 v1 v2 v3 S) w r (nI s) (nI i) S)
        rw [if_neg q]
        exact go _ hf
end
section
def Ud_s (S : SS) (w : Int32) (s i : Nat) (r : Int32) : Prop := (r = -4 ∧ ¬ Bef (S.1 47) (S.1 48) w s i) ∨ ∃ s' i' : Nat, (s' < s ∨ (s' = s ∧ i' < i)) ∧ s' < 4 ∧ (i' : Int) < (S.1 47 s').toInt ∧ S.1 48 (10 * s' + i') = w ∧ r = if i' = 0 then nI (100 + s') else S.1 48 (10 * s' + (i' - 1))
theorem ud6_s {S : SS} {w : Int32} (hW : WR S) : ∀ (N s : Nat) (r : Int32), Ud_s S w s 0 r → s ≤ 4 → 4 < N + s → ∃ r', f_M_under_M_startMany_M_startOn_L6 N w r (nI s) S = some (r', S) ∧ Ud_s S w 4 0 r'
  | 0, s, r, hr, hs, hN => by omega
  | N + 1, s, r, hr, hs, hN => by
    rw [f_M_under_M_startMany_M_startOn_L6.eq_2]
    by_cases c : s = 4
    · subst c
      rw [if_pos (show (4 : Int32) ≤ nI 4 from nI_le (a := 4) (by omega) (by omega))]
      exact ⟨r, rfl, hr⟩
    · have hs4 : s < 4 := by omega
      rw [if_neg (show ¬ ((4 : Int32) ≤ nI s) from nI_ge (b := 4) hs4 (by omega))]
      have hm := ro_47 hW s
      refine ud15_s (P := fun o => ∃ r', o = some (r', S) ∧ Ud_s S w 4 0 r') hW hs4 (fun s i r => Ud_s S w s i r) (fun i r hi h => ?_) (fun r i hi h => ?_) NF 0 r hr (by have := hm.1; omega) (by have := hm.2; have : (NF : Int) = 100000 := rfl; omega)
      · by_cases q : S.1 48 (10 * s + i) = w
        · rw [if_pos q]
          exact Or.inr ⟨s, i, Or.inr ⟨rfl, by omega⟩, hs4, hi, q, rfl⟩
        · rw [if_neg q]
          rcases h with ⟨h1, h2⟩ | ⟨s', i', a1, a2, a3, a4, a5⟩
          · refine Or.inl ⟨h1, fun k => h2 ?_⟩
            obtain ⟨s', i', k1, k2, k3, k4⟩ := k
            refine ⟨s', i', ?_, k2, k3, k4⟩
            rcases k1 with k1 | ⟨k1, k5⟩
            · exact Or.inl k1
            · refine Or.inr ⟨k1, ?_⟩
              by_cases ei : i' = i
              · subst ei; subst k1; exact absurd k4 q
              · omega
          · exact Or.inr ⟨s', i', by omega, a2, a3, a4, a5⟩
      · refine ud6_s hW N (s + 1) r ?_ (by omega) (by omega)
        rcases h with ⟨h1, h2⟩ | ⟨s', i', a1, a2, a3, a4, a5⟩
        · exact Or.inl ⟨h1, fun k => h2 ((Bef_end hs4 hi).mpr k)⟩
        · exact Or.inr ⟨s', i', by omega, a2, a3, a4, a5⟩
theorem udx_s {S : SS} {w : Int32} (hW : WR S) : ∃ r, f_M_under_M_startMany_M_startOn w S = some (r, S) ∧ Ud_s S w 4 0 r := by
  rw [f_M_under_M_startMany_M_startOn.eq_1]
  refine ud6_s hW NF 0 _ (Or.inl ⟨rfl, fun k => ?_⟩) (by omega) (by have : NF = 100000 := rfl; omega)
  obtain ⟨s', i', h1, -⟩ := k
  omega
def Ud_g (S : SS) (w : Int32) (s i : Nat) (r : Int32) : Prop := (r = -4 ∧ ¬ Bef (S.1 49) (S.1 50) w s i) ∨ ∃ s' i' : Nat, (s' < s ∨ (s' = s ∧ i' < i)) ∧ s' < 4 ∧ (i' : Int) < (S.1 49 s').toInt ∧ S.1 50 (10 * s' + i') = w ∧ r = if i' = 0 then nI (100 + s') else S.1 50 (10 * s' + (i' - 1))
theorem ud6_g {S : SS} {w : Int32} (hW : WR S) : ∀ (N s : Nat) (r : Int32), Ud_g S w s 0 r → s ≤ 4 → 4 < N + s → ∃ r', f_M_under_M_goalMany_M_goalOn_L6 N w r (nI s) S = some (r', S) ∧ Ud_g S w 4 0 r'
  | 0, s, r, hr, hs, hN => by omega
  | N + 1, s, r, hr, hs, hN => by
    rw [f_M_under_M_goalMany_M_goalOn_L6.eq_2]
    by_cases c : s = 4
    · subst c
      rw [if_pos (show (4 : Int32) ≤ nI 4 from nI_le (a := 4) (by omega) (by omega))]
      exact ⟨r, rfl, hr⟩
    · have hs4 : s < 4 := by omega
      rw [if_neg (show ¬ ((4 : Int32) ≤ nI s) from nI_ge (b := 4) hs4 (by omega))]
      have hm := ro_49 hW s
      refine ud15_g (P := fun o => ∃ r', o = some (r', S) ∧ Ud_g S w 4 0 r') hW hs4 (fun s i r => Ud_g S w s i r) (fun i r hi h => ?_) (fun r i hi h => ?_) NF 0 r hr (by have := hm.1; omega) (by have := hm.2; have : (NF : Int) = 100000 := rfl; omega)
      · by_cases q : S.1 50 (10 * s + i) = w
        · rw [if_pos q]
          exact Or.inr ⟨s, i, Or.inr ⟨rfl, by omega⟩, hs4, hi, q, rfl⟩
        · rw [if_neg q]
          rcases h with ⟨h1, h2⟩ | ⟨s', i', a1, a2, a3, a4, a5⟩
          · refine Or.inl ⟨h1, fun k => h2 ?_⟩
            obtain ⟨s', i', k1, k2, k3, k4⟩ := k
            refine ⟨s', i', ?_, k2, k3, k4⟩
            rcases k1 with k1 | ⟨k1, k5⟩
            · exact Or.inl k1
            · refine Or.inr ⟨k1, ?_⟩
              by_cases ei : i' = i
              · subst ei; subst k1; exact absurd k4 q
              · omega
          · exact Or.inr ⟨s', i', by omega, a2, a3, a4, a5⟩
      · refine ud6_g hW N (s + 1) r ?_ (by omega) (by omega)
        rcases h with ⟨h1, h2⟩ | ⟨s', i', a1, a2, a3, a4, a5⟩
        · exact Or.inl ⟨h1, fun k => h2 ((Bef_end hs4 hi).mpr k)⟩
        · exact Or.inr ⟨s', i', by omega, a2, a3, a4, a5⟩
theorem udx_g {S : SS} {w : Int32} (hW : WR S) : ∃ r, f_M_under_M_goalMany_M_goalOn w S = some (r, S) ∧ Ud_g S w 4 0 r := by
  rw [f_M_under_M_goalMany_M_goalOn.eq_1]
  refine ud6_g hW NF 0 _ (Or.inl ⟨rfl, fun k => ?_⟩) (by omega) (by have : NF = 100000 := rfl; omega)
  obtain ⟨s', i', h1, -⟩ := k
  omega
def hNg (S : SS) (s : Nat) : Nat := (S.1 125 s).toNatClampNeg
theorem hN_leg {S : SS} (hW : WR S) (s : Nat) : hNg S s ≤ 10 ∧ S.1 125 s = nI (hNg S s) := by
  obtain ⟨j, hj, h1, h2, h3⟩ := rg_ex (ro_125 hW s) (by omega)
  have e : hNg S s = j := by unfold hNg; rw [hj]; exact nI_clamp h3
  rw [e]
  exact ⟨by omega, hj⟩
def oHg (S : SS) : Nat → Nat
  | 0 => 0
  | s + 1 => oHg S s + hNg S s
/-- the mask of what was read: a bit for each WAGON, and so many of them -/
def Mskg (S : SS) (m s i : Nat) : Prop := m < 1024 ∧ pcN 10 m = oHg S s + i ∧ ∀ w, w < 10 → (m.testBit w = true ↔ Bef (S.1 125) (S.1 124) (nI w) s i)
theorem ms_L11g {S : SS} {K : Int32 → Int32 → SS → Option (Int32 × SS)} {s : Nat} (hW : WR S) (h9 : ∀ i, rg (S.1 124 i) 0 9) (hD : DW (S.1 125) (S.1 124)) (hs : s < 4) (P : Int32 × SS → Prop) (hK : ∀ m, Mskg S m (s + 1) 0 → ∃ z, K (nI m) (nI (s + 1)) S = some z ∧ P z) : ∀ (N i m : Nat), Mskg S m s i → i ≤ hNg S s → hNg S s < N + i → ∃ z, f_Stacks_members_goal_L11 K N (nI m) (nI s) (nI i) S = some z ∧ P z
  | 0, i, m, hm, hi, hNg' => by omega
  | N + 1, i, m, hm, hi, hNg' => by
    obtain ⟨l10, eh⟩ := hN_leg hW s
    rw [f_Stacks_members_goal_L11.eq_2, inb_nI hs (by omega), nI_clamp (n := s) (by omega), eh]
    show ∃ z, (if nI (hNg S s) ≤ nI i then nm (nI s + 1) (fun z1 => K (nI m) z1 S) else _) = some z ∧ P z
    by_cases c : i = hNg S s
    · rw [if_pos (nI_le (by omega) (by omega))]
      obtain ⟨h1, h2, h3⟩ := hm
      obtain ⟨z, e, p⟩ := hK m ⟨h1, by rw [h2, c]; rfl, fun w hw => (h3 w hw).trans (Bef_end hs (by rw [eh, nI_ti (by omega)]; omega))⟩
      refine ⟨z, ?_, p⟩
      show K (nI m) (nI s + 1) S = some z
      rw [nI_1]; exact e
    · have hi' : i < hNg S s := by omega
      rw [if_neg (nI_ge hi' (by omega)), wa_goal hs eh l10 hi', bnd_r]
      obtain ⟨w, ew, w1, w2, w3⟩ := rg_ex (h9 (10 * s + i)) (by omega)
      have hw : w < 10 := by omega
      obtain ⟨h1, h2, h3⟩ := hm
      have nb : m.testBit w = false := by
        cases hb : m.testBit w with
        | false => rfl
        | true =>
          obtain ⟨s', i', a1, a2, a3, a4⟩ := (h3 w hw).mp hb
          obtain ⟨d1, d2⟩ := hD s' i' s i a2 hs a3 (by rw [eh, nI_ti (by omega)]; omega) (a4.trans ew.symm)
          omega
      have e1 : nI m ||| ((1 : Int32) <<< (S.1 124 (10 * s + i) &&& 31)) = nI (m ||| 2 ^ w) := by
        rw [ew, sh_all ⟨w, hw⟩, nI_or]
      have mk : Mskg S (m ||| 2 ^ w) s (i + 1) := by
        refine ⟨?_, ?_, fun v hv => ?_⟩
        · exact Nat.or_lt_two_pow (n := 10) h1 (Nat.pow_lt_pow_right (by omega) hw)
        · rw [or_all ⟨w, hw⟩ ⟨m, h1⟩ nb, h2]
          rfl
        · rw [Nat.testBit_or, Nat.testBit_two_pow, Bool.or_eq_true, decide_eq_true_eq, h3 v hv]
          constructor
          · intro k
            rcases k with ⟨s', i', a1, a2, a3, a4⟩ | k
            · exact ⟨s', i', by omega, a2, a3, a4⟩
            · subst k
              exact ⟨s, i, Or.inr ⟨rfl, by omega⟩, hs, by rw [eh, nI_ti (by omega)]; omega, ew⟩
          · intro ⟨s', i', a1, a2, a3, a4⟩
            by_cases cc : s' = s ∧ i' = i
            · obtain ⟨c1, c2⟩ := cc
              subst c1 c2
              right
              exact nI_inj (by omega) (by omega) (ew.symm.trans a4)
            · left
              exact ⟨s', i', by omega, a2, a3, a4⟩
      obtain ⟨z, e, p⟩ := ms_L11g hW h9 hD hs P hK N (i + 1) (m ||| 2 ^ w) mk (by omega) (by omega)
      refine ⟨z, ?_, p⟩
      show f_Stacks_members_goal_L11 K N (nI m ||| ((1 : Int32) <<< (S.1 124 (10 * s + i) &&& 31))) (nI s) (nI i + 1) S = some z
      rw [e1, nI_1]; exact e
theorem ms_L4g {S : SS} (hW : WR S) (h9 : ∀ i, rg (S.1 124 i) 0 9) (hD : DW (S.1 125) (S.1 124)) : ∀ (N s m : Nat), Mskg S m s 0 → s ≤ 4 → 4 < N + s → ∃ z, f_Stacks_members_goal_L4 N (nI m) (nI s) S = some z ∧ ∃ m', z = (nI m', S) ∧ Mskg S m' 4 0
  | 0, s, m, hm, hs, hNg' => by omega
  | N + 1, s, m, hm, hs, hNg' => by
    rw [f_Stacks_members_goal_L4.eq_2]
    by_cases c : s = 4
    · subst c
      rw [if_pos (show (4 : Int32) ≤ nI 4 from nI_le (a := 4) (by omega) (by omega))]
      exact ⟨_, rfl, m, rfl, hm⟩
    · have hs4 : s < 4 := by omega
      rw [if_neg (show ¬ ((4 : Int32) ≤ nI s) from nI_ge (b := 4) hs4 (by omega))]
      have := (hN_leg hW s).1
      exact ms_L11g hW h9 hD hs4 _ (fun m' hm' => ms_L4g hW h9 hD N (s + 1) m' hm' (by omega) (by omega)) NF 0 m hm (by omega) (by have : NF = 100000 := rfl; omega)
theorem msxg {S : SS} (hW : WR S) (h9 : ∀ i, rg (S.1 124 i) 0 9) (hD : DW (S.1 125) (S.1 124)) : ∃ m, f_Stacks_members_goal S = some (nI m, S) ∧ bcV (nI m) = nI (oHg S 4) := by
  have m0 : Mskg S 0 0 0 := by
    refine ⟨by omega, rfl, fun w hw => ⟨fun k => ?_, fun k => ?_⟩⟩
    · rw [Nat.zero_testBit] at k
      cases k
    · obtain ⟨s', i', a1, -⟩ := k
      omega
  obtain ⟨z, e, m, ez, h1, h2, h3⟩ := ms_L4g hW h9 hD NF 0 0 m0 (by omega) (by have : NF = 100000 := rfl; omega)
  rw [ez] at e
  refine ⟨m, e, ?_⟩
  rw [bc_all ⟨m, h1⟩, h2]
  rfl
theorem msk2 {S : SS} (hW : WR S) (h9 : ∀ i, rg (S.1 122 i) 0 9) (hD : DW (S.1 123) (S.1 122)) : ∃ m, f_Stacks_members_start S = some (nI m, S) ∧ Msk S m 4 0 := by
  have m0 : Msk S 0 0 0 := by
    refine ⟨by omega, rfl, fun w hw => ⟨fun k => ?_, fun k => ?_⟩⟩
    · rw [Nat.zero_testBit] at k
      cases k
    · obtain ⟨s', i', a1, -⟩ := k
      omega
  obtain ⟨z, e, m, ez, hm⟩ := ms_L4 hW h9 hD NF 0 0 m0 (by omega) (by have : NF = 100000 := rfl; omega)
  rw [ez] at e
  exact ⟨m, e, hm⟩
theorem msk2g {S : SS} (hW : WR S) (h9 : ∀ i, rg (S.1 124 i) 0 9) (hD : DW (S.1 125) (S.1 124)) : ∃ m, f_Stacks_members_goal S = some (nI m, S) ∧ Mskg S m 4 0 := by
  have m0 : Mskg S 0 0 0 := by
    refine ⟨by omega, rfl, fun w hw => ⟨fun k => ?_, fun k => ?_⟩⟩
    · rw [Nat.zero_testBit] at k
      cases k
    · obtain ⟨s', i', a1, -⟩ := k
      omega
  obtain ⟨z, e, m, ez, hm⟩ := ms_L4g hW h9 hD NF 0 0 m0 (by omega) (by have : NF = 100000 := rfl; omega)
  rw [ez] at e
  exact ⟨m, e, hm⟩
theorem mk_eq {m n : Nat} (hm : m < 1024) (hn : n < 1024) : m = n ↔ ∀ w, w < 10 → m.testBit w = n.testBit w := by
  constructor
  · intro e w _; rw [e]
  · intro h
    apply Nat.eq_of_testBit_eq
    intro i
    by_cases c : i < 10
    · exact h i c
    · rw [Nat.testBit_lt_two_pow (Nat.lt_of_lt_of_le hm (Nat.pow_le_pow_right (n := 2) (by omega) (by omega : 10 ≤ i))), Nat.testBit_lt_two_pow (Nat.lt_of_lt_of_le hn (Nat.pow_le_pow_right (n := 2) (by omega) (by omega : 10 ≤ i)))]
theorem as2_L4 {S : SS} (hW : WR S) : ∀ (N x : Nat) (b : Bool), (b = true ↔ ∀ w, w < x → (Bef (S.1 47) (S.1 48) (nI w) 4 0 ↔ Bef (S.1 49) (S.1 50) (nI w) 4 0)) → x ≤ 10 → 10 < N + x → ∃ b' : Bool, f_M_areSame_L4 N (bI b) (nI x) S = some (bI b', S) ∧ (b' = true ↔ SameW S)
  | 0, x, b, hb, hx, hN => by omega
  | N + 1, x, b, hb, hx, hN => by
    rw [f_M_areSame_L4.eq_2]
    have go : ∀ b2 : Bool, (b2 = true ↔ ∀ w, w < x + 1 → (Bef (S.1 47) (S.1 48) (nI w) 4 0 ↔ Bef (S.1 49) (S.1 50) (nI w) 4 0)) → x < 10 → ∃ b' : Bool, f_M_areSame_j46 (fun v0 v1 S => f_M_areSame_L4 N v0 v1 S) (nI x) (bI b2) S = some (bI b', S) ∧ (b' = true ↔ SameW S) := fun b2 hb2 hx' => by
      rw [f_M_areSame_j46.eq_1]
      obtain ⟨b', e, p⟩ := as2_L4 hW N (x + 1) b2 hb2 (by omega) (by omega)
      refine ⟨b', ?_, p⟩
      show f_M_areSame_L4 N (bI b2) (nI x + 1) S = _
      rw [nI_1]; exact e
    by_cases c : x = 10
    · subst c
      rw [if_pos (show (10 : Int32) ≤ nI 10 from nI_le (a := 10) (by omega) (by omega))]
      refine ⟨b, ?_, hb⟩
      cases b <;> rfl
    · have hx' : x < 10 := by omega
      rw [if_neg (show ¬ ((10 : Int32) ≤ nI x) from nI_ge (b := 10) hx' (by omega))]
      cases hbb : b with
      | false =>
        rw [if_pos (show bI false = 0 from rfl), f_M_areSame_j45.eq_1]
        refine go false ⟨fun k => (by cases k), fun k => ?_⟩ hx'
        rw [hbb] at hb
        exact hb.mpr (fun w hw => k w (by omega))
      | true =>
        rw [if_neg (show ¬ bI true = 0 by decide)]
        obtain ⟨r1, T1, e1, t1, b1, q1, i1⟩ := u_has_s (w := nI x) hW
        obtain ⟨r2, T2, e2, t2, b2, q2, i2⟩ := u_has_g (w := nI x) hW
        subst t1
        rw [e1, bnd_r, e2, t2, bnd_r, q1, q2]
        by_cases q : bI b1 = bI b2
        · rw [if_pos q]
          refine go true ⟨fun _ w hw => ?_, fun _ => rfl⟩ hx'
          by_cases cw : w = x
          · subst cw
            rw [← i1, ← i2, bI_eq q]
          · rw [hbb] at hb
            exact hb.mp rfl w (by omega)
        · rw [if_neg q, f_M_areSame_j45.eq_1]
          refine go false ⟨fun k => (by cases k), fun k => ?_⟩ hx'
          have := k x (by omega)
          rw [← i1, ← i2] at this
          refine absurd ?_ q
          cases b1 <;> cases b2
          · rfl
          · exact absurd (this.mpr rfl) (by decide)
          · exact absurd (this.mp rfl) (by decide)
          · rfl
theorem as2 {S : SS} (hW : WR S) : ∃ b' : Bool, f_M_areSame S = some (bI b', S) ∧ (b' = true ↔ SameW S) := by
  rw [f_M_areSame.eq_1]
  exact as2_L4 hW NF 0 true ⟨fun _ w hw => by omega, fun _ => rfl⟩ (by omega) (by have : NF = 100000 := rfl; omega)
end
section
/-! ===== bound: both count alike ===== -/
theorem bt_all : ∀ (w : Fin 10) (m : Fin 1024), (((nI m.1 >>> (nI w.1 &&& 31)) &&& (1 : Int32)) = 1) ↔ m.1.testBit w.1 = true := by decide +kernel
def cnD (d : Nat → Bool) : Nat → Nat
  | 0 => 0
  | k + 1 => cnD d k + if d k = true then 1 else 0
def cb (O : Nat → Int32) (s i : Nat) : Int32 := if i = 0 then nI (10 + s) else O (10 * s + (i - 1))
def Dv (S : SS) (w : Nat) : Prop := ∃ s i s' i' : Nat, s < 4 ∧ (i : Int) < (S.1 123 s).toInt ∧ S.1 122 (10 * s + i) = nI w ∧ s' < 4 ∧ (i' : Int) < (S.1 125 s').toInt ∧ S.1 124 (10 * s' + i') = nI w ∧ ¬ cb (S.1 122) s i = cb (S.1 124) s' i'
theorem mb_cb {a b : Int32} {s s' i i' : Nat} (ha : rg a 0 9) (hb : rg b 0 9) (hs : s < 4) (hs' : s' < 4) : ((if i = 0 then nI (100 + s) else a) = (if i' = 0 then nI (100 + s') else b)) ↔ ((if i = 0 then nI (10 + s) else a) = (if i' = 0 then nI (10 + s') else b)) := by
  obtain ⟨x, rfl, x1, x2, x3⟩ := rg_ex ha (by omega)
  obtain ⟨y, rfl, y1, y2, y3⟩ := rg_ex hb (by omega)
  by_cases c : i = 0
  · rw [if_pos c, if_pos c]
    by_cases c' : i' = 0
    · rw [if_pos c', if_pos c']
      constructor
      · intro q; rw [show s = s' by have := nI_inj (by omega) (by omega) q; omega]
      · intro q; rw [show s = s' by have := nI_inj (by omega) (by omega) q; omega]
    · rw [if_neg c', if_neg c']
      constructor
      · intro q; have := nI_inj (by omega) (by omega) q; omega
      · intro q; have := nI_inj (by omega) (by omega) q; omega
  · rw [if_neg c, if_neg c]
    by_cases c' : i' = 0
    · rw [if_pos c', if_pos c']
      constructor
      · intro q; have := nI_inj (by omega) (by omega) q; omega
      · intro q; have := nI_inj (by omega) (by omega) q; omega
    · rw [if_neg c', if_neg c']
theorem cm_L12 {S : SS} {m : Nat} {d : Nat → Bool} (hW : WR S) (hS : DW (S.1 123) (S.1 122)) (hG : DW (S.1 125) (S.1 124)) (hm : Msk S m 4 0) (same : ∀ w, w < 10 → (Bef (S.1 123) (S.1 122) (nI w) 4 0 ↔ Bef (S.1 125) (S.1 124) (nI w) 4 0)) (hd : ∀ w, d w = true ↔ Dv S w) : ∀ (N x : Nat), x ≤ 10 → 10 < N + x → f_Plans_countMoved_L12 N (nI m) (nI (cnD d x)) (nI x) S = some (nI (cnD d 10), S)
  | 0, x, hx, hN => by omega
  | N + 1, x, hx, hN => by
    rw [f_Plans_countMoved_L12.eq_2]
    by_cases c : x = 10
    · subst c
      rw [if_pos (show (10 : Int32) ≤ nI 10 from nI_le (a := 10) (by omega) (by omega))]
    · have hx' : x < 10 := by omega
      rw [if_neg (show ¬ ((10 : Int32) ≤ nI x) from nI_ge (b := 10) hx' (by omega))]
      have nx : ∀ v, v = cnD d (x + 1) → f_Plans_countMoved_j49 (fun v0 v1 v2 S => f_Plans_countMoved_L12 N v0 v1 v2 S) (nI m) (nI v) (nI x) S = some (nI (cnD d 10), S) := fun v hv => by
        rw [f_Plans_countMoved_j49.eq_1, hv]
        show f_Plans_countMoved_L12 N (nI m) (nI (cnD d (x + 1))) (nI x + 1) S = _
        rw [nI_1]
        exact cm_L12 hW hS hG hm same hd N (x + 1) (by omega) (by omega)
      have e0 : cnD d (x + 1) = cnD d x + if d x = true then 1 else 0 := rfl
      by_cases q : ((nI m >>> (nI x &&& 31)) &&& (1 : Int32)) = 1
      · rw [if_pos q]
        have hb := (hm.2.2 x hx').mp ((bt_all ⟨x, hx'⟩ ⟨m, hm.1⟩).mp q)
        obtain ⟨s, i, -, s1, s2, s3⟩ := hb
        obtain ⟨s', i', -, g1, g2, g3⟩ := (same x hx').mp ⟨s, i, Or.inl s1, s1, s2, s3⟩
        rw [be_start hW hS s1 s2 s3, bnd_r, be_goal hW hG g1 g2 g3, bnd_r]
        by_cases z : (if i = 0 then nI (10 + s) else S.1 122 (10 * s + (i - 1))) = (if i' = 0 then nI (10 + s') else S.1 124 (10 * s' + (i' - 1)))
        · rw [if_pos z]
          refine nx _ ?_
          rw [e0, if_neg]
          · rfl
          · intro k
            obtain ⟨a, b, a', b', k1, k2, k3, k4, k5, k6, k7⟩ := (hd x).mp k
            obtain ⟨u1, u2⟩ := hS a b s i k1 s1 k2 s2 (k3.trans s3.symm)
            obtain ⟨v1, v2⟩ := hG a' b' s' i' k4 g1 k5 g2 (k6.trans g3.symm)
            subst u1 u2 v1 v2
            exact k7 z
        · rw [if_neg z]
          show f_Plans_countMoved_j49 (fun v0 v1 v2 S => f_Plans_countMoved_L12 N v0 v1 v2 S) (nI m) (nI (cnD d x) + 1) (nI x) S = _
          rw [nI_1]
          refine nx _ ?_
          rw [e0, if_pos ((hd x).mpr ⟨s, i, s', i', s1, s2, s3, g1, g2, g3, z⟩)]
      · rw [if_neg q]
        refine nx _ ?_
        rw [e0, if_neg]
        · rfl
        · intro k
          obtain ⟨a, b, a', b', k1, k2, k3, -⟩ := (hd x).mp k
          exact q ((bt_all ⟨x, hx'⟩ ⟨m, hm.1⟩).mpr ((hm.2.2 x hx').mpr ⟨a, b, Or.inl k1, k1, k2, k3⟩))
theorem bd_L13 {S T : SS} {d : Nat → Bool} (hT : WR T) (hS : DW (S.1 123) (S.1 122)) (hG : DW (S.1 125) (S.1 124)) (same : ∀ w, w < 10 → (Bef (S.1 123) (S.1 122) (nI w) 4 0 ↔ Bef (S.1 125) (S.1 124) (nI w) 4 0)) (hd : ∀ w, d w = true ↔ Dv S w) (k47 : T.1 47 = S.1 123) (k48 : T.1 48 = S.1 122) (k49 : T.1 49 = S.1 125) (k50 : T.1 50 = S.1 124) : ∀ (N x : Nat), x ≤ 10 → 10 < N + x → f_M_bound_L13 N (nI (cnD d x)) (nI x) T = some (nI (cnD d 10), T)
  | 0, x, hx, hN => by omega
  | N + 1, x, hx, hN => by
    rw [f_M_bound_L13.eq_2]
    by_cases c : x = 10
    · subst c
      rw [if_pos (show (10 : Int32) ≤ nI 10 from nI_le (a := 10) (by omega) (by omega))]
    · have hx' : x < 10 := by omega
      rw [if_neg (show ¬ ((10 : Int32) ≤ nI x) from nI_ge (b := 10) hx' (by omega))]
      have e0 : cnD d (x + 1) = cnD d x + if d x = true then 1 else 0 := rfl
      have nx : ∀ y : Nat, cnD d x + y = cnD d (x + 1) → f_M_bound_j52 (fun v0 v1 S => f_M_bound_L13 N v0 v1 S) (nI x) (nI y) (nI (cnD d x)) T = some (nI (cnD d 10), T) := fun y hy => by
        rw [f_M_bound_j52.eq_1]
        show f_M_bound_L13 N (nI (cnD d x) + nI y) (nI x + 1) T = _
        rw [nI_1, nI_add, hy]
        exact bd_L13 hT hS hG same hd k47 k48 k49 k50 N (x + 1) (by omega) (by omega)
      obtain ⟨r, e1, p1⟩ := udx_s (w := nI x) hT
      obtain ⟨r', e2, p2⟩ := udx_g (w := nI x) hT
      rw [e1, bnd_r, e2, bnd_r]
      have iff : r = r' ↔ ¬ Dv S x := by
        rcases p1 with ⟨a1, a2⟩ | ⟨s, i, -, s1, s2, s3, s4⟩
        · rw [k47, k48] at a2
          rcases p2 with ⟨b1, -⟩ | ⟨s', i', -, g1, g2, g3, -⟩
          · refine ⟨fun _ k => ?_, fun _ => by rw [a1, b1]⟩
            obtain ⟨u, v, u', v', k1, k2, k3, -⟩ := k
            exact a2 ⟨u, v, Or.inl k1, k1, k2, k3⟩
          · rw [k49] at g2
            rw [k50] at g3
            exact absurd ((same x hx').mpr ⟨s', i', Or.inl g1, g1, g2, g3⟩) a2
        · rcases p2 with ⟨-, b2⟩ | ⟨s', i', -, g1, g2, g3, g4⟩
          · rw [k47] at s2
            rw [k48] at s3
            rw [k49, k50] at b2
            exact absurd ((same x hx').mp ⟨s, i, Or.inl s1, s1, s2, s3⟩) b2
          · have z := mb_cb (i := i) (i' := i') (ro_48 hT (10 * s + (i - 1))) (ro_50 hT (10 * s' + (i' - 1))) s1 g1
            rw [s4, g4, z, k48, k50]
            rw [k47] at s2
            rw [k48] at s3
            rw [k49] at g2
            rw [k50] at g3
            constructor
            · intro q k
              obtain ⟨u, v, u', v', k1, k2, k3, k4, k5, k6, k7⟩ := k
              obtain ⟨w1, w2⟩ := hS u v s i k1 s1 k2 s2 (k3.trans s3.symm)
              obtain ⟨w3, w4⟩ := hG u' v' s' i' k4 g1 k5 g2 (k6.trans g3.symm)
              subst w1 w2 w3 w4
              exact k7 q
            · intro k
              apply Classical.byContradiction
              intro q
              exact k ⟨s, i, s', i', s1, s2, s3, g1, g2, g3, q⟩
      by_cases q : r = r'
      · rw [if_pos q]
        refine nx 0 ?_
        rw [e0, if_neg (fun k => iff.mp q ((hd x).mp k))]
      · rw [if_neg q]
        refine nx 1 ?_
        rw [e0, if_pos ((hd x).mpr (Classical.byContradiction (fun k => q (iff.mpr k))))]
theorem bound_eq {r1 r2 : Int32} {S S1 S2 : SS} (hW : WR S) (w1 : WR S1) (hP : PL S) (h1 : ∀ i, S.1 122 i = S.1 48 i) (h2 : ∀ i, S.1 123 i = S.1 47 i) (h3 : ∀ i, S.1 124 i = S.1 50 i) (h4 : ∀ i, S.1 125 i = S.1 49 i) (e1 : f_Yard_bound S = some (r1, S1)) (e2 : f_M_bound S1 = some (r2, S2)) (g1 : F1 [] [] S S1) : r1 = r2 := by
  have e122 : S.1 122 = S.1 48 := funext h1
  have e123 : S.1 123 = S.1 47 := funext h2
  have e124 : S.1 124 = S.1 50 := funext h3
  have e125 : S.1 125 = S.1 49 := funext h4
  have hS : DW (S.1 123) (S.1 122) := by rw [e123, e122]; exact hP.2.1
  have hG : DW (S.1 125) (S.1 124) := by rw [e125, e124]; exact hP.2.2
  obtain ⟨m, em, hm⟩ := msk2 hW (fun i => by rw [h1]; exact ro_48 hW i) hS
  obtain ⟨n, en, hn⟩ := msk2g hW (fun i => by rw [h3]; exact ro_50 hW i) hG
  obtain ⟨b, eb, pb⟩ := as2 w1
  have k47 : S1.1 47 = S.1 123 := by rw [e123]; exact funext fun i => g1 47 i rfl
  have k48 : S1.1 48 = S.1 122 := by rw [e122]; exact funext fun i => g1 48 i rfl
  have k49 : S1.1 49 = S.1 125 := by rw [e125]; exact funext fun i => g1 49 i rfl
  have k50 : S1.1 50 = S.1 124 := by rw [e124]; exact funext fun i => g1 50 i rfl
  have sm : nI m = nI n ↔ SameW S1 := by
    unfold SameW
    rw [k47, k48, k49, k50]
    constructor
    · intro q w hw
      have := nI_inj (by have := hm.1; omega) (by have := hn.1; omega) q
      subst this
      exact (hm.2.2 w hw).symm.trans (hn.2.2 w hw)
    · intro q
      rw [(mk_eq hm.1 hn.1).mpr (fun w hw => ?_)]
      have := (hm.2.2 w hw).trans ((q w hw).trans (hn.2.2 w hw).symm)
      cases x : m.testBit w <;> cases y : n.testBit w
      · rfl
      · rw [x, y] at this; exact absurd (this.mpr rfl) (by decide)
      · rw [x, y] at this; exact absurd (this.mp rfl) (by decide)
      · rfl
  rw [f_Yard_bound.eq_1] at e1
  rw [f_M_bound.eq_1] at e2
  replace e2 := bnd_s e2 eb
  have es : f_Plans_haveSameWagons S = some (if nI m = nI n then 1 else 0, S) := by
    rw [f_Plans_haveSameWagons.eq_1, em, bnd_r, en, bnd_r]
    by_cases q : nI m = nI n
    · rw [if_pos q, if_pos q]
    · rw [if_neg q, if_neg q]
  replace e1 := bnd_s e1 es
  by_cases q : nI m = nI n
  · rw [if_pos q, if_neg (by decide)] at e1
    rw [pb.mpr (sm.mp q), if_neg (show ¬ bI true = 0 by decide)] at e2
    have same : ∀ w, w < 10 → (Bef (S.1 123) (S.1 122) (nI w) 4 0 ↔ Bef (S.1 125) (S.1 124) (nI w) 4 0) := fun w hw => by
      have := sm.mp q w hw
      rw [k47, k48, k49, k50] at this
      exact this
    have hd : ∃ d : Nat → Bool, ∀ w, (d w = true ↔ Dv S w) := ⟨fun w => @decide (Dv S w) (Classical.propDecidable _), fun w => @decide_eq_true_iff _ (Classical.propDecidable _)⟩
    obtain ⟨d, hd⟩ := hd
    have c1 : f_Plans_countMoved S = some (nI (cnD d 10), S) := by
      rw [f_Plans_countMoved.eq_1, em, bnd_r]
      exact cm_L12 hW hS hG hm same hd NF 0 (by omega) (by have : NF = 100000 := rfl; omega)
    replace e1 := bnd_s e1 c1
    have c2 := bd_L13 w1 hS hG same hd k47 k48 k49 k50 NF 0 (by omega) (by have : NF = 100000 := rfl; omega)
    have e2 : f_M_bound_L13 NF (nI (cnD d 0)) (nI 0) S1 = some (r2, S2) := e2
    rw [c2] at e2
    injection e1 with e1; injection e1 with a1 a2
    injection e2 with e2; injection e2 with b1 b2
    rw [← a1, ← b1]
  · rw [if_neg q, if_pos rfl] at e1
    have bf : b = false := by
      cases hb : b with
      | false => rfl
      | true => exact absurd (sm.mpr (pb.mp hb)) q
    rw [bf, if_pos (show bI false = 0 from rfl)] at e2
    injection e1 with e1; injection e1 with a1 a2
    injection e2 with e2; injection e2 with b1 b2
    rw [← a1, ← b1]
end
