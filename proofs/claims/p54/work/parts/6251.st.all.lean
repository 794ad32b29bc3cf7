section
/-! ===== wipe ===== -/
def bcV (a : Int32) : Int32 := match f_Integer_bitCount_0f7a4 a (fun _ _ => 0, fun _ => 0) with
  | some (r, _) => r
  | none => 0
theorem bc_v (a : Int32) (S : SS) : f_Integer_bitCount_0f7a4 a S = some (bcV a, S) := rfl
def pcN : Nat → Nat → Nat
  | 0, _ => 0
  | k + 1, m => m % 2 + pcN k (m / 2)
theorem bc_all : ∀ m : Fin 1024, bcV (nI m.1) = nI (pcN 10 m.1) := by decide +kernel
theorem or_all : ∀ (w : Fin 10) (m : Fin 1024), m.1.testBit w.1 = false → pcN 10 (m.1 ||| 2 ^ w.1) = pcN 10 m.1 + 1 := by decide +kernel
theorem nI_or (a b : Nat) : nI a ||| nI b = nI (a ||| b) := by
  show Int32.ofNat a ||| Int32.ofNat b = Int32.ofNat (a ||| b)
  apply Int32.toBitVec_inj.mp
  rw [Int32.toBitVec_or]
  exact (BitVec.ofNat_or (w := 32)).symm
theorem sh_all : ∀ w : Fin 10, (1 : Int32) <<< (nI w.1 &&& 31) = nI (2 ^ w.1) := by decide +kernel
def hN (S : SS) (s : Nat) : Nat := (S.1 123 s).toNatClampNeg
theorem hN_le {S : SS} (hW : WR S) (s : Nat) : hN S s ≤ 10 ∧ S.1 123 s = nI (hN S s) := by
  obtain ⟨j, hj, h1, h2, h3⟩ := rg_ex (ro_123 hW s) (by omega)
  have e : hN S s = j := by unfold hN; rw [hj]; exact nI_clamp h3
  rw [e]
  exact ⟨by omega, hj⟩
def oH (S : SS) : Nat → Nat
  | 0 => 0
  | s + 1 => oH S s + hN S s
/-- the mask of what was read: a bit for each WAGON, and so many of them -/
def Msk (S : SS) (m s i : Nat) : Prop := m < 1024 ∧ pcN 10 m = oH S s + i ∧ ∀ w, w < 10 → (m.testBit w = true ↔ Bef (S.1 123) (S.1 122) (nI w) s i)
theorem ms_L11 {S : SS} {K : Int32 → Int32 → SS → Option (Int32 × SS)} {s : Nat} (hW : WR S) (h9 : ∀ i, rg (S.1 122 i) 0 9) (hD : DW (S.1 123) (S.1 122)) (hs : s < 4) (P : Int32 × SS → Prop) (hK : ∀ m, Msk S m (s + 1) 0 → ∃ z, K (nI m) (nI (s + 1)) S = some z ∧ P z) : ∀ (N i m : Nat), Msk S m s i → i ≤ hN S s → hN S s < N + i → ∃ z, f_Stacks_members_start_L11 K N (nI m) (nI s) (nI i) S = some z ∧ P z
  | 0, i, m, hm, hi, hN' => by omega
  | N + 1, i, m, hm, hi, hN' => by
    obtain ⟨l10, eh⟩ := hN_le hW s
    rw [f_Stacks_members_start_L11.eq_2, inb_nI hs (by omega), nI_clamp (n := s) (by omega), eh]
    show ∃ z, (if nI (hN S s) ≤ nI i then nm (nI s + 1) (fun z1 => K (nI m) z1 S) else _) = some z ∧ P z
    by_cases c : i = hN S s
    · rw [if_pos (nI_le (by omega) (by omega))]
      obtain ⟨h1, h2, h3⟩ := hm
      obtain ⟨z, e, p⟩ := hK m ⟨h1, by rw [h2, c]; rfl, fun w hw => (h3 w hw).trans (Bef_end hs (by rw [eh, nI_ti (by omega)]; omega))⟩
      refine ⟨z, ?_, p⟩
      show K (nI m) (nI s + 1) S = some z
      rw [nI_1]; exact e
    · have hi' : i < hN S s := by omega
      rw [if_neg (nI_ge hi' (by omega)), wa_start hs eh l10 hi', bnd_r]
      obtain ⟨w, ew, w1, w2, w3⟩ := rg_ex (h9 (10 * s + i)) (by omega)
      have hw : w < 10 := by omega
      obtain ⟨h1, h2, h3⟩ := hm
      have nb : m.testBit w = false := by
        cases hb : m.testBit w with
        | false => rfl
        | true =>
          obtain ⟨s', i', a1, a2, a3, a4⟩ := (h3 w hw).mp hb
          obtain ⟨d1, d2⟩ := hD s' i' s i a2 hs a3 (by rw [eh, nI_ti (by omega)]; omega) (a4.trans ew.symm)
          omega
      have e1 : nI m ||| ((1 : Int32) <<< (S.1 122 (10 * s + i) &&& 31)) = nI (m ||| 2 ^ w) := by
        rw [ew, sh_all ⟨w, hw⟩, nI_or]
      have mk : Msk S (m ||| 2 ^ w) s (i + 1) := by
        refine ⟨?_, ?_, fun v hv => ?_⟩
        · exact Nat.or_lt_two_pow (n := 10) h1 (Nat.pow_lt_pow_right (by omega) hw)
        · rw [or_all ⟨w, hw⟩ ⟨m, h1⟩ nb, h2]
          rfl
        · rw [Nat.testBit_or, Nat.testBit_two_pow, Bool.or_eq_true, decide_eq_true_eq, h3 v hv]
          constructor
          · intro k
            rcases k with ⟨s', i', a1, a2, a3, a4⟩ | k
            · exact ⟨s', i', by omega, a2, a3, a4⟩
            · subst k
              exact ⟨s, i, Or.inr ⟨rfl, by omega⟩, hs, by rw [eh, nI_ti (by omega)]; omega, ew⟩
          · intro ⟨s', i', a1, a2, a3, a4⟩
            by_cases cc : s' = s ∧ i' = i
            · obtain ⟨c1, c2⟩ := cc
              subst c1 c2
              right
              exact nI_inj (by omega) (by omega) (ew.symm.trans a4)
            · left
              exact ⟨s', i', by omega, a2, a3, a4⟩
      obtain ⟨z, e, p⟩ := ms_L11 hW h9 hD hs P hK N (i + 1) (m ||| 2 ^ w) mk (by omega) (by omega)
      refine ⟨z, ?_, p⟩
      show f_Stacks_members_start_L11 K N (nI m ||| ((1 : Int32) <<< (S.1 122 (10 * s + i) &&& 31))) (nI s) (nI i + 1) S = some z
      rw [e1, nI_1]; exact e
theorem ms_L4 {S : SS} (hW : WR S) (h9 : ∀ i, rg (S.1 122 i) 0 9) (hD : DW (S.1 123) (S.1 122)) : ∀ (N s m : Nat), Msk S m s 0 → s ≤ 4 → 4 < N + s → ∃ z, f_Stacks_members_start_L4 N (nI m) (nI s) S = some z ∧ ∃ m', z = (nI m', S) ∧ Msk S m' 4 0
  | 0, s, m, hm, hs, hN' => by omega
  | N + 1, s, m, hm, hs, hN' => by
    rw [f_Stacks_members_start_L4.eq_2]
    by_cases c : s = 4
    · subst c
      rw [if_pos (show (4 : Int32) ≤ nI 4 from nI_le (a := 4) (by omega) (by omega))]
      exact ⟨_, rfl, m, rfl, hm⟩
    · have hs4 : s < 4 := by omega
      rw [if_neg (show ¬ ((4 : Int32) ≤ nI s) from nI_ge (b := 4) hs4 (by omega))]
      have := (hN_le hW s).1
      exact ms_L11 hW h9 hD hs4 _ (fun m' hm' => ms_L4 hW h9 hD N (s + 1) m' hm' (by omega) (by omega)) NF 0 m hm (by omega) (by have : NF = 100000 := rfl; omega)
theorem msx {S : SS} (hW : WR S) (h9 : ∀ i, rg (S.1 122 i) 0 9) (hD : DW (S.1 123) (S.1 122)) : ∃ m, f_Stacks_members_start S = some (nI m, S) ∧ bcV (nI m) = nI (oH S 4) := by
  have m0 : Msk S 0 0 0 := by
    refine ⟨by omega, rfl, fun w hw => ⟨fun k => ?_, fun k => ?_⟩⟩
    · rw [Nat.zero_testBit] at k
      cases k
    · obtain ⟨s', i', a1, -⟩ := k
      omega
  obtain ⟨z, e, m, ez, h1, h2, h3⟩ := ms_L4 hW h9 hD NF 0 0 m0 (by omega) (by have : NF = 100000 := rfl; omega)
  rw [ez] at e
  refine ⟨m, e, ?_⟩
  rw [bc_all ⟨m, h1⟩, h2]
  rfl
theorem fl_s {S : SS} : ∀ (N k : Nat) (T U : SS), F1 [123] [] S T → (∀ i, T.1 123 i = if i < k ∧ i < 4 then 0 else S.1 123 i) → k ≤ 4 → f_Arrays_fill_53178_start_heights_L5 N 0 (nI k) (nI 4) T = some U → F1 [123] [] S U ∧ ∀ i, U.1 123 i = if i < 4 then 0 else S.1 123 i
  | 0, k, T, U, hF, hj, hk, h => by
    rw [f_Arrays_fill_53178_start_heights_L5.eq_1] at h
    cases h
  | N + 1, k, T, U, hF, hj, hk, h => by
    rw [f_Arrays_fill_53178_start_heights_L5.eq_2] at h
    by_cases c : k = 4
    · subst c
      rw [if_pos (nI_le (by omega) (by omega))] at h
      have := some_1 h
      subst this
      refine ⟨hF, fun i => ?_⟩
      rw [hj]
      by_cases d : i < 4
      · rw [if_pos ⟨d, d⟩, if_pos d]
      · rw [if_neg (fun q => d q.1), if_neg d]
    · rw [if_neg (nI_ge (by omega) (by omega))] at h
      replace h := (grd_t h).2
      replace h := wr_t h
      obtain ⟨T1, t1, h⟩ := h
      have h : f_Arrays_fill_53178_start_heights_L5 N 0 (nI k + 1) (nI 4) T1 = some U := h
      rw [nI_1] at h
      rw [nI_clamp (n := k) (by omega)] at t1
      refine fl_s N (k + 1) T1 U (F1.tr (L1 := [123]) (F' := []) (U := T1) hF (by rw [t1]; exact (fr_stA _ _ _ _).f1) rfl) (fun i => ?_) (by omega) h
      rw [t1, st_at, if_pos rfl]
      by_cases d : i = k
      · rw [if_pos d, if_pos (by omega)]
      · rw [if_neg d, hj]
        by_cases d2 : i < k ∧ i < 4
        · rw [if_pos d2, if_pos (by omega)]
        · rw [if_neg d2, if_neg (by omega)]
theorem em_s {S U : SS} (h : f_Stacks_empty_start S = some U) : F1 [123] [] S U ∧ ∀ i, U.1 123 i = if i < 4 then 0 else S.1 123 i := by
  rw [f_Stacks_empty_start.eq_1] at h
  replace h := bndv_t h
  obtain ⟨T, hT, h⟩ := h
  have := some_1 h
  subst this
  rw [f_Arrays_fill_53178_start_heights.eq_1] at hT
  replace hT := nm_q hT
  obtain ⟨z, ez, hT⟩ := hT
  rw [ez, show Int32.ofNat 4 = nI 4 from rfl, show (0 : Int32) = nI 0 from rfl] at hT
  exact fl_s NF 0 S T F1.rf (fun i => by rw [if_neg (by omega)]) (by omega) hT
theorem fl_g {S : SS} : ∀ (N k : Nat) (T U : SS), F1 [125] [] S T → (∀ i, T.1 125 i = if i < k ∧ i < 4 then 0 else S.1 125 i) → k ≤ 4 → f_Arrays_fill_53178_goal_heights_L5 N 0 (nI k) (nI 4) T = some U → F1 [125] [] S U ∧ ∀ i, U.1 125 i = if i < 4 then 0 else S.1 125 i
  | 0, k, T, U, hF, hj, hk, h => by
    rw [f_Arrays_fill_53178_goal_heights_L5.eq_1] at h
    cases h
  | N + 1, k, T, U, hF, hj, hk, h => by
    rw [f_Arrays_fill_53178_goal_heights_L5.eq_2] at h
    by_cases c : k = 4
    · subst c
      rw [if_pos (nI_le (by omega) (by omega))] at h
      have := some_1 h
      subst this
      refine ⟨hF, fun i => ?_⟩
      rw [hj]
      by_cases d : i < 4
      · rw [if_pos ⟨d, d⟩, if_pos d]
      · rw [if_neg (fun q => d q.1), if_neg d]
    · rw [if_neg (nI_ge (by omega) (by omega))] at h
      replace h := (grd_t h).2
      replace h := wr_t h
      obtain ⟨T1, t1, h⟩ := h
      have h : f_Arrays_fill_53178_goal_heights_L5 N 0 (nI k + 1) (nI 4) T1 = some U := h
      rw [nI_1] at h
      rw [nI_clamp (n := k) (by omega)] at t1
      refine fl_g N (k + 1) T1 U (F1.tr (L1 := [125]) (F' := []) (U := T1) hF (by rw [t1]; exact (fr_stA _ _ _ _).f1) rfl) (fun i => ?_) (by omega) h
      rw [t1, st_at, if_pos rfl]
      by_cases d : i = k
      · rw [if_pos d, if_pos (by omega)]
      · rw [if_neg d, hj]
        by_cases d2 : i < k ∧ i < 4
        · rw [if_pos d2, if_pos (by omega)]
        · rw [if_neg d2, if_neg (by omega)]
theorem em_g {S U : SS} (h : f_Stacks_empty_goal S = some U) : F1 [125] [] S U ∧ ∀ i, U.1 125 i = if i < 4 then 0 else S.1 125 i := by
  rw [f_Stacks_empty_goal.eq_1] at h
  replace h := bndv_t h
  obtain ⟨T, hT, h⟩ := h
  have := some_1 h
  subst this
  rw [f_Arrays_fill_53178_goal_heights.eq_1] at hT
  replace hT := nm_q hT
  obtain ⟨z, ez, hT⟩ := hT
  rw [ez, show Int32.ofNat 4 = nI 4 from rfl, show (0 : Int32) = nI 0 from rfl] at hT
  exact fl_g NF 0 S T F1.rf (fun i => by rw [if_neg (by omega)]) (by omega) hT
theorem mw_L10 {S : SS} {x1 : Int32} : ∀ (N k : Nat) (T U : SS) (r : Int32), F1 [47, 49] [(0, 76), (0, 77)] S T → (∀ i, T.1 47 i = if i < k ∧ i < 4 then 0 else S.1 47 i) → (∀ i, T.1 49 i = if i < k ∧ i < 4 then 0 else S.1 49 i) → k ≤ 4 → f_M_wipe_L10 N x1 (nI k) T = some (r, U) → r = x1 ∧ F1 [47, 49] [(0, 76), (0, 77)] S U ∧ (∀ i, U.1 47 i = if i < 4 then 0 else S.1 47 i) ∧ ∀ i, U.1 49 i = if i < 4 then 0 else S.1 49 i
  | 0, k, T, U, r, hF, h1, h2, hk, h => by
    rw [f_M_wipe_L10.eq_1] at h
    cases h
  | N + 1, k, T, U, r, hF, h1, h2, hk, h => by
    rw [f_M_wipe_L10.eq_2] at h
    by_cases c : k = 4
    · subst c
      rw [if_pos (show (4 : Int32) ≤ nI 4 from nI_le (a := 4) (by omega) (by omega))] at h
      replace h := wr_t h
      obtain ⟨T1, t1, h⟩ := h
      replace h := wr_t h
      obtain ⟨T2, t2, h⟩ := h
      injection h with h; injection h with a1 a2
      have g : F1 [] [(0, 76), (0, 77)] T U := by
        rw [← a2, t2, t1]
        exact F1.tr (F1.tr F1.rf (fr_stO _ _ _ _).f1 rfl) (fr_stO _ _ _ _).f1 rfl
      refine ⟨a1.symm, F1.tr hF g rfl, fun i => ?_, fun i => ?_⟩
      · rw [g 47 i rfl, h1]
        by_cases d : i < 4
        · rw [if_pos ⟨d, d⟩, if_pos d]
        · rw [if_neg (fun q => d q.1), if_neg d]
      · rw [g 49 i rfl, h2]
        by_cases d : i < 4
        · rw [if_pos ⟨d, d⟩, if_pos d]
        · rw [if_neg (fun q => d q.1), if_neg d]
    · rw [if_neg (show ¬ ((4 : Int32) ≤ nI k) from nI_ge (b := 4) (by omega) (by omega))] at h
      replace h := (grd_t h).2
      replace h := wr_t h
      obtain ⟨T1, t1, h⟩ := h
      replace h := (grd_t h).2
      replace h := wr_t h
      obtain ⟨T2, t2, h⟩ := h
      have h : f_M_wipe_L10 N x1 (nI k + 1) T2 = some (r, U) := h
      rw [nI_1] at h
      rw [nI_clamp (n := k) (by omega)] at t1 t2
      refine mw_L10 N (k + 1) T2 U r (F1.tr (L1 := [49]) (F' := []) (T := T1) (U := T2) (F1.tr (L1 := [47]) (F' := []) (U := T1) hF (by rw [t1]; exact (fr_stA _ _ _ _).f1) rfl) (by rw [t2]; exact (fr_stA _ _ _ _).f1) rfl) (fun i => ?_) (fun i => ?_) (by omega) h
      · rw [t2, st_at, if_neg (by decide), t1, st_at, if_pos rfl]
        by_cases d : i = k
        · rw [if_pos d, if_pos (by omega)]
        · rw [if_neg d, h1]
          by_cases d2 : i < k ∧ i < 4
          · rw [if_pos d2, if_pos (by omega)]
          · rw [if_neg d2, if_neg (by omega)]
      · rw [t2, st_at, if_pos rfl]
        by_cases d : i = k
        · rw [if_pos d, if_pos (by omega)]
        · rw [if_neg d, t1, st_at, if_neg (by decide), h2]
          by_cases d2 : i < k ∧ i < 4
          · rw [if_pos d2, if_pos (by omega)]
          · rw [if_neg d2, if_neg (by omega)]
theorem wipe_eq {r1 r2 : Int32} {S S1 S2 : SS} (hW : WR S) (w1 : WR S1) (hP : PL S) (h1 : ∀ i, S.1 122 i = S.1 48 i) (h2 : ∀ i, S.1 123 i = S.1 47 i) (h4 : ∀ i, S.1 125 i = S.1 49 i) (e1 : f_Yard_wipe S = some (r1, S1)) (e2 : f_M_wipe S1 = some (r2, S2)) (g1 : F1 [123, 125] [(70, 7), (70, 8)] S S1) (g2 : F1 [47, 49] [(0, 76), (0, 77)] S1 S2) : r1 = r2 ∧ (∀ i, S2.1 123 i = S2.1 47 i) ∧ ∀ i, S2.1 125 i = S2.1 49 i := by
  have e123 : S.1 123 = S.1 47 := funext h2
  have e122 : S.1 122 = S.1 48 := funext h1
  obtain ⟨m, em, bm⟩ := msx hW (fun i => by rw [h1]; exact ro_48 hW i) (by rw [e123, e122]; exact hP.2.1)
  rw [f_Yard_wipe.eq_1] at e1
  replace e1 := bnd_t e1
  obtain ⟨v, T, hT, e1⟩ := e1
  injection e1 with e1; injection e1 with a1 a2
  rw [f_Plans_clear.eq_1] at hT
  replace hT := bnd_s hT em
  replace hT := bnd_s hT (bc_v _ _)
  replace hT := bndv_t hT
  obtain ⟨T1, t1, hT⟩ := hT
  replace hT := bndv_t hT
  obtain ⟨T2, t2, hT⟩ := hT
  replace hT := bndv_t hT
  obtain ⟨T3, t3, hT⟩ := hT
  injection hT with hT; injection hT with c1 c2
  have g3 : F1 [] [(70, 7), (70, 8)] T2 T3 := by
    have t3 : some (st (st T2 70 8 0) 70 7 0) = some T3 := t3
    rw [← some_1 t3]
    exact F1.tr (F1.tr F1.rf (fr_stO _ _ _ _).f1 rfl) (fr_stO _ _ _ _).f1 rfl
  obtain ⟨f1, z1⟩ := em_s t1
  obtain ⟨f2, z2⟩ := em_g t2
  rw [f_M_wipe.eq_1] at e2
  obtain ⟨rs, Us, es, eU, ers, -⟩ := smx w1
  subst eU
  replace e2 := bnd_s e2 es
  obtain ⟨q1, q2, q3, q4⟩ := mw_L10 NF 0 Us S2 r2 F1.rf (fun i => by rw [if_neg (by omega)]) (fun i => by rw [if_neg (by omega)]) (by omega) e2
  have sN : StN Us = oH S 4 := by
    show (Us.1 47 0).toNatClampNeg + (Us.1 47 1).toNatClampNeg + (Us.1 47 2).toNatClampNeg + (Us.1 47 3).toNatClampNeg = 0 + hN S 0 + hN S 1 + hN S 2 + hN S 3
    unfold hN
    rw [g1 47 0 rfl, g1 47 1 rfl, g1 47 2 rfl, g1 47 3 rfl, h2, h2, h2, h2]
    omega
  refine ⟨?_, fun i => ?_, fun i => ?_⟩
  · rw [← a1, ← c1, bm, q1, ers, sN]
  · rw [q3, q2 123 i rfl, ← a2, ← c2, g3 123 i rfl, f2 123 i rfl, z1]
    by_cases d : i < 4
    · rw [if_pos d, if_pos d]
    · rw [if_neg d, if_neg d, c2, a2, g1 47 i rfl, h2]
  · rw [q4, q2 125 i rfl, ← a2, ← c2, g3 125 i rfl, z2]
    by_cases d : i < 4
    · rw [if_pos d, if_pos d]
    · rw [if_neg d, if_neg d, f1 125 i rfl, c2, a2, g1 49 i rfl, h4]
end
section
/-! ===== bound ===== -/
theorem po2_start {s h i0 : Nat} {S : SS} {w : Int32} (hs : s < 4) (hh : S.1 123 s = nI h) (h10 : h ≤ 10) (h0 : i0 < h) (ew : S.1 122 (10 * s + i0) = w) (un : ∀ j, j < h → S.1 122 (10 * s + j) = w → j = i0) : ∀ (N i : Nat), i ≤ i0 → i0 < N + i → f_Stacks_placeOn_start_L2 N (nI s) w (nI i) S = some (nI i0, S)
  | 0, i, hi, hN => by omega
  | N + 1, i, hi, hN => by
    rw [f_Stacks_placeOn_start_L2.eq_2, hs_n _ hs, bnd_r, hh, if_neg (nI_ge (by omega) (by omega)), wa_start hs hh h10 (by omega), bnd_r]
    by_cases c : i = i0
    · rw [c, if_pos ew]
    · rw [if_neg (fun q => c (un i (by omega) q))]
      show f_Stacks_placeOn_start_L2 N (nI s) w (nI i + 1) S = _
      rw [nI_1]
      exact po2_start hs hh h10 h0 ew un N (i + 1) (by omega) (by omega)
theorem sk2_start {S : SS} {w : Int32} {s0 i0 : Nat} (hW : WR S) (hD : DW (S.1 123) (S.1 122)) (hs0 : s0 < 4) (hi0 : (i0 : Int) < (S.1 123 s0).toInt) (ew : S.1 122 (10 * s0 + i0) = w) : ∀ (N s : Nat), s ≤ s0 → s0 < N + s → f_Stacks_stackOf_start_L2 N w (nI s) S = some (nI s0, S)
  | 0, s, hs, hN => by omega
  | N + 1, s, hs, hN => by
    rw [f_Stacks_stackOf_start_L2.eq_2, if_neg (show ¬ ((4 : Int32) ≤ nI s) from nI_ge (b := 4) (by omega) (by omega))]
    obtain ⟨h, eh, h1, h2, h3⟩ := rg_ex (ro_123 hW s) (by omega)
    have th : (S.1 123 s).toInt = (h : Int) := by rw [eh, nI_ti (by omega)]
    by_cases c : s = s0
    · subst c
      have e := po2_start (w := w) (by omega) eh (by omega) (i0 := i0) (by omega) ew (fun j hj q => (hD s j s i0 hs0 hs0 (by omega) hi0 (q.trans ew.symm)).2) NF 0 (by omega) (by have : NF = 100000 := rfl; omega)
      have e : f_Stacks_placeOn_start (nI s) w S = some (nI i0, S) := e
      rw [e, bnd_r, if_neg (nI_m4 (by omega))]
    · obtain ⟨r, e, p⟩ := po_start (w := w) (by omega) eh (by omega) NF 0 (by omega) (by have : NF = 100000 := rfl; omega)
      have e : f_Stacks_placeOn_start (nI s) w S = some (r, S) := e
      rw [e, bnd_r]
      rcases p with ⟨p1, -⟩ | ⟨-, j, -, p3, p4⟩
      · rw [if_pos p1]
        show f_Stacks_stackOf_start_L2 N w (nI s + 1) S = _
        rw [nI_1]
        exact sk2_start hW hD hs0 hi0 ew N (s + 1) (by omega) (by omega)
      · exact absurd (hD s j s0 i0 (by omega) hs0 (by omega) hi0 (p4.trans ew.symm)).1 c
theorem be_start {S : SS} {w : Int32} {s i : Nat} (hW : WR S) (hD : DW (S.1 123) (S.1 122)) (hs : s < 4) (hi : (i : Int) < (S.1 123 s).toInt) (ew : S.1 122 (10 * s + i) = w) : f_Stacks_below_start w S = some (if i = 0 then nI (10 + s) else S.1 122 (10 * s + (i - 1)), S) := by
  obtain ⟨h, eh, h1, h2, h3⟩ := rg_ex (ro_123 hW s) (by omega)
  have th : (S.1 123 s).toInt = (h : Int) := by rw [eh, nI_ti (by omega)]
  have e1 : f_Stacks_stackOf_start w S = some (nI s, S) := by
    rw [f_Stacks_stackOf_start.eq_1]
    exact sk2_start hW hD hs hi ew NF 0 (by omega) (by have : NF = 100000 := rfl; omega)
  have e2 : f_Stacks_placeOn_start (nI s) w S = some (nI i, S) := by
    rw [f_Stacks_placeOn_start.eq_1]
    exact po2_start (w := w) hs eh (by omega) (i0 := i) (by omega) ew (fun j hj q => (hD s j s i hs hs (by omega) hi (q.trans ew.symm)).2) NF 0 (by omega) (by have : NF = 100000 := rfl; omega)
  rw [f_Stacks_below_start.eq_1, e1, bnd_r, e2, bnd_r]
  by_cases c : i = 0
  · subst c
    rw [if_pos (by decide), if_pos rfl, show (10 : Int32) + nI s = nI (10 + s) from nI_add 10 s]
  · rw [if_neg (show ¬ (nI i ≤ 0) from nI_ge (a := 0) (b := i) (by omega) (by omega)), if_neg c, show nI i - (1 : Int32) = nI (i - 1) from nI_sb (b := 1) (by omega) (by omega), wa_start hs eh (by omega) (by omega), bnd_r]
theorem po2_goal {s h i0 : Nat} {S : SS} {w : Int32} (hs : s < 4) (hh : S.1 125 s = nI h) (h10 : h ≤ 10) (h0 : i0 < h) (ew : S.1 124 (10 * s + i0) = w) (un : ∀ j, j < h → S.1 124 (10 * s + j) = w → j = i0) : ∀ (N i : Nat), i ≤ i0 → i0 < N + i → f_Stacks_placeOn_goal_L2 N (nI s) w (nI i) S = some (nI i0, S)
  | 0, i, hi, hN => by omega
  | N + 1, i, hi, hN => by
    rw [f_Stacks_placeOn_goal_L2.eq_2, hg_n _ hs, bnd_r, hh, if_neg (nI_ge (by omega) (by omega)), wa_goal hs hh h10 (by omega), bnd_r]
    by_cases c : i = i0
    · rw [c, if_pos ew]
    · rw [if_neg (fun q => c (un i (by omega) q))]
      show f_Stacks_placeOn_goal_L2 N (nI s) w (nI i + 1) S = _
      rw [nI_1]
      exact po2_goal hs hh h10 h0 ew un N (i + 1) (by omega) (by omega)
theorem sk2_goal {S : SS} {w : Int32} {s0 i0 : Nat} (hW : WR S) (hD : DW (S.1 125) (S.1 124)) (hs0 : s0 < 4) (hi0 : (i0 : Int) < (S.1 125 s0).toInt) (ew : S.1 124 (10 * s0 + i0) = w) : ∀ (N s : Nat), s ≤ s0 → s0 < N + s → f_Stacks_stackOf_goal_L2 N w (nI s) S = some (nI s0, S)
  | 0, s, hs, hN => by omega
  | N + 1, s, hs, hN => by
    rw [f_Stacks_stackOf_goal_L2.eq_2, if_neg (show ¬ ((4 : Int32) ≤ nI s) from nI_ge (b := 4) (by omega) (by omega))]
    obtain ⟨h, eh, h1, h2, h3⟩ := rg_ex (ro_125 hW s) (by omega)
    have th : (S.1 125 s).toInt = (h : Int) := by rw [eh, nI_ti (by omega)]
    by_cases c : s = s0
    · subst c
      have e := po2_goal (w := w) (by omega) eh (by omega) (i0 := i0) (by omega) ew (fun j hj q => (hD s j s i0 hs0 hs0 (by omega) hi0 (q.trans ew.symm)).2) NF 0 (by omega) (by have : NF = 100000 := rfl; omega)
      have e : f_Stacks_placeOn_goal (nI s) w S = some (nI i0, S) := e
      rw [e, bnd_r, if_neg (nI_m4 (by omega))]
    · obtain ⟨r, e, p⟩ := po_goal (w := w) (by omega) eh (by omega) NF 0 (by omega) (by have : NF = 100000 := rfl; omega)
      have e : f_Stacks_placeOn_goal (nI s) w S = some (r, S) := e
      rw [e, bnd_r]
      rcases p with ⟨p1, -⟩ | ⟨-, j, -, p3, p4⟩
      · rw [if_pos p1]
        show f_Stacks_stackOf_goal_L2 N w (nI s + 1) S = _
        rw [nI_1]
        exact sk2_goal hW hD hs0 hi0 ew N (s + 1) (by omega) (by omega)
      · exact absurd (hD s j s0 i0 (by omega) hs0 (by omega) hi0 (p4.trans ew.symm)).1 c
theorem be_goal {S : SS} {w : Int32} {s i : Nat} (hW : WR S) (hD : DW (S.1 125) (S.1 124)) (hs : s < 4) (hi : (i : Int) < (S.1 125 s).toInt) (ew : S.1 124 (10 * s + i) = w) : f_Stacks_below_goal w S = some (if i = 0 then nI (10 + s) else S.1 124 (10 * s + (i - 1)), S) := by
  obtain ⟨h, eh, h1, h2, h3⟩ := rg_ex (ro_125 hW s) (by omega)
  have th : (S.1 125 s).toInt = (h : Int) := by rw [eh, nI_ti (by omega)]
  have e1 : f_Stacks_stackOf_goal w S = some (nI s, S) := by
    rw [f_Stacks_stackOf_goal.eq_1]
    exact sk2_goal hW hD hs hi ew NF 0 (by omega) (by have : NF = 100000 := rfl; omega)
  have e2 : f_Stacks_placeOn_goal (nI s) w S = some (nI i, S) := by
    rw [f_Stacks_placeOn_goal.eq_1]
    exact po2_goal (w := w) hs eh (by omega) (i0 := i) (by omega) ew (fun j hj q => (hD s j s i hs hs (by omega) hi (q.trans ew.symm)).2) NF 0 (by omega) (by have : NF = 100000 := rfl; omega)
  rw [f_Stacks_below_goal.eq_1, e1, bnd_r, e2, bnd_r]
  by_cases c : i = 0
  · subst c
    rw [if_pos (by decide), if_pos rfl, show (10 : Int32) + nI s = nI (10 + s) from nI_add 10 s]
  · rw [if_neg (show ¬ (nI i ≤ 0) from nI_ge (a := 0) (b := i) (by omega) (by omega)), if_neg c, show nI i - (1 : Int32) = nI (i - 1) from nI_sb (b := 1) (by omega) (by omega), wa_goal hs eh (by omega) (by omega), bnd_r]
theorem ud15_s {S : SS} {K : Int32 → Int32 → Int32 → SS → Option (Int32 × SS)} {w : Int32} {s : Nat} {P : Option (Int32 × SS) → Prop} (hW : WR S) (hs : s < 4) (F : Nat → Nat → Int32 → Prop) (hF : ∀ (i : Nat) (r : Int32), (i : Int) < (S.1 47 s).toInt → F s i r → F s (i + 1) (if S.1 48 (10 * s + i) = w then (if i = 0 then nI (100 + s) else S.1 48 (10 * s + (i - 1))) else r)) (hK : ∀ (r : Int32) (i : Nat), (S.1 47 s).toInt ≤ i → F s i r → P (K w r (nI (s + 1)) S)) : ∀ (N i : Nat) (r : Int32), F s i r → (i : Int) ≤ (S.1 47 s).toInt → (S.1 47 s).toInt - i < (N : Int) → P (f_M_under_M_startMany_M_startOn_L15 K N w r (nI s) (nI i) S)
  | 0, i, r, hr, hi, hN => by omega
  | N + 1, i, r, hr, hi, hN => by
    obtain ⟨h, eh, h1, h2, h3⟩ := rg_ex (ro_47 hW s) (by omega)
    have th : (S.1 47 s).toInt = (h : Int) := by rw [eh, nI_ti (by omega)]
    rw [f_M_under_M_startMany_M_startOn_L15.eq_2, inb_nI hs (by omega), nI_clamp (n := s) (by omega), eh]
    show P (if nI h ≤ nI i then nm (nI s + 1) (fun z1 => K w r z1 S) else _)
    by_cases c : h ≤ i
    · rw [if_pos (nI_le c (by omega))]
      show P (K w r (nI s + 1) S)
      rw [nI_1]
      exact hK r i (by omega) hr
    · rw [if_neg (nI_ge (by omega) (by omega)), show (10 : Int32) * nI s + nI i = nI (10 * s + i) by rw [show (10 : Int32) * nI s = nI (10 * s) from nI_mul 10 s, nI_add], inb_nI (by omega) (by omega), nI_clamp (n := 10 * s + i) (by omega)]
      have hf := hF i r (by omega) hr
      have go : ∀ r', F s (i + 1) r' → P (f_M_under_M_startMany_M_startOn_j64 (fun v0 v1 v2 v3 S => f_M_under_M_startMany_M_startOn_L15 K N v0 v1 v2 v3 S) w r' (nI s) (nI i) S) := fun r' hr' => by
        rw [f_M_under_M_startMany_M_startOn_j64.eq_1]
        show P (f_M_under_M_startMany_M_startOn_L15 K N w r' (nI s) (nI i + 1) S)
        rw [nI_1]
        exact ud15_s hW hs F hF hK N (i + 1) r' hr' (by omega) (by omega)
      by_cases q : S.1 48 (10 * s + i) = w
      · rw [if_pos q] at hf
        show P (if S.1 48 (10 * s + i) = w then (if nI i = 0 then f_M_under_M_startMany_M_startOn_j63 (fun v0 v1 v2 v3 S => f_M_under_M_startMany_M_startOn_L15 K N v0 v1 v2 v3 S) w (nI s) (nI i) ((100 : Int32) + nI s) S else grd (inb (nI (10 * s + i) - (1 : Int32)) 40) (f_M_under_M_startMany_M_startOn_j63 (fun v0 v1 v2 v3 S => f_M_under_M_startMany_M_startOn_L15 K N v0 v1 v2 v3 S) w (nI s) (nI i) (S.1 48 (nI (10 * s + i) - (1 : Int32)).toNatClampNeg) S)) else _)
        rw [if_pos q]
        by_cases c0 : i = 0
        · subst c0
          rw [if_pos rfl] at hf
          rw [if_pos (show nI 0 = 0 from rfl), f_M_under_M_startMany_M_startOn_j63.eq_1, show (100 : Int32) + nI s = nI (100 + s) from nI_add 100 s]
          exact go _ hf
        · rw [if_neg c0] at hf
          rw [if_neg (show ¬ nI i = 0 from fun z => c0 (nI_inj (by omega) (by omega) (z.trans (show (0 : Int32) = nI 0 from rfl)))), show nI (10 * s + i) - (1 : Int32) = nI (10 * s + (i - 1)) by rw [show nI (10 * s + i) - (1 : Int32) = nI (10 * s + i - 1) from nI_sb (b := 1) (by omega) (by omega)]; exact congrArg nI (by omega), inb_nI (by omega) (by omega), nI_clamp (n := 10 * s + (i - 1)) (by omega)]
          show P (f_M_under_M_startMany_M_startOn_j63 (fun v0 v1 v2 v3 S => f_M_under_M_startMany_M_startOn_L15 K N v0 v1 v2 v3 S) w (nI s) (nI i) (S.1 48 (10 * s + (i - 1))) S)
          rw [f_M_under_M_startMany_M_startOn_j63.eq_1]
          exact go _ hf
      · rw [if_neg q] at hf
        show P (if S.1 48 (10 * s + i) = w then _ else f_M_under_M_startMany_M_startOn_j64 (fun v0 v1 v2 v3 S => f_M_under_M_startMany_M_startOn_L15 K N v0 v1 v2 v3 S) w r (nI s) (nI i) S)
        rw [if_neg q]
        exact go _ hf
theorem ud15_g {S : SS} {K : Int32 → Int32 → Int32 → SS → Option (Int32 × SS)} {w : Int32} {s : Nat} {P : Option (Int32 × SS) → Prop} (hW : WR S) (hs : s < 4) (F : Nat → Nat → Int32 → Prop) (hF : ∀ (i : Nat) (r : Int32), (i : Int) < (S.1 49 s).toInt → F s i r → F s (i + 1) (if S.1 50 (10 * s + i) = w then (if i = 0 then nI (100 + s) else S.1 50 (10 * s + (i - 1))) else r)) (hK : ∀ (r : Int32) (i : Nat), (S.1 49 s).toInt ≤ i → F s i r → P (K w r (nI (s + 1)) S)) : ∀ (N i : Nat) (r : Int32), F s i r → (i : Int) ≤ (S.1 49 s).toInt → (S.1 49 s).toInt - i < (N : Int) → P (f_M_under_M_goalMany_M_goalOn_L15 K N w r (nI s) (nI i) S)
  | 0, i, r, hr, hi, hN => by omega
  | N + 1, i, r, hr, hi, hN => by
    obtain ⟨h, eh, h1, h2, h3⟩ := rg_ex (ro_49 hW s) (by omega)
    have th : (S.1 49 s).toInt = (h : Int) := by rw [eh, nI_ti (by omega)]
    rw [f_M_under_M_goalMany_M_goalOn_L15.eq_2, inb_nI hs (by omega), nI_clamp (n := s) (by omega), eh]
    show P (if nI h ≤ nI i then nm (nI s + 1) (fun z1 => K w r z1 S) else _)
    by_cases c : h ≤ i
    · rw [if_pos (nI_le c (by omega))]
      show P (K w r (nI s + 1) S)
      rw [nI_1]
      exact hK r i (by omega) hr
    · rw [if_neg (nI_ge (by omega) (by omega)), show (10 : Int32) * nI s + nI i = nI (10 * s + i) by rw [show (10 : Int32) * nI s = nI (10 * s) from nI_mul 10 s, nI_add], inb_nI (by omega) (by omega), nI_clamp (n := 10 * s + i) (by omega)]
      have hf := hF i r (by omega) hr
      have go : ∀ r', F s (i + 1) r' → P (f_M_under_M_goalMany_M_goalOn_j64 (fun v0 v1 v2 v3 S => f_M_under_M_goalMany_M_goalOn_L15 K N v0 v1 v2 v3 S) w r' (nI s) (nI i) S) := fun r' hr' => by
        rw [f_M_under_M_goalMany_M_goalOn_j64.eq_1]
        show P (f_M_under_M_goalMany_M_goalOn_L15 K N w r' (nI s) (nI i + 1) S)
        rw [nI_1]
        exact ud15_g hW hs F hF hK N (i + 1) r' hr' (by omega) (by omega)
      by_cases q : S.1 50 (10 * s + i) = w
      · rw [if_pos q] at hf
        show P (if S.1 50 (10 * s + i) = w then (if nI i = 0 then f_M_under_M_goalMany_M_goalOn_j63 (fun v0 v1 v2 v3 S => f_M_under_M_goalMany_M_goalOn_L15 K N v0 v1 v2 v3 S) w (nI s) (nI i) ((100 : Int32) + nI s) S else grd (inb (nI (10 * s + i) - (1 : Int32)) 40) (f_M_under_M_goalMany_M_goalOn_j63 (fun v0 v1 v2 v3 S => f_M_under_M_goalMany_M_goalOn_L15 K N v0 v1 v2 v3 S) w (nI s) (nI i) (S.1 50 (nI (10 * s + i) - (1 : Int32)).toNatClampNeg) S)) else _)
        rw [if_pos q]
        by_cases c0 : i = 0
        · subst c0
          rw [if_pos rfl] at hf
          rw [if_pos (show nI 0 = 0 from rfl), f_M_under_M_goalMany_M_goalOn_j63.eq_1, show (100 : Int32) + nI s = nI (100 + s) from nI_add 100 s]
          exact go _ hf
        · rw [if_neg c0] at hf
          rw [if_neg (show ¬ nI i = 0 from fun z => c0 (nI_inj (by omega) (by omega) (z.trans (show (0 : Int32) = nI 0 from rfl)))), show nI (10 * s + i) - (1 : Int32) = nI (10 * s + (i - 1)) by rw [show nI (10 * s + i) - (1 : Int32) = nI (10 * s + i - 1) from nI_sb (b := 1) (by omega) (by omega)]; exact congrArg nI (by omega), inb_nI (by omega) (by omega), nI_clamp (n := 10 * s + (i - 1)) (by omega)]
          show P (f_M_under_M_goalMany_M_goalOn_j63 (fun v0 v1 v2 v3 S => f_M_under_M_goalMany_M_goalOn_L15 K N v0 v1 v2 v3 S) w (nI s) (nI i) (S.1 50 (10 * s + (i - 1))) S)
          rw [f_M_under_M_goalMany_M_goalOn_j63.eq_1]
          exact go _ hf
      · rw [if_neg q] at hf
        show P (if S.1 50 (10 * s + i) = w then _ else f_M_under_M_goalMany_M_goalOn_j64 (fun v0 v1 v2 v3 S => f_M_under_M_goalMany_M_goalOn_L15 K N v0 v1 v2 v3 S) w r (nI s) (nI i) S)
        rw [if_neg q]
        exact go _ hf
end
section
def Ud_s (S : SS) (w : Int32) (s i : Nat) (r : Int32) : Prop := (r = -4 ∧ ¬ Bef (S.1 47) (S.1 48) w s i) ∨ ∃ s' i' : Nat, (s' < s ∨ (s' = s ∧ i' < i)) ∧ s' < 4 ∧ (i' : Int) < (S.1 47 s').toInt ∧ S.1 48 (10 * s' + i') = w ∧ r = if i' = 0 then nI (100 + s') else S.1 48 (10 * s' + (i' - 1))
theorem ud6_s {S : SS} {w : Int32} (hW : WR S) : ∀ (N s : Nat) (r : Int32), Ud_s S w s 0 r → s ≤ 4 → 4 < N + s → ∃ r', f_M_under_M_startMany_M_startOn_L6 N w r (nI s) S = some (r', S) ∧ Ud_s S w 4 0 r'
  | 0, s, r, hr, hs, hN => by omega
  | N + 1, s, r, hr, hs, hN => by
    rw [f_M_under_M_startMany_M_startOn_L6.eq_2]
    by_cases c : s = 4
    · subst c
      rw [if_pos (show (4 : Int32) ≤ nI 4 from nI_le (a := 4) (by omega) (by omega))]
      exact ⟨r, rfl, hr⟩
    · have hs4 : s < 4 := by omega
      rw [if_neg (show ¬ ((4 : Int32) ≤ nI s) from nI_ge (b := 4) hs4 (by omega))]
      have hm := ro_47 hW s
      refine ud15_s (P := fun o => ∃ r', o = some (r', S) ∧ Ud_s S w 4 0 r') hW hs4 (fun s i r => Ud_s S w s i r) (fun i r hi h => ?_) (fun r i hi h => ?_) NF 0 r hr (by have := hm.1; omega) (by have := hm.2; have : (NF : Int) = 100000 := rfl; omega)
      · by_cases q : S.1 48 (10 * s + i) = w
        · rw [if_pos q]
          exact Or.inr ⟨s, i, Or.inr ⟨rfl, by omega⟩, hs4, hi, q, rfl⟩
        · rw [if_neg q]
          rcases h with ⟨h1, h2⟩ | ⟨s', i', a1, a2, a3, a4, a5⟩
          · refine Or.inl ⟨h1, fun k => h2 ?_⟩
            obtain ⟨s', i', k1, k2, k3, k4⟩ := k
            refine ⟨s', i', ?_, k2, k3, k4⟩
            rcases k1 with k1 | ⟨k1, k5⟩
            · exact Or.inl k1
            · refine Or.inr ⟨k1, ?_⟩
              by_cases ei : i' = i
              · subst ei; subst k1; exact absurd k4 q
              · omega
          · exact Or.inr ⟨s', i', by omega, a2, a3, a4, a5⟩
      · refine ud6_s hW N (s + 1) r ?_ (by omega) (by omega)
        rcases h with ⟨h1, h2⟩ | ⟨s', i', a1, a2, a3, a4, a5⟩
        · exact Or.inl ⟨h1, fun k => h2 ((Bef_end hs4 hi).mpr k)⟩
        · exact Or.inr ⟨s', i', by omega, a2, a3, a4, a5⟩
theorem udx_s {S : SS} {w : Int32} (hW : WR S) : ∃ r, f_M_under_M_startMany_M_startOn w S = some (r, S) ∧ Ud_s S w 4 0 r := by
  rw [f_M_under_M_startMany_M_startOn.eq_1]
  refine ud6_s hW NF 0 _ (Or.inl ⟨rfl, fun k => ?_⟩) (by omega) (by have : NF = 100000 := rfl; omega)
  obtain ⟨s', i', h1, -⟩ := k
  omega
def Ud_g (S : SS) (w : Int32) (s i : Nat) (r : Int32) : Prop := (r = -4 ∧ ¬ Bef (S.1 49) (S.1 50) w s i) ∨ ∃ s' i' : Nat, (s' < s ∨ (s' = s ∧ i' < i)) ∧ s' < 4 ∧ (i' : Int) < (S.1 49 s').toInt ∧ S.1 50 (10 * s' + i') = w ∧ r = if i' = 0 then nI (100 + s') else S.1 50 (10 * s' + (i' - 1))
theorem ud6_g {S : SS} {w : Int32} (hW : WR S) : ∀ (N s : Nat) (r : Int32), Ud_g S w s 0 r → s ≤ 4 → 4 < N + s → ∃ r', f_M_under_M_goalMany_M_goalOn_L6 N w r (nI s) S = some (r', S) ∧ Ud_g S w 4 0 r'
  | 0, s, r, hr, hs, hN => by omega
  | N + 1, s, r, hr, hs, hN => by
    rw [f_M_under_M_goalMany_M_goalOn_L6.eq_2]
    by_cases c : s = 4
    · subst c
      rw [if_pos (show (4 : Int32) ≤ nI 4 from nI_le (a := 4) (by omega) (by omega))]
      exact ⟨r, rfl, hr⟩
    · have hs4 : s < 4 := by omega
      rw [if_neg (show ¬ ((4 : Int32) ≤ nI s) from nI_ge (b := 4) hs4 (by omega))]
      have hm := ro_49 hW s
      refine ud15_g (P := fun o => ∃ r', o = some (r', S) ∧ Ud_g S w 4 0 r') hW hs4 (fun s i r => Ud_g S w s i r) (fun i r hi h => ?_) (fun r i hi h => ?_) NF 0 r hr (by have := hm.1; omega) (by have := hm.2; have : (NF : Int) = 100000 := rfl; omega)
      · by_cases q : S.1 50 (10 * s + i) = w
        · rw [if_pos q]
          exact Or.inr ⟨s, i, Or.inr ⟨rfl, by omega⟩, hs4, hi, q, rfl⟩
        · rw [if_neg q]
          rcases h with ⟨h1, h2⟩ | ⟨s', i', a1, a2, a3, a4, a5⟩
          · refine Or.inl ⟨h1, fun k => h2 ?_⟩
            obtain ⟨s', i', k1, k2, k3, k4⟩ := k
            refine ⟨s', i', ?_, k2, k3, k4⟩
            rcases k1 with k1 | ⟨k1, k5⟩
            · exact Or.inl k1
            · refine Or.inr ⟨k1, ?_⟩
              by_cases ei : i' = i
              · subst ei; subst k1; exact absurd k4 q
              · omega
          · exact Or.inr ⟨s', i', by omega, a2, a3, a4, a5⟩
      · refine ud6_g hW N (s + 1) r ?_ (by omega) (by omega)
        rcases h with ⟨h1, h2⟩ | ⟨s', i', a1, a2, a3, a4, a5⟩
        · exact Or.inl ⟨h1, fun k => h2 ((Bef_end hs4 hi).mpr k)⟩
        · exact Or.inr ⟨s', i', by omega, a2, a3, a4, a5⟩
theorem udx_g {S : SS} {w : Int32} (hW : WR S) : ∃ r, f_M_under_M_goalMany_M_goalOn w S = some (r, S) ∧ Ud_g S w 4 0 r := by
  rw [f_M_under_M_goalMany_M_goalOn.eq_1]
  refine ud6_g hW NF 0 _ (Or.inl ⟨rfl, fun k => ?_⟩) (by omega) (by have : NF = 100000 := rfl; omega)
  obtain ⟨s', i', h1, -⟩ := k
  omega
def hNg (S : SS) (s : Nat) : Nat := (S.1 125 s).toNatClampNeg
theorem hN_leg {S : SS} (hW : WR S) (s : Nat) : hNg S s ≤ 10 ∧ S.1 125 s = nI (hNg S s) := by
  obtain ⟨j, hj, h1, h2, h3⟩ := rg_ex (ro_125 hW s) (by omega)
  have e : hNg S s = j := by unfold hNg; rw [hj]; exact nI_clamp h3
  rw [e]
  exact ⟨by omega, hj⟩
def oHg (S : SS) : Nat → Nat
  | 0 => 0
  | s + 1 => oHg S s + hNg S s
/-- the mask of what was read: a bit for each WAGON, and so many of them -/
def Mskg (S : SS) (m s i : Nat) : Prop := m < 1024 ∧ pcN 10 m = oHg S s + i ∧ ∀ w, w < 10 → (m.testBit w = true ↔ Bef (S.1 125) (S.1 124) (nI w) s i)
theorem ms_L11g {S : SS} {K : Int32 → Int32 → SS → Option (Int32 × SS)} {s : Nat} (hW : WR S) (h9 : ∀ i, rg (S.1 124 i) 0 9) (hD : DW (S.1 125) (S.1 124)) (hs : s < 4) (P : Int32 × SS → Prop) (hK : ∀ m, Mskg S m (s + 1) 0 → ∃ z, K (nI m) (nI (s + 1)) S = some z ∧ P z) : ∀ (N i m : Nat), Mskg S m s i → i ≤ hNg S s → hNg S s < N + i → ∃ z, f_Stacks_members_goal_L11 K N (nI m) (nI s) (nI i) S = some z ∧ P z
  | 0, i, m, hm, hi, hNg' => by omega
  | N + 1, i, m, hm, hi, hNg' => by
    obtain ⟨l10, eh⟩ := hN_leg hW s
    rw [f_Stacks_members_goal_L11.eq_2, inb_nI hs (by omega), nI_clamp (n := s) (by omega), eh]
    show ∃ z, (if nI (hNg S s) ≤ nI i then nm (nI s + 1) (fun z1 => K (nI m) z1 S) else _) = some z ∧ P z
    by_cases c : i = hNg S s
    · rw [if_pos (nI_le (by omega) (by omega))]
      obtain ⟨h1, h2, h3⟩ := hm
      obtain ⟨z, e, p⟩ := hK m ⟨h1, by rw [h2, c]; rfl, fun w hw => (h3 w hw).trans (Bef_end hs (by rw [eh, nI_ti (by omega)]; omega))⟩
      refine ⟨z, ?_, p⟩
      show K (nI m) (nI s + 1) S = some z
      rw [nI_1]; exact e
    · have hi' : i < hNg S s := by omega
      rw [if_neg (nI_ge hi' (by omega)), wa_goal hs eh l10 hi', bnd_r]
      obtain ⟨w, ew, w1, w2, w3⟩ := rg_ex (h9 (10 * s + i)) (by omega)
      have hw : w < 10 := by omega
      obtain ⟨h1, h2, h3⟩ := hm
      have nb : m.testBit w = false := by
        cases hb : m.testBit w with
        | false => rfl
        | true =>
          obtain ⟨s', i', a1, a2, a3, a4⟩ := (h3 w hw).mp hb
          obtain ⟨d1, d2⟩ := hD s' i' s i a2 hs a3 (by rw [eh, nI_ti (by omega)]; omega) (a4.trans ew.symm)
          omega
      have e1 : nI m ||| ((1 : Int32) <<< (S.1 124 (10 * s + i) &&& 31)) = nI (m ||| 2 ^ w) := by
        rw [ew, sh_all ⟨w, hw⟩, nI_or]
      have mk : Mskg S (m ||| 2 ^ w) s (i + 1) := by
        refine ⟨?_, ?_, fun v hv => ?_⟩
        · exact Nat.or_lt_two_pow (n := 10) h1 (Nat.pow_lt_pow_right (by omega) hw)
        · rw [or_all ⟨w, hw⟩ ⟨m, h1⟩ nb, h2]
          rfl
        · rw [Nat.testBit_or, Nat.testBit_two_pow, Bool.or_eq_true, decide_eq_true_eq, h3 v hv]
          constructor
          · intro k
            rcases k with ⟨s', i', a1, a2, a3, a4⟩ | k
            · exact ⟨s', i', by omega, a2, a3, a4⟩
            · subst k
              exact ⟨s, i, Or.inr ⟨rfl, by omega⟩, hs, by rw [eh, nI_ti (by omega)]; omega, ew⟩
          · intro ⟨s', i', a1, a2, a3, a4⟩
            by_cases cc : s' = s ∧ i' = i
            · obtain ⟨c1, c2⟩ := cc
              subst c1 c2
              right
              exact nI_inj (by omega) (by omega) (ew.symm.trans a4)
            · left
              exact ⟨s', i', by omega, a2, a3, a4⟩
      obtain ⟨z, e, p⟩ := ms_L11g hW h9 hD hs P hK N (i + 1) (m ||| 2 ^ w) mk (by omega) (by omega)
      refine ⟨z, ?_, p⟩
      show f_Stacks_members_goal_L11 K N (nI m ||| ((1 : Int32) <<< (S.1 124 (10 * s + i) &&& 31))) (nI s) (nI i + 1) S = some z
      rw [e1, nI_1]; exact e
theorem ms_L4g {S : SS} (hW : WR S) (h9 : ∀ i, rg (S.1 124 i) 0 9) (hD : DW (S.1 125) (S.1 124)) : ∀ (N s m : Nat), Mskg S m s 0 → s ≤ 4 → 4 < N + s → ∃ z, f_Stacks_members_goal_L4 N (nI m) (nI s) S = some z ∧ ∃ m', z = (nI m', S) ∧ Mskg S m' 4 0
  | 0, s, m, hm, hs, hNg' => by omega
  | N + 1, s, m, hm, hs, hNg' => by
    rw [f_Stacks_members_goal_L4.eq_2]
    by_cases c : s = 4
    · subst c
      rw [if_pos (show (4 : Int32) ≤ nI 4 from nI_le (a := 4) (by omega) (by omega))]
      exact ⟨_, rfl, m, rfl, hm⟩
    · have hs4 : s < 4 := by omega
      rw [if_neg (show ¬ ((4 : Int32) ≤ nI s) from nI_ge (b := 4) hs4 (by omega))]
      have := (hN_leg hW s).1
      exact ms_L11g hW h9 hD hs4 _ (fun m' hm' => ms_L4g hW h9 hD N (s + 1) m' hm' (by omega) (by omega)) NF 0 m hm (by omega) (by have : NF = 100000 := rfl; omega)
theorem msxg {S : SS} (hW : WR S) (h9 : ∀ i, rg (S.1 124 i) 0 9) (hD : DW (S.1 125) (S.1 124)) : ∃ m, f_Stacks_members_goal S = some (nI m, S) ∧ bcV (nI m) = nI (oHg S 4) := by
  have m0 : Mskg S 0 0 0 := by
    refine ⟨by omega, rfl, fun w hw => ⟨fun k => ?_, fun k => ?_⟩⟩
    · rw [Nat.zero_testBit] at k
      cases k
    · obtain ⟨s', i', a1, -⟩ := k
      omega
  obtain ⟨z, e, m, ez, h1, h2, h3⟩ := ms_L4g hW h9 hD NF 0 0 m0 (by omega) (by have : NF = 100000 := rfl; omega)
  rw [ez] at e
  refine ⟨m, e, ?_⟩
  rw [bc_all ⟨m, h1⟩, h2]
  rfl
theorem msk2 {S : SS} (hW : WR S) (h9 : ∀ i, rg (S.1 122 i) 0 9) (hD : DW (S.1 123) (S.1 122)) : ∃ m, f_Stacks_members_start S = some (nI m, S) ∧ Msk S m 4 0 := by
  have m0 : Msk S 0 0 0 := by
    refine ⟨by omega, rfl, fun w hw => ⟨fun k => ?_, fun k => ?_⟩⟩
    · rw [Nat.zero_testBit] at k
      cases k
    · obtain ⟨s', i', a1, -⟩ := k
      omega
  obtain ⟨z, e, m, ez, hm⟩ := ms_L4 hW h9 hD NF 0 0 m0 (by omega) (by have : NF = 100000 := rfl; omega)
  rw [ez] at e
  exact ⟨m, e, hm⟩
theorem msk2g {S : SS} (hW : WR S) (h9 : ∀ i, rg (S.1 124 i) 0 9) (hD : DW (S.1 125) (S.1 124)) : ∃ m, f_Stacks_members_goal S = some (nI m, S) ∧ Mskg S m 4 0 := by
  have m0 : Mskg S 0 0 0 := by
    refine ⟨by omega, rfl, fun w hw => ⟨fun k => ?_, fun k => ?_⟩⟩
    · rw [Nat.zero_testBit] at k
      cases k
    · obtain ⟨s', i', a1, -⟩ := k
      omega
  obtain ⟨z, e, m, ez, hm⟩ := ms_L4g hW h9 hD NF 0 0 m0 (by omega) (by have : NF = 100000 := rfl; omega)
  rw [ez] at e
  exact ⟨m, e, hm⟩
theorem mk_eq {m n : Nat} (hm : m < 1024) (hn : n < 1024) : m = n ↔ ∀ w, w < 10 → m.testBit w = n.testBit w := by
  constructor
  · intro e w _; rw [e]
  · intro h
    apply Nat.eq_of_testBit_eq
    intro i
    by_cases c : i < 10
    · exact h i c
    · rw [Nat.testBit_lt_two_pow (Nat.lt_of_lt_of_le hm (Nat.pow_le_pow_right (n := 2) (by omega) (by omega : 10 ≤ i))), Nat.testBit_lt_two_pow (Nat.lt_of_lt_of_le hn (Nat.pow_le_pow_right (n := 2) (by omega) (by omega : 10 ≤ i)))]
theorem as2_L4 {S : SS} (hW : WR S) : ∀ (N x : Nat) (b : Bool), (b = true ↔ ∀ w, w < x → (Bef (S.1 47) (S.1 48) (nI w) 4 0 ↔ Bef (S.1 49) (S.1 50) (nI w) 4 0)) → x ≤ 10 → 10 < N + x → ∃ b' : Bool, f_M_areSame_L4 N (bI b) (nI x) S = some (bI b', S) ∧ (b' = true ↔ SameW S)
  | 0, x, b, hb, hx, hN => by omega
  | N + 1, x, b, hb, hx, hN => by
    rw [f_M_areSame_L4.eq_2]
    have go : ∀ b2 : Bool, (b2 = true ↔ ∀ w, w < x + 1 → (Bef (S.1 47) (S.1 48) (nI w) 4 0 ↔ Bef (S.1 49) (S.1 50) (nI w) 4 0)) → x < 10 → ∃ b' : Bool, f_M_areSame_j46 (fun v0 v1 S => f_M_areSame_L4 N v0 v1 S) (nI x) (bI b2) S = some (bI b', S) ∧ (b' = true ↔ SameW S) := fun b2 hb2 hx' => by
      rw [f_M_areSame_j46.eq_1]
      obtain ⟨b', e, p⟩ := as2_L4 hW N (x + 1) b2 hb2 (by omega) (by omega)
      refine ⟨b', ?_, p⟩
      show f_M_areSame_L4 N (bI b2) (nI x + 1) S = _
      rw [nI_1]; exact e
    by_cases c : x = 10
    · subst c
      rw [if_pos (show (10 : Int32) ≤ nI 10 from nI_le (a := 10) (by omega) (by omega))]
      refine ⟨b, ?_, hb⟩
      cases b <;> rfl
    · have hx' : x < 10 := by omega
      rw [if_neg (show ¬ ((10 : Int32) ≤ nI x) from nI_ge (b := 10) hx' (by omega))]
      cases hbb : b with
      | false =>
        rw [if_pos (show bI false = 0 from rfl), f_M_areSame_j45.eq_1]
        refine go false ⟨fun k => (by cases k), fun k => ?_⟩ hx'
        rw [hbb] at hb
        exact hb.mpr (fun w hw => k w (by omega))
      | true =>
        rw [if_neg (show ¬ bI true = 0 by decide)]
        obtain ⟨r1, T1, e1, t1, b1, q1, i1⟩ := u_has_s (w := nI x) hW
        obtain ⟨r2, T2, e2, t2, b2, q2, i2⟩ := u_has_g (w := nI x) hW
        subst t1
        rw [e1, bnd_r, e2, t2, bnd_r, q1, q2]
        by_cases q : bI b1 = bI b2
        · rw [if_pos q]
          refine go true ⟨fun _ w hw => ?_, fun _ => rfl⟩ hx'
          by_cases cw : w = x
          · subst cw
            rw [← i1, ← i2, bI_eq q]
          · rw [hbb] at hb
            exact hb.mp rfl w (by omega)
        · rw [if_neg q, f_M_areSame_j45.eq_1]
          refine go false ⟨fun k => (by cases k), fun k => ?_⟩ hx'
          have := k x (by omega)
          rw [← i1, ← i2] at this
          refine absurd ?_ q
          cases b1 <;> cases b2
          · rfl
          · exact absurd (this.mpr rfl) (by decide)
          · exact absurd (this.mp rfl) (by decide)
          · rfl
theorem as2 {S : SS} (hW : WR S) : ∃ b' : Bool, f_M_areSame S = some (bI b', S) ∧ (b' = true ↔ SameW S) := by
  rw [f_M_areSame.eq_1]
  exact as2_L4 hW NF 0 true ⟨fun _ w hw => by omega, fun _ => rfl⟩ (by omega) (by have : NF = 100000 := rfl; omega)
end
section
/-! ===== bound: both count alike ===== -/
theorem bt_all : ∀ (w : Fin 10) (m : Fin 1024), (((nI m.1 >>> (nI w.1 &&& 31)) &&& (1 : Int32)) = 1) ↔ m.1.testBit w.1 = true := by decide +kernel
def cnD (d : Nat → Bool) : Nat → Nat
  | 0 => 0
  | k + 1 => cnD d k + if d k = true then 1 else 0
def cb (O : Nat → Int32) (s i : Nat) : Int32 := if i = 0 then nI (10 + s) else O (10 * s + (i - 1))
def Dv (S : SS) (w : Nat) : Prop := ∃ s i s' i' : Nat, s < 4 ∧ (i : Int) < (S.1 123 s).toInt ∧ S.1 122 (10 * s + i) = nI w ∧ s' < 4 ∧ (i' : Int) < (S.1 125 s').toInt ∧ S.1 124 (10 * s' + i') = nI w ∧ ¬ cb (S.1 122) s i = cb (S.1 124) s' i'
theorem mb_cb {a b : Int32} {s s' i i' : Nat} (ha : rg a 0 9) (hb : rg b 0 9) (hs : s < 4) (hs' : s' < 4) : ((if i = 0 then nI (100 + s) else a) = (if i' = 0 then nI (100 + s') else b)) ↔ ((if i = 0 then nI (10 + s) else a) = (if i' = 0 then nI (10 + s') else b)) := by
  obtain ⟨x, rfl, x1, x2, x3⟩ := rg_ex ha (by omega)
  obtain ⟨y, rfl, y1, y2, y3⟩ := rg_ex hb (by omega)
  by_cases c : i = 0
  · rw [if_pos c, if_pos c]
    by_cases c' : i' = 0
    · rw [if_pos c', if_pos c']
      constructor
      · intro q; rw [show s = s' by have := nI_inj (by omega) (by omega) q; omega]
      · intro q; rw [show s = s' by have := nI_inj (by omega) (by omega) q; omega]
    · rw [if_neg c', if_neg c']
      constructor
      · intro q; have := nI_inj (by omega) (by omega) q; omega
      · intro q; have := nI_inj (by omega) (by omega) q; omega
  · rw [if_neg c, if_neg c]
    by_cases c' : i' = 0
    · rw [if_pos c', if_pos c']
      constructor
      · intro q; have := nI_inj (by omega) (by omega) q; omega
      · intro q; have := nI_inj (by omega) (by omega) q; omega
    · rw [if_neg c', if_neg c']
theorem cm_L12 {S : SS} {m : Nat} {d : Nat → Bool} (hW : WR S) (hS : DW (S.1 123) (S.1 122)) (hG : DW (S.1 125) (S.1 124)) (hm : Msk S m 4 0) (same : ∀ w, w < 10 → (Bef (S.1 123) (S.1 122) (nI w) 4 0 ↔ Bef (S.1 125) (S.1 124) (nI w) 4 0)) (hd : ∀ w, d w = true ↔ Dv S w) : ∀ (N x : Nat), x ≤ 10 → 10 < N + x → f_Plans_countMoved_L12 N (nI m) (nI (cnD d x)) (nI x) S = some (nI (cnD d 10), S)
  | 0, x, hx, hN => by omega
  | N + 1, x, hx, hN => by
    rw [f_Plans_countMoved_L12.eq_2]
    by_cases c : x = 10
    · subst c
      rw [if_pos (show (10 : Int32) ≤ nI 10 from nI_le (a := 10) (by omega) (by omega))]
    · have hx' : x < 10 := by omega
      rw [if_neg (show ¬ ((10 : Int32) ≤ nI x) from nI_ge (b := 10) hx' (by omega))]
      have nx : ∀ v, v = cnD d (x + 1) → f_Plans_countMoved_j49 (fun v0 v1 v2 S => f_Plans_countMoved_L12 N v0 v1 v2 S) (nI m) (nI v) (nI x) S = some (nI (cnD d 10), S) := fun v hv => by
        rw [f_Plans_countMoved_j49.eq_1, hv]
        show f_Plans_countMoved_L12 N (nI m) (nI (cnD d (x + 1))) (nI x + 1) S = _
        rw [nI_1]
        exact cm_L12 hW hS hG hm same hd N (x + 1) (by omega) (by omega)
      have e0 : cnD d (x + 1) = cnD d x + if d x = true then 1 else 0 := rfl
      by_cases q : ((nI m >>> (nI x &&& 31)) &&& (1 : Int32)) = 1
      · rw [if_pos q]
        have hb := (hm.2.2 x hx').mp ((bt_all ⟨x, hx'⟩ ⟨m, hm.1⟩).mp q)
        obtain ⟨s, i, -, s1, s2, s3⟩ := hb
        obtain ⟨s', i', -, g1, g2, g3⟩ := (same x hx').mp ⟨s, i, Or.inl s1, s1, s2, s3⟩
        rw [be_start hW hS s1 s2 s3, bnd_r, be_goal hW hG g1 g2 g3, bnd_r]
        by_cases z : (if i = 0 then nI (10 + s) else S.1 122 (10 * s + (i - 1))) = (if i' = 0 then nI (10 + s') else S.1 124 (10 * s' + (i' - 1)))
        · rw [if_pos z]
          refine nx _ ?_
          rw [e0, if_neg]
          · rfl
          · intro k
            obtain ⟨a, b, a', b', k1, k2, k3, k4, k5, k6, k7⟩ := (hd x).mp k
            obtain ⟨u1, u2⟩ := hS a b s i k1 s1 k2 s2 (k3.trans s3.symm)
            obtain ⟨v1, v2⟩ := hG a' b' s' i' k4 g1 k5 g2 (k6.trans g3.symm)
            subst u1 u2 v1 v2
            exact k7 z
        · rw [if_neg z]
          show f_Plans_countMoved_j49 (fun v0 v1 v2 S => f_Plans_countMoved_L12 N v0 v1 v2 S) (nI m) (nI (cnD d x) + 1) (nI x) S = _
          rw [nI_1]
          refine nx _ ?_
          rw [e0, if_pos ((hd x).mpr ⟨s, i, s', i', s1, s2, s3, g1, g2, g3, z⟩)]
      · rw [if_neg q]
        refine nx _ ?_
        rw [e0, if_neg]
        · rfl
        · intro k
          obtain ⟨a, b, a', b', k1, k2, k3, -⟩ := (hd x).mp k
          exact q ((bt_all ⟨x, hx'⟩ ⟨m, hm.1⟩).mpr ((hm.2.2 x hx').mpr ⟨a, b, Or.inl k1, k1, k2, k3⟩))
theorem bd_L13 {S T : SS} {d : Nat → Bool} (hT : WR T) (hS : DW (S.1 123) (S.1 122)) (hG : DW (S.1 125) (S.1 124)) (same : ∀ w, w < 10 → (Bef (S.1 123) (S.1 122) (nI w) 4 0 ↔ Bef (S.1 125) (S.1 124) (nI w) 4 0)) (hd : ∀ w, d w = true ↔ Dv S w) (k47 : T.1 47 = S.1 123) (k48 : T.1 48 = S.1 122) (k49 : T.1 49 = S.1 125) (k50 : T.1 50 = S.1 124) : ∀ (N x : Nat), x ≤ 10 → 10 < N + x → f_M_bound_L13 N (nI (cnD d x)) (nI x) T = some (nI (cnD d 10), T)
  | 0, x, hx, hN => by omega
  | N + 1, x, hx, hN => by
    rw [f_M_bound_L13.eq_2]
    by_cases c : x = 10
    · subst c
      rw [if_pos (show (10 : Int32) ≤ nI 10 from nI_le (a := 10) (by omega) (by omega))]
    · have hx' : x < 10 := by omega
      rw [if_neg (show ¬ ((10 : Int32) ≤ nI x) from nI_ge (b := 10) hx' (by omega))]
      have e0 : cnD d (x + 1) = cnD d x + if d x = true then 1 else 0 := rfl
      have nx : ∀ y : Nat, cnD d x + y = cnD d (x + 1) → f_M_bound_j52 (fun v0 v1 S => f_M_bound_L13 N v0 v1 S) (nI x) (nI y) (nI (cnD d x)) T = some (nI (cnD d 10), T) := fun y hy => by
        rw [f_M_bound_j52.eq_1]
        show f_M_bound_L13 N (nI (cnD d x) + nI y) (nI x + 1) T = _
        rw [nI_1, nI_add, hy]
        exact bd_L13 hT hS hG same hd k47 k48 k49 k50 N (x + 1) (by omega) (by omega)
      obtain ⟨r, e1, p1⟩ := udx_s (w := nI x) hT
      obtain ⟨r', e2, p2⟩ := udx_g (w := nI x) hT
      rw [e1, bnd_r, e2, bnd_r]
      have iff : r = r' ↔ ¬ Dv S x := by
        rcases p1 with ⟨a1, a2⟩ | ⟨s, i, -, s1, s2, s3, s4⟩
        · rw [k47, k48] at a2
          rcases p2 with ⟨b1, -⟩ | ⟨s', i', -, g1, g2, g3, -⟩
          · refine ⟨fun _ k => ?_, fun _ => by rw [a1, b1]⟩
            obtain ⟨u, v, u', v', k1, k2, k3, -⟩ := k
            exact a2 ⟨u, v, Or.inl k1, k1, k2, k3⟩
          · rw [k49] at g2
            rw [k50] at g3
            exact absurd ((same x hx').mpr ⟨s', i', Or.inl g1, g1, g2, g3⟩) a2
        · rcases p2 with ⟨-, b2⟩ | ⟨s', i', -, g1, g2, g3, g4⟩
          · rw [k47] at s2
            rw [k48] at s3
            rw [k49, k50] at b2
            exact absurd ((same x hx').mp ⟨s, i, Or.inl s1, s1, s2, s3⟩) b2
          · have z := mb_cb (i := i) (i' := i') (ro_48 hT (10 * s + (i - 1))) (ro_50 hT (10 * s' + (i' - 1))) s1 g1
            rw [s4, g4, z, k48, k50]
            rw [k47] at s2
            rw [k48] at s3
            rw [k49] at g2
            rw [k50] at g3
            constructor
            · intro q k
              obtain ⟨u, v, u', v', k1, k2, k3, k4, k5, k6, k7⟩ := k
              obtain ⟨w1, w2⟩ := hS u v s i k1 s1 k2 s2 (k3.trans s3.symm)
              obtain ⟨w3, w4⟩ := hG u' v' s' i' k4 g1 k5 g2 (k6.trans g3.symm)
              subst w1 w2 w3 w4
              exact k7 q
            · intro k
              apply Classical.byContradiction
              intro q
              exact k ⟨s, i, s', i', s1, s2, s3, g1, g2, g3, q⟩
      by_cases q : r = r'
      · rw [if_pos q]
        refine nx 0 ?_
        rw [e0, if_neg (fun k => iff.mp q ((hd x).mp k))]
      · rw [if_neg q]
        refine nx 1 ?_
        rw [e0, if_pos ((hd x).mpr (Classical.byContradiction (fun k => q (iff.mpr k))))]
theorem bound_eq {r1 r2 : Int32} {S S1 S2 : SS} (hW : WR S) (w1 : WR S1) (hP : PL S) (h1 : ∀ i, S.1 122 i = S.1 48 i) (h2 : ∀ i, S.1 123 i = S.1 47 i) (h3 : ∀ i, S.1 124 i = S.1 50 i) (h4 : ∀ i, S.1 125 i = S.1 49 i) (e1 : f_Yard_bound S = some (r1, S1)) (e2 : f_M_bound S1 = some (r2, S2)) (g1 : F1 [] [] S S1) : r1 = r2 := by
  have e122 : S.1 122 = S.1 48 := funext h1
  have e123 : S.1 123 = S.1 47 := funext h2
  have e124 : S.1 124 = S.1 50 := funext h3
  have e125 : S.1 125 = S.1 49 := funext h4
  have hS : DW (S.1 123) (S.1 122) := by rw [e123, e122]; exact hP.2.1
  have hG : DW (S.1 125) (S.1 124) := by rw [e125, e124]; exact hP.2.2
  obtain ⟨m, em, hm⟩ := msk2 hW (fun i => by rw [h1]; exact ro_48 hW i) hS
  obtain ⟨n, en, hn⟩ := msk2g hW (fun i => by rw [h3]; exact ro_50 hW i) hG
  obtain ⟨b, eb, pb⟩ := as2 w1
  have k47 : S1.1 47 = S.1 123 := by rw [e123]; exact funext fun i => g1 47 i rfl
  have k48 : S1.1 48 = S.1 122 := by rw [e122]; exact funext fun i => g1 48 i rfl
  have k49 : S1.1 49 = S.1 125 := by rw [e125]; exact funext fun i => g1 49 i rfl
  have k50 : S1.1 50 = S.1 124 := by rw [e124]; exact funext fun i => g1 50 i rfl
  have sm : nI m = nI n ↔ SameW S1 := by
    unfold SameW
    rw [k47, k48, k49, k50]
    constructor
    · intro q w hw
      have := nI_inj (by have := hm.1; omega) (by have := hn.1; omega) q
      subst this
      exact (hm.2.2 w hw).symm.trans (hn.2.2 w hw)
    · intro q
      rw [(mk_eq hm.1 hn.1).mpr (fun w hw => ?_)]
      have := (hm.2.2 w hw).trans ((q w hw).trans (hn.2.2 w hw).symm)
      cases x : m.testBit w <;> cases y : n.testBit w
      · rfl
      · rw [x, y] at this; exact absurd (this.mpr rfl) (by decide)
      · rw [x, y] at this; exact absurd (this.mp rfl) (by decide)
      · rfl
  rw [f_Yard_bound.eq_1] at e1
  rw [f_M_bound.eq_1] at e2
  replace e2 := bnd_s e2 eb
  have es : f_Plans_haveSameWagons S = some (if nI m = nI n then 1 else 0, S) := by
    rw [f_Plans_haveSameWagons.eq_1, em, bnd_r, en, bnd_r]
    by_cases q : nI m = nI n
    · rw [if_pos q, if_pos q]
    · rw [if_neg q, if_neg q]
  replace e1 := bnd_s e1 es
  by_cases q : nI m = nI n
  · rw [if_pos q, if_neg (by decide)] at e1
    rw [pb.mpr (sm.mp q), if_neg (show ¬ bI true = 0 by decide)] at e2
    have same : ∀ w, w < 10 → (Bef (S.1 123) (S.1 122) (nI w) 4 0 ↔ Bef (S.1 125) (S.1 124) (nI w) 4 0) := fun w hw => by
      have := sm.mp q w hw
      rw [k47, k48, k49, k50] at this
      exact this
    have hd : ∃ d : Nat → Bool, ∀ w, (d w = true ↔ Dv S w) := ⟨fun w => @decide (Dv S w) (Classical.propDecidable _), fun w => @decide_eq_true_iff _ (Classical.propDecidable _)⟩
    obtain ⟨d, hd⟩ := hd
    have c1 : f_Plans_countMoved S = some (nI (cnD d 10), S) := by
      rw [f_Plans_countMoved.eq_1, em, bnd_r]
      exact cm_L12 hW hS hG hm same hd NF 0 (by omega) (by have : NF = 100000 := rfl; omega)
    replace e1 := bnd_s e1 c1
    have c2 := bd_L13 w1 hS hG same hd k47 k48 k49 k50 NF 0 (by omega) (by have : NF = 100000 := rfl; omega)
    have e2 : f_M_bound_L13 NF (nI (cnD d 0)) (nI 0) S1 = some (r2, S2) := e2
    rw [c2] at e2
    injection e1 with e1; injection e1 with a1 a2
    injection e2 with e2; injection e2 with b1 b2
    rw [← a1, ← b1]
  · rw [if_neg q, if_pos rfl] at e1
    have bf : b = false := by
      cases hb : b with
      | false => rfl
      | true => exact absurd (sm.mpr (pb.mp hb)) q
    rw [bf, if_pos (show bI false = 0 from rfl)] at e2
    injection e1 with e1; injection e1 with a1 a2
    injection e2 with e2; injection e2 with b1 b2
    rw [← a1, ← b1]
end
section
theorem wr_r {ρ : Type} (S : SS) (k i : Nat) (v : Int32) (g : SS → Option ρ) : wr S k i v g = g (st S k i v) := rfl
/-! ===== two runs side by side: what a run that ended tells ===== -/
theorem bnd_i {ρ : Type} {A : Option (Int32 × SS)} {f : Int32 → SS → Option ρ} {y : ρ} (h : bnd A f = some y) : ∃ a T, A = some (a, T) ∧ f a T = some y := by
  match A, h with
  | some (a, T), h => exact ⟨a, T, rfl, h⟩
theorem bndv_i {ρ : Type} {A : Option SS} {f : SS → Option ρ} {y : ρ} (h : bndv A f = some y) : ∃ T, A = some T ∧ f T = some y := by
  match A, h with
  | some T, h => exact ⟨T, rfl, h⟩
theorem grd_i {ρ : Type} {c : Bool} {A : Option ρ} {y : ρ} (h : grd c A = some y) : c = true ∧ A = some y := grd_t h
theorem grT {ρ : Type} {c : Bool} {A : Option ρ} (h : c = true) : grd c A = A := by
  unfold grd; rw [if_pos h]
theorem nmR {α ρ : Type} (x : α) (f : α → Option ρ) : nm x f = f x := rfl
theorem so_i {α : Type} {a b : α} {S T : SS} (h : some (a, S) = some (b, T)) : b = a ∧ T = S := by
  injection h with h; injection h with h1 h2; exact ⟨h1.symm, h2.symm⟩
theorem inb_e {a : Int32} {k : Nat} (h : inb a k = true) (hk : k < 2 ^ 31) : ∃ x, x < k ∧ a = nI x := by
  have hl := inb_lt h
  refine ⟨a.toNatClampNeg, hl, ?_⟩
  have h0 : ¬ a < 0 := by
    intro q
    unfold inb at h
    rw [decide_eq_true q] at h
    cases h
  have h1 : 0 ≤ a.toInt := by
    rw [Int32.lt_iff_toInt_lt] at h0
    have : (0 : Int32).toInt = 0 := by decide
    omega
  apply Int32.toInt_inj.mp
  rw [nI_ti (by omega)]
  show a.toInt = (a.toInt.toNat : Int)
  omega
/-- numbers -/
theorem hk_all : ∀ h : Fin 1200, nI h.1 >>> ((1 : Int32) &&& 31) = nI (h.1 / 2) ∧ nI h.1 &&& (1 : Int32) = nI (h.1 % 2) ∧ nI h.1 ^^^ (1 : Int32) = nI (2 * (h.1 / 2) + (1 - h.1 % 2)) := by decide +kernel
theorem n_shr {h : Nat} (q : h < 1200) : nI h >>> ((1 : Int32) &&& 31) = nI (h / 2) := (hk_all ⟨h, q⟩).1
theorem n_and {h : Nat} (q : h < 1200) : nI h &&& (1 : Int32) = nI (h % 2) := (hk_all ⟨h, q⟩).2.1
theorem n_xor {h : Nat} (q : h < 1200) : nI h ^^^ (1 : Int32) = nI (2 * (h / 2) + (1 - h % 2)) := (hk_all ⟨h, q⟩).2.2
theorem xr_all : ∀ a b : Fin 2, nI a.1 ^^^ nI b.1 = nI (if b.1 = 0 then a.1 else 1 - a.1) := by decide +kernel
theorem n_xr {a b : Nat} (ha : a < 2) (hb : b < 2) : nI a ^^^ nI b = nI (if b = 0 then a else 1 - a) := xr_all ⟨a, ha⟩ ⟨b, hb⟩
theorem n_mul (a b : Nat) {x : Int32} (h : x = nI a) : x * nI b = nI (a * b) := by subst h; exact nI_mul a b
theorem nM2 (b : Nat) : (2 : Int32) * nI b = nI (2 * b) := nI_mul 2 b
theorem nM3 (b : Nat) : (3 : Int32) * nI b = nI (3 * b) := nI_mul 3 b
theorem nM24 (b : Nat) : (24 : Int32) * nI b = nI (24 * b) := nI_mul 24 b
theorem n_d2 {a : Nat} (h : a < 2 ^ 31) : nI a / (2 : Int32) = nI (a / 2) := nI_div (b := 2) h (by omega) (by omega)
theorem n_r2 {a : Nat} (h : a < 2 ^ 31) : nI a - nI a / (2 : Int32) * (2 : Int32) = nI (a % 2) := nI_rem (b := 2) h (by omega) (by omega)
theorem n_d24 {a : Nat} (h : a < 2 ^ 31) : nI a / (24 : Int32) = nI (a / 24) := nI_div (b := 24) h (by omega) (by omega)
theorem n_r24 {a : Nat} (h : a < 2 ^ 31) : nI a - nI a / (24 : Int32) * (24 : Int32) = nI (a % 24) := nI_rem (b := 24) h (by omega) (by omega)
theorem n_m1 {a : Nat} (h : 0 < a) (ha : a < 2 ^ 31) : nI a - (1 : Int32) = nI (a - 1) := nI_sb (b := 1) h ha
theorem n_leJ {a b : Nat} (ha : a < 2 ^ 31) (hb : b < 2 ^ 31) : nI a ≤ nI b ↔ a ≤ b := by
  rw [Int32.le_iff_toInt_le, nI_ti ha, nI_ti hb]; omega
theorem n_ne0 {a : Nat} (ha : a < 2 ^ 31) (h : ¬ a = 0) : ¬ nI a = (0 : Int32) := fun z => h (nI_inj (b := 0) ha (by omega) z)
/-! ===== breadth first, on any graph ===== -/
/-- what POTENTIALS are, without a word of MOVES counted -/
def Pot {α : Type} (E : α → α → Prop) (g : α) (p : α → Int) : Prop := p g = 0 ∧ (∀ u, p u = 0 → u = g) ∧ (∀ v u, 0 ≤ p v → E v u → 0 ≤ p u ∧ p u ≤ p v + 1) ∧ (∀ u, 0 < p u → ∃ v, E v u ∧ p v = p u - 1)
theorem Pot.le {α : Type} {E : α → α → Prop} {g : α} {p p' : α → Int} (h : Pot E g p) (h' : Pot E g p') : ∀ (k : Nat) (u : α), p u = k → 0 ≤ p' u ∧ p' u ≤ k
  | 0, u, e => by
    have : u = g := h.2.1 u (by omega)
    subst this
    rw [h'.1]
    exact ⟨by omega, by omega⟩
  | k + 1, u, e => by
    obtain ⟨v, e1, e2⟩ := h.2.2.2 u (by omega)
    obtain ⟨a1, a2⟩ := Pot.le h h' k v (by omega)
    obtain ⟨b1, b2⟩ := h'.2.2.1 v u a1 e1
    exact ⟨b1, by omega⟩
theorem Pot.eq {α : Type} {E : α → α → Prop} {g : α} {p p' : α → Int} (h : Pot E g p) (h' : Pot E g p') {u : α} (hu : 0 ≤ p u) : p' u = p u := by
  obtain ⟨a1, a2⟩ := h.le h' (p u).toNat u (by omega)
  obtain ⟨b1, b2⟩ := h'.le h (p' u).toNat u (by omega)
  omega
/-- while the n found are looked at, the i-th now, N of its neighbours done -/
def Bf {α : Type} (E : α → α → Prop) (g : α) (q : Nat → α) (n i : Nat) (p : α → Int) (N : α → Prop) : Prop :=
  (0 < n ∧ i ≤ n ∧ q 0 = g ∧ p g = 0) ∧ (∀ u, 0 ≤ p u ↔ ∃ j, j < n ∧ q j = u) ∧ (∀ j, 0 < j → j < n → ∃ k, k < j ∧ E (q k) (q j) ∧ p (q j) = p (q k) + 1) ∧ (∀ j k, j ≤ k → k < n → p (q j) ≤ p (q k)) ∧ (∀ j, j < n → i < n → p (q j) ≤ p (q i) + 1) ∧ (∀ k u, k < i → E (q k) u → 0 ≤ p u ∧ p u ≤ p (q k) + 1) ∧ (∀ u, N u → 0 ≤ p u ∧ p u ≤ p (q i) + 1)
theorem Bf.ini {α : Type} {E : α → α → Prop} {g : α} {q : Nat → α} {p : α → Int} (h0 : q 0 = g) (hp : p g = 0) (hn : ∀ u, u ≠ g → p u < 0) : Bf E g q 1 0 p (fun _ => False) := by
  refine ⟨⟨by omega, by omega, h0, hp⟩, fun u => ⟨fun h => ⟨0, by omega, ?_⟩, ?_⟩, fun j a b => by omega, fun j k a b => ?_, fun j a b => ?_, fun k u a => by omega, fun u a => a.elim⟩
  · rw [h0]
    exact Classical.byContradiction fun c => by have := hn u (Ne.symm c); omega
  · rintro ⟨j, hj, rfl⟩
    have : j = 0 := by omega
    rw [this, h0, hp]; omega
  · have : j = 0 := by omega
    have : k = 0 := by omega
    subst j k
    omega
  · have : j = 0 := by omega
    subst this
    omega
/-- a neighbour that is found already -/
theorem Bf.old {α : Type} {E : α → α → Prop} {g : α} {q : Nat → α} {n i : Nat} {p : α → Int} {N N' : α → Prop} {u : α} (h : Bf E g q n i p N) (hi : i < n) (hu : 0 ≤ p u) (hN : ∀ v, N' v → v = u ∨ N v) : Bf E g q n i p N' := by
  obtain ⟨h1, h2, h3, h4, h5, h6, h7⟩ := h
  refine ⟨h1, h2, h3, h4, h5, h6, fun v hv => ?_⟩
  rcases hN v hv with rfl | hv
  · obtain ⟨j, hj, rfl⟩ := (h2 v).mp hu
    exact ⟨hu, h5 j hj hi⟩
  · exact h7 v hv
/-- one that is not -/
theorem Bf.new {α : Type} {E : α → α → Prop} {g : α} {q q' : Nat → α} {n i : Nat} {p p' : α → Int} {N N' : α → Prop} {u : α} (h : Bf E g q n i p N) (hi : i < n) (hE : E (q i) u) (hu : p u < 0) (hq : ∀ j, j < n → q' j = q j) (hqn : q' n = u) (hp : p' u = p (q i) + 1) (hpo : ∀ v, v ≠ u → p' v = p v) (hN : ∀ v, N' v → v = u ∨ N v) : Bf E g q' (n + 1) i p' N' := by
  obtain ⟨⟨a1, a2, a3, a4⟩, h2, h3, h4, h5, h6, h7⟩ := h
  have old : ∀ j, j < n → q j ≠ u := fun j hj e => by
    have := (h2 (q j)).mpr ⟨j, hj, rfl⟩
    rw [e] at this
    omega
  have po : ∀ j, j < n → p' (q' j) = p (q j) := fun j hj => by rw [hq j hj, hpo _ (old j hj)]
  have pn : p' (q' n) = p (q i) + 1 := by rw [hqn, hp]
  have mk : ∀ v, 0 ≤ p v → v ≠ u := fun v hv e => by rw [e] at hv; omega
  have p0 : 0 ≤ p (q i) := (h2 (q i)).mpr ⟨i, hi, rfl⟩
  refine ⟨⟨by omega, by omega, by rw [hq 0 a1]; exact a3, by rw [hpo g (mk g (by omega))]; exact a4⟩, fun v => ?_, fun j b c => ?_, fun j k b c => ?_, fun j b c => ?_, fun k v b c => ?_, fun v hv => ?_⟩
  · by_cases e : v = u
    · subst e
      exact ⟨fun _ => ⟨n, by omega, hqn⟩, fun _ => by rw [hp]; omega⟩
    · rw [hpo v e, h2 v]
      constructor
      · rintro ⟨j, hj, ej⟩
        exact ⟨j, by omega, by rw [hq j hj]; exact ej⟩
      · rintro ⟨j, hj, ej⟩
        by_cases f : j = n
        · rw [f, hqn] at ej; exact absurd ej.symm e
        · exact ⟨j, by omega, by rw [← hq j (by omega)]; exact ej⟩
  · by_cases f : j = n
    · subst f
      exact ⟨i, hi, by rw [hq i hi, hqn]; exact hE, by rw [pn, po i hi]⟩
    · obtain ⟨k, k1, k2, k3⟩ := h3 j b (by omega)
      exact ⟨k, k1, by rw [hq k (by omega), hq j (by omega)]; exact k2, by rw [po j (by omega), po k (by omega)]; exact k3⟩
  · by_cases f : k = n
    · subst f
      rw [pn]
      by_cases f' : j = k
      · rw [f', pn]; omega
      · rw [po j (by omega)]; exact h5 j (by omega) hi
    · rw [po k (by omega), po j (by omega)]; exact h4 j k b (by omega)
  · rw [po i hi]
    by_cases f : j = n
    · rw [f, pn]; omega
    · rw [po j (by omega)]; exact h5 j (by omega) hi
  · rw [hq k (by omega)] at c
    obtain ⟨d1, d2⟩ := h6 k v b c
    rw [po k (by omega), hpo v (mk v d1)]
    exact ⟨d1, d2⟩
  · rw [po i hi]
    rcases hN v hv with rfl | hv
    · rw [hp]; exact ⟨by omega, by omega⟩
    · obtain ⟨d1, d2⟩ := h7 v hv
      rw [hpo v (mk v d1)]
      exact ⟨d1, d2⟩
/-- all neighbours done -/
theorem Bf.nxt {α : Type} {E : α → α → Prop} {g : α} {q : Nat → α} {n i : Nat} {p : α → Int} {N : α → Prop} (h : Bf E g q n i p N) (hi : i < n) (hN : ∀ u, E (q i) u → N u) : Bf E g q n (i + 1) p (fun _ => False) := by
  obtain ⟨⟨a1, a2, a3, a4⟩, h2, h3, h4, h5, h6, h7⟩ := h
  refine ⟨⟨a1, by omega, a3, a4⟩, h2, h3, h4, fun j b c => ?_, fun k u b c => ?_, fun u a => a.elim⟩
  · have := h5 j b hi
    have := h4 i (i + 1) (by omega) c
    omega
  · by_cases e : k = i
    · subst e; exact h7 u (hN u c)
    · exact h6 k u (by omega) c
theorem Bf.fin {α : Type} {E : α → α → Prop} {g : α} {q : Nat → α} {n : Nat} {p : α → Int} {N : α → Prop} (h : Bf E g q n n p N) : Pot E g p := by
  obtain ⟨⟨a1, a2, a3, a4⟩, h2, h3, h4, h5, h6, h7⟩ := h
  refine ⟨a4, fun u hu => ?_, fun v u hv hE => ?_, fun u hu => ?_⟩
  · obtain ⟨j, hj, rfl⟩ := (h2 u).mp (by omega)
    by_cases e : j = 0
    · rw [e, a3]
    · obtain ⟨k, k1, k2, k3⟩ := h3 j (by omega) hj
      have := (h2 (q k)).mpr ⟨k, by omega, rfl⟩
      omega
  · obtain ⟨j, hj, rfl⟩ := (h2 v).mp hv
    exact h6 j u hj hE
  · obtain ⟨j, hj, rfl⟩ := (h2 u).mp (by omega)
    by_cases e : j = 0
    · rw [e, a3, a4] at hu; omega
    · obtain ⟨k, k1, k2, k3⟩ := h3 j (by omega) hj
      exact ⟨q k, k2, by omega⟩
/-! ===== the reference's POTENTIALS ===== -/
noncomputable def pR (U : SS) (n : Nat) (X : Cf) : Int := @ite Int (Cn U n X) (Classical.propDecidable _) (U.1 55 (cdX U n X)).toInt (-1)
theorem pR_y {U : SS} {n : Nat} {X : Cf} (h : Cn U n X) : pR U n X = (U.1 55 (cdX U n X)).toInt := if_pos h
theorem pR_n {U : SS} {n : Nat} {X : Cf} (h : ¬ Cn U n X) : pR U n X = -1 := if_neg h
theorem pR_at {U : SS} {n : Nat} {G : Cf} {Ys : Nat → Cf} {pt : Nat → Nat} {sz : Nat} (h : BI U n G U Ys pt sz sz) (hz : sz ≤ 6720) {i : Nat} (hi : i < sz) : pR U n (Ys i) = (pt i : Int) := by
  rw [pR_y (h.cf i hi), h.p i hi, nI_ti (by have := h.le i hi; omega)]
theorem pR_mem {U : SS} {n : Nat} {G : Cf} {Ys : Nat → Cf} {pt : Nat → Nat} {sz : Nat} (hp : PW U n) (h : BI U n G U Ys pt sz sz) {X : Cf} (hX : 0 ≤ pR U n X) : ∃ i, i < sz ∧ Ys i = X := by
  apply Classical.byContradiction
  intro c
  by_cases q : Cn U n X
  · rw [pR_y q] at hX
    have o := h.out (cdX U n X) (cd_v hp q.1).2 (fun i hi e => c ⟨i, hi, cd_inj hp (h.cf i hi) q e⟩)
    rw [o] at hX
    exact absurd hX (by decide)
  · rw [pR_n q] at hX
    omega
theorem BI.szl {U : SS} {n : Nat} {G : Cf} {Ys : Nat → Cf} {pt : Nat → Nat} {sz k : Nat} (hp : PW U n) (h : BI U n G U Ys pt sz k) : sz ≤ 6720 := by
  have q := php (vC n) sz (fun i => cdX U n (Ys i)) (fun i hi => (cd_v hp (h.cf i hi).1).1) (fun i j hi hj e => h.inj i j hi hj e)
  have := vC_len hp.1.2.1
  omega
theorem mv_sym {R : Nat → Nat} {X Z : Cf} (h : Mv R X Z) (hf : Fit R X) : Mv R Z X := by
  obtain ⟨a, b, n, ha, hb, ab, n1, na, hr, rfl⟩ := h
  have la : (mvd a b n X a).length = (X a).length - n := by
    show (if a = a then _ else _ : List Nat).length = _
    rw [if_pos rfl, List.length_take]
    omega
  have lb : (mvd a b n X b).length = (X b).length + n := by
    show (if b = a then _ else if b = b then _ else _ : List Nat).length = _
    rw [if_neg (Ne.symm ab), if_pos rfl, List.length_append, List.length_drop]
    omega
  exact ⟨b, a, n, hb, ha, Ne.symm ab, n1, by omega, by have := hf a ha; omega, (mvd_rev ab na).symm⟩
theorem pot_R {U : SS} {n : Nat} {G : Cf} {Ys : Nat → Cf} {pt : Nat → Nat} {sz : Nat} (hp : PW U n) (h : BI U n G U Ys pt sz sz) : Pot (Mv (rmN U)) G (pR U n) := by
  have hz := h.szl hp
  refine ⟨?_, fun X hX => ?_, fun X Z hX hE => ?_, fun X hX => ?_⟩
  · have := pR_at h hz h.z0
    rw [h.z1, h.z2] at this
    exact this
  · obtain ⟨i, hi, rfl⟩ := pR_mem hp h (X := X) (by omega)
    rw [pR_at h hz hi] at hX
    by_cases c : pt i = 0
    · by_cases d : i = 0
      · rw [d, h.z1]
      · exfalso
        have hd : ∀ j, j < sz → pt j = 0 → j = 0 := h.u0
        exact d (hd i hi c)
    · omega
  · obtain ⟨i, hi, rfl⟩ := pR_mem hp h hX
    obtain ⟨j, hj, rfl, e⟩ := h.sp i hi hi Z hE
    rw [pR_at h hz hi, pR_at h hz hj]
    omega
  · obtain ⟨j, hj, rfl⟩ := pR_mem hp h (X := X) (by omega)
    rw [pR_at h hz hj] at hX
    obtain ⟨i, hi, e1, e2⟩ := h.par j hj (by omega)
    exact ⟨Ys i, mv_sym e2 (h.cf j hj).2.1, by rw [pR_at h hz hi, pR_at h hz hj]; omega⟩
/-! ===== the class's orders: pure ===== -/
def insA (d k : Nat) (l : List Nat) : List Nat := l.take d ++ k :: l.drop d
def seqG : Nat → Nat → Nat → List Nat → List Nat
  | 0, _, _, l => l
  | m + 1, k, r, l => seqG m (k + 1) (r / (k + 1)) (insA (r % (k + 1)) k l)
/-- the row of order o of n WAGONS -/
def seqN (n o : Nat) : List Nat := seqG n 0 o []
/-- behind how many lesser ones k stands -/
def digA (l : List Nat) (k : Nat) : Nat := match l with
  | [] => 0
  | a :: t => if a = k then 0 else (if a < k then 1 else 0) + digA t k
def ordG : Nat → Nat → List Nat → Nat
  | 0, a, _ => a
  | k + 1, a, l => ordG k (a * (k + 1) + digA l k) l
def ordN (n : Nat) (l : List Nat) : Nat := ordG n 0 l
def facN : Nat → Nat
  | 0 => 1
  | n + 1 => (n + 1) * facN n
/-- all rows of m numbers below n -/
def allL (n : Nat) : Nat → List (List Nat)
  | 0 => [[]]
  | m + 1 => (allL n m).flatMap (fun l => (List.range n).map (fun a => a :: l))
def ndB : List Nat → Bool
  | [] => true
  | a :: t => !(t.any (fun b => Nat.beq b a)) && ndB t
def okO (n : Nat) : Bool := (List.range (facN n)).all (fun o => Nat.beq (ordN n (seqN n o)) o && Nat.beq (seqN n o).length n && ndB (seqN n o) && (seqN n o).all (fun a => Nat.blt a n))
def eqL : List Nat → List Nat → Bool
  | [], [] => true
  | a :: s, b :: t => Nat.beq a b && eqL s t
  | _, _ => false
def okP (n : Nat) : Bool := (allL n n).all (fun l => !ndB l || (eqL (seqN n (ordN n l)) l && Nat.blt (ordN n l) (facN n)))
theorem okO_5 : (List.range 6).all okO = true := by decide +kernel
theorem okP_5 : (List.range 6).all okP = true := by decide +kernel
theorem allL_mem {n : Nat} : ∀ (m : Nat) (l : List Nat), l.length = m → (∀ a, a ∈ l → a < n) → l ∈ allL n m
  | 0, l, h, _ => by
    rw [List.length_eq_zero_iff.mp h]
    exact List.mem_singleton.mpr rfl
  | m + 1, [], h, _ => by simp at h
  | m + 1, a :: l, h, k => by
    unfold allL
    refine List.mem_flatMap.mpr ⟨l, allL_mem m l (by simpa using h) (fun b hb => k b (List.mem_cons_of_mem _ hb)), ?_⟩
    exact List.mem_map.mpr ⟨a, List.mem_range.mpr (k a (List.mem_cons_self ..)), rfl⟩
theorem ndB_of : ∀ {l : List Nat}, l.Nodup → ndB l = true
  | [], _ => rfl
  | a :: t, h => by
    rw [List.nodup_cons] at h
    unfold ndB
    rw [Bool.and_eq_true, ndB_of h.2]
    refine ⟨?_, rfl⟩
    rw [Bool.not_eq_true', List.any_eq_false]
    intro b hb e
    exact h.1 (by rw [← Nat.eq_of_beq_eq_true e]; exact hb)
theorem eqL_i : ∀ {s t : List Nat}, eqL s t = true → s = t
  | [], [], _ => rfl
  | a :: s, b :: t, h => by
    unfold eqL at h
    rw [Bool.and_eq_true] at h
    rw [Nat.eq_of_beq_eq_true h.1, eqL_i h.2]
  | [], _ :: _, h => by cases h
  | _ :: _, [], h => by cases h
/-- every row of n <= 5 different numbers below n is the one of its order -/
theorem seq_ord {n : Nat} {l : List Nat} (hn : n ≤ 5) (hl : l.length = n) (h : ∀ a, a ∈ l → a < n) (hd : l.Nodup) : seqN n (ordN n l) = l ∧ ordN n l < facN n := by
  have q := List.all_eq_true.mp okP_5 n (List.mem_range.mpr (by omega))
  have q := List.all_eq_true.mp q l (allL_mem n l hl h)
  rw [ndB_of hd] at q
  simp only [Bool.not_true, Bool.false_or, Bool.and_eq_true] at q
  exact ⟨eqL_i q.1, by simpa using q.2⟩
theorem ord_seq {n o : Nat} (hn : n ≤ 5) (ho : o < facN n) : ordN n (seqN n o) = o ∧ (seqN n o).length = n := by
  have q := List.all_eq_true.mp okO_5 n (List.mem_range.mpr (by omega))
  have q := List.all_eq_true.mp q o (List.mem_range.mpr ho)
  simp only [Bool.and_eq_true] at q
  exact ⟨Nat.eq_of_beq_eq_true q.1.1.1, Nat.eq_of_beq_eq_true q.1.1.2⟩
/-! ===== the class's order of a row ===== -/
theorem oq_L56 {S V : SS} {l : List Nat} {n : Nat} {r : Int32} (hn : n ≤ 5) (hd : ∀ k, k < n → S.1 112 k = nI (digA l k)) : ∀ (N k a : Nat), k ≤ n → f_Potentials_orderOf_Potentials_sequence_L56 N (nI a) (nI k - 1) S = some (r, V) → V = S ∧ r = nI (ordG k a l)
  | 0, k, a, _, h => by cases h
  | N + 1, 0, a, _, h => by
    rw [f_Potentials_orderOf_Potentials_sequence_L56.eq_2, if_pos (by decide)] at h
    exact ⟨(so_i h).2, (so_i h).1⟩
  | N + 1, k + 1, a, hk, h => by
    rw [f_Potentials_orderOf_Potentials_sequence_L56.eq_2, n_m1 (by omega) (by omega), Nat.add_sub_cancel, if_neg (nI_nn (by omega)), grT (inb_nI (by omega) (by omega)), nmR, nmR, nI_clamp (by omega), hd k (by omega), nI_1, nI_mul, nI_add, ← Int32.sub_eq_add_neg] at h
    exact oq_L56 hn hd N k (a * (k + 1) + digA l k) (by omega) h
theorem oq_L56' {S V : SS} {l : List Nat} {n : Nat} {r : Int32} (hn : n ≤ 5) (hd : ∀ k, k < n → S.1 112 k = nI (digA l k)) : ∀ (N k a : Nat), k ≤ n → f_Potentials_orderOf_Potentials_swapped_L56 N (nI a) (nI k - 1) S = some (r, V) → V = S ∧ r = nI (ordG k a l)
  | 0, k, a, _, h => by cases h
  | N + 1, 0, a, _, h => by
    rw [f_Potentials_orderOf_Potentials_swapped_L56.eq_2, if_pos (by decide)] at h
    exact ⟨(so_i h).2, (so_i h).1⟩
  | N + 1, k + 1, a, hk, h => by
    rw [f_Potentials_orderOf_Potentials_swapped_L56.eq_2, n_m1 (by omega) (by omega), Nat.add_sub_cancel, if_neg (nI_nn (by omega)), grT (inb_nI (by omega) (by omega)), nmR, nmR, nI_clamp (by omega), hd k (by omega), nI_1, nI_mul, nI_add, ← Int32.sub_eq_add_neg] at h
    exact oq_L56' hn hd N k (a * (k + 1) + digA l k) (by omega) h
def mkN : List Nat → Nat
  | [] => 0
  | a :: t => mkN t ||| 2 ^ a
def ltN (p : List Nat) (a : Nat) : Nat := match p with
  | [] => 0
  | b :: t => (if b < a then 1 else 0) + ltN t a
def bcK (m a : Nat) : Int32 := bcV (nI m &&& (((1 : Int32) <<< (nI a &&& 31)) - 1))
def okBc : Bool := (List.range 5).all (fun i => (allL 5 i).all (fun p => !ndB p || (List.range 5).all (fun a => p.any (fun b => Nat.beq b a) || (decide (bcK (mkN p) a = nI (ltN p a)) && decide (nI (mkN p) ||| ((1 : Int32) <<< (nI a &&& 31)) = nI (mkN (a :: p)))))))
theorem okBc_5 : okBc = true := by decide +kernel
theorem nd_inj {l : List Nat} (hd : l.Nodup) {i j : Nat} (hi : i < l.length) (hj : j < l.length) (e : l[i] = l[j]) : i = j := by
  have h := List.pairwise_iff_getElem.mp hd
  rcases Nat.lt_trichotomy i j with c | c | c
  · exact absurd e (h i j hi hj c)
  · exact c
  · exact absurd e.symm (h j i hj hi c)
def okAl (n : Nat) : Bool := (List.range (facN n)).all (fun o => (List.range n).all (fun k => (seqN n o).any (fun b => Nat.beq b k)))
theorem okAl_5 : (List.range 6).all okAl = true := by decide +kernel
theorem all_in {n : Nat} {l : List Nat} (hn : n ≤ 5) (hl : l.length = n) (h : ∀ a, a ∈ l → a < n) (hd : l.Nodup) {k : Nat} (hk : k < n) : k ∈ l := by
  obtain ⟨e, ho⟩ := seq_ord hn hl h hd
  have q := List.all_eq_true.mp okAl_5 n (List.mem_range.mpr (by omega))
  have q := List.all_eq_true.mp q _ (List.mem_range.mpr ho)
  have q := List.all_eq_true.mp q k (List.mem_range.mpr hk)
  rw [e] at q
  obtain ⟨b, hb, e'⟩ := List.any_eq_true.mp q
  rw [← Nat.eq_of_beq_eq_true e']; exact hb
theorem ltN_app (a : Nat) : ∀ (s t : List Nat), ltN (s ++ t) a = ltN s a + ltN t a
  | [], t => by show ltN t a = 0 + ltN t a; omega
  | b :: s, t => by
    show (if b < a then 1 else 0) + ltN (s ++ t) a = ((if b < a then 1 else 0) + ltN s a) + ltN t a
    rw [ltN_app a s t]; omega
theorem ltN_rev (a : Nat) : ∀ (s : List Nat), ltN s.reverse a = ltN s a
  | [] => rfl
  | b :: s => by
    rw [List.reverse_cons, ltN_app, ltN_rev a s]
    show ltN s a + ((if b < a then 1 else 0) + 0) = (if b < a then 1 else 0) + ltN s a
    omega
theorem digA_app (a : Nat) : ∀ (s t : List Nat), a ∉ s → digA (s ++ a :: t) a = ltN s a
  | [], t, _ => by show (if a = a then 0 else _) = 0; rw [if_pos rfl]
  | b :: s, t, h => by
    show (if b = a then 0 else (if b < a then 1 else 0) + digA (s ++ a :: t) a) = (if b < a then 1 else 0) + ltN s a
    rw [if_neg (fun e => h (by rw [e]; exact List.mem_cons_self ..)), digA_app a s t (fun e => h (List.mem_cons_of_mem _ e))]
theorem okBc_i {p : List Nat} {a : Nat} (hp : p.length < 5) (h5 : ∀ b, b ∈ p → b < 5) (hd : p.Nodup) (ha : a < 5) (hn : a ∉ p) : bcK (mkN p) a = nI (ltN p a) ∧ nI (mkN p) ||| ((1 : Int32) <<< (nI a &&& 31)) = nI (mkN (a :: p)) := by
  have q := List.all_eq_true.mp okBc_5 p.length (List.mem_range.mpr hp)
  have q := List.all_eq_true.mp q p (allL_mem p.length p rfl h5)
  rw [ndB_of hd] at q
  simp only [Bool.not_true, Bool.false_or] at q
  have q := List.all_eq_true.mp q a (List.mem_range.mpr ha)
  rw [Bool.or_eq_true] at q
  rcases q with q | q
  · obtain ⟨b, hb, e⟩ := List.any_eq_true.mp q
    exact absurd (by rw [← Nat.eq_of_beq_eq_true e]; exact hb) hn
  · rw [Bool.and_eq_true, decide_eq_true_eq, decide_eq_true_eq] at q
    exact q
theorem oq_L4 {S V : SS} {l : List Nat} {n : Nat} {r : Int32} (hn : n ≤ 5) (h5 : S.1 71 5 = nI n) (hl : l.length = n) (hlt : ∀ a, a ∈ l → a < n) (hd : l.Nodup) (hs : ∀ i, ∀ h : i < l.length, S.1 110 i = nI l[i]) : ∀ (N i : Nat) (T : SS), i ≤ n → (∀ k, k ≠ 112 → T.1 k = S.1 k) → (∀ j, j < i → ∀ h : j < l.length, T.1 112 l[j] = nI (digA l l[j])) → f_Potentials_orderOf_Potentials_sequence_L4 N (nI (mkN (l.take i).reverse)) (nI i) T = some (r, V) → (∀ k, k ≠ 112 → V.1 k = S.1 k) ∧ r = nI (ordN n l)
  | 0, i, T, _, _, _, h => by cases h
  | N + 1, i, T, hi, hT, hD, h => by
    rw [f_Potentials_orderOf_Potentials_sequence_L4.eq_2, hT 71 (by decide), h5] at h
    by_cases c : i = n
    · subst c
      rw [if_pos (nI_le (by omega) (by omega)), nmR] at h
      have := oq_L56 (l := l) (n := i) hn (fun k hk => by
        obtain ⟨j, hj, e⟩ := List.getElem_of_mem (all_in hn hl hlt hd hk)
        rw [← e]; exact hD j (by omega) hj) NF i 0 (Nat.le_refl _) h
      rw [this.1]
      exact ⟨hT, this.2⟩
    · have hil : i < l.length := by omega
      have ha := hlt l[i] (List.getElem_mem hil)
      have hpn : l[i] ∉ (l.take i).reverse := fun z => by
        rw [List.mem_reverse] at z
        obtain ⟨j, hj, e⟩ := List.getElem_of_mem z
        rw [List.getElem_take] at e
        rw [List.length_take] at hj
        have := nd_inj hd (by omega) hil e
        omega
      obtain ⟨b1, b2⟩ := okBc_i (p := (l.take i).reverse) (a := l[i]) (by rw [List.length_reverse, List.length_take]; omega) (fun b hb => by
        have := hlt b (List.mem_of_mem_take (List.mem_reverse.mp hb))
        omega) (List.pairwise_reverse.mpr ((hd.sublist (List.take_sublist ..)).imp (fun q => Ne.symm q))) (by omega) hpn
      have e110 : T.1 110 i = nI l[i] := by rw [hT 110 (by decide)]; exact hs i hil
      rw [if_neg (nI_ge (by omega) (by omega)), grT (inb_nI (by omega) (by omega)), grT (inb_nI (by omega) (by omega)), nI_clamp (n := i) (by omega), e110, bc_v, bnd_r, grT (inb_nI (by omega) (by omega)), wr_r, grT (inb_nI (by omega) (by omega)), nmR, nmR, nI_clamp (n := l[i]) (by omega), st_row _ _ _ _ (by decide), e110, nI_1, b2] at h
      have et : l[i] :: (l.take i).reverse = (l.take (i + 1)).reverse := by
        rw [List.take_succ_eq_append_getElem hil, List.reverse_append]; rfl
      rw [et] at h
      have eb : bcV (nI (mkN (l.take i).reverse) &&& (((1 : Int32) <<< (nI l[i] &&& 31)) - 1)) = nI (digA l l[i]) := by
        have := b1
        unfold bcK at this
        rw [this, ltN_rev]
        refine congrArg nI ?_
        have sp : l = l.take i ++ l[i] :: l.drop (i + 1) := by rw [List.getElem_cons_drop, List.take_append_drop]
        have := digA_app l[i] (l.take i) (l.drop (i + 1)) (fun z => hpn (List.mem_reverse.mpr z))
        rw [← sp] at this
        exact this.symm
      rw [eb] at h
      refine oq_L4 hn h5 hl hlt hd hs N (i + 1) _ (by omega) (fun k hk => by rw [st_row _ _ _ _ hk]; exact hT k hk) (fun j hj hjl => ?_) h
      by_cases e : j = i
      · subst e; rw [st_here]
      · have ne : l[j] ≠ l[i] := fun z => by
          have := nd_inj hd hjl hil z
          omega
        rw [st_no (by omega)]; exact hD j (by omega) hjl
theorem oq_L4x {S V : SS} {l : List Nat} {n : Nat} {r : Int32} (hn : n ≤ 5) (h5 : S.1 71 5 = nI n) (hl : l.length = n) (hlt : ∀ a, a ∈ l → a < n) (hd : l.Nodup) (hs : ∀ i, ∀ h : i < l.length, S.1 111 i = nI l[i]) : ∀ (N i : Nat) (T : SS), i ≤ n → (∀ k, k ≠ 112 → T.1 k = S.1 k) → (∀ j, j < i → ∀ h : j < l.length, T.1 112 l[j] = nI (digA l l[j])) → f_Potentials_orderOf_Potentials_swapped_L4 N (nI (mkN (l.take i).reverse)) (nI i) T = some (r, V) → (∀ k, k ≠ 112 → V.1 k = S.1 k) ∧ r = nI (ordN n l)
  | 0, i, T, _, _, _, h => by cases h
  | N + 1, i, T, hi, hT, hD, h => by
    rw [f_Potentials_orderOf_Potentials_swapped_L4.eq_2, hT 71 (by decide), h5] at h
    by_cases c : i = n
    · subst c
      rw [if_pos (nI_le (by omega) (by omega)), nmR] at h
      have := oq_L56' (l := l) (n := i) hn (fun k hk => by
        obtain ⟨j, hj, e⟩ := List.getElem_of_mem (all_in hn hl hlt hd hk)
        rw [← e]; exact hD j (by omega) hj) NF i 0 (Nat.le_refl _) h
      rw [this.1]
      exact ⟨hT, this.2⟩
    · have hil : i < l.length := by omega
      have ha := hlt l[i] (List.getElem_mem hil)
      have hpn : l[i] ∉ (l.take i).reverse := fun z => by
        rw [List.mem_reverse] at z
        obtain ⟨j, hj, e⟩ := List.getElem_of_mem z
        rw [List.getElem_take] at e
        rw [List.length_take] at hj
        have := nd_inj hd (by omega) hil e
        omega
      obtain ⟨b1, b2⟩ := okBc_i (p := (l.take i).reverse) (a := l[i]) (by rw [List.length_reverse, List.length_take]; omega) (fun b hb => by
        have := hlt b (List.mem_of_mem_take (List.mem_reverse.mp hb))
        omega) (List.pairwise_reverse.mpr ((hd.sublist (List.take_sublist ..)).imp (fun q => Ne.symm q))) (by omega) hpn
      have e111 : T.1 111 i = nI l[i] := by rw [hT 111 (by decide)]; exact hs i hil
      rw [if_neg (nI_ge (by omega) (by omega)), grT (inb_nI (by omega) (by omega)), grT (inb_nI (by omega) (by omega)), nI_clamp (n := i) (by omega), e111, bc_v, bnd_r, grT (inb_nI (by omega) (by omega)), wr_r, grT (inb_nI (by omega) (by omega)), nmR, nmR, nI_clamp (n := l[i]) (by omega), st_row _ _ _ _ (by decide), e111, nI_1, b2] at h
      have et : l[i] :: (l.take i).reverse = (l.take (i + 1)).reverse := by
        rw [List.take_succ_eq_append_getElem hil, List.reverse_append]; rfl
      rw [et] at h
      have eb : bcV (nI (mkN (l.take i).reverse) &&& (((1 : Int32) <<< (nI l[i] &&& 31)) - 1)) = nI (digA l l[i]) := by
        have := b1
        unfold bcK at this
        rw [this, ltN_rev]
        refine congrArg nI ?_
        have sp : l = l.take i ++ l[i] :: l.drop (i + 1) := by rw [List.getElem_cons_drop, List.take_append_drop]
        have := digA_app l[i] (l.take i) (l.drop (i + 1)) (fun z => hpn (List.mem_reverse.mpr z))
        rw [← sp] at this
        exact this.symm
      rw [eb] at h
      refine oq_L4x hn h5 hl hlt hd hs N (i + 1) _ (by omega) (fun k hk => by rw [st_row _ _ _ _ hk]; exact hT k hk) (fun j hj hjl => ?_) h
      by_cases e : j = i
      · subst e; rw [st_here]
      · have ne : l[j] ≠ l[i] := fun z => by
          have := nd_inj hd hjl hil z
          omega
        rw [st_no (by omega)]; exact hD j (by omega) hjl
theorem oq_s {S V : SS} {l : List Nat} {n : Nat} {r : Int32} (hn : n ≤ 5) (h5 : S.1 71 5 = nI n) (hl : l.length = n) (hlt : ∀ a, a ∈ l → a < n) (hd : l.Nodup) (hs : ∀ i, ∀ h : i < l.length, S.1 110 i = nI l[i]) (h : f_Potentials_orderOf_Potentials_sequence S = some (r, V)) : (∀ k, k ≠ 112 → V.1 k = S.1 k) ∧ r = nI (ordN n l) := oq_L4 hn h5 hl hlt hd hs NF 0 S (by omega) (fun _ _ => rfl) (fun j hj => by omega) h
theorem oq_x {S V : SS} {l : List Nat} {n : Nat} {r : Int32} (hn : n ≤ 5) (h5 : S.1 71 5 = nI n) (hl : l.length = n) (hlt : ∀ a, a ∈ l → a < n) (hd : l.Nodup) (hs : ∀ i, ∀ h : i < l.length, S.1 111 i = nI l[i]) (h : f_Potentials_orderOf_Potentials_swapped S = some (r, V)) : (∀ k, k ≠ 112 → V.1 k = S.1 k) ∧ r = nI (ordN n l) := oq_L4x hn h5 hl hlt hd hs NF 0 S (by omega) (fun _ _ => rfl) (fun j hj => by omega) h
/-! ===== layOrder ===== -/
theorem ins_at {d k : Nat} {l : List Nat} (hd : d ≤ l.length) (i : Nat) : (insA d k l)[i]? = if i < d then l[i]? else if i = d then some k else l[i - 1]? := by
  unfold insA
  have e : (l.take d).length = d := by rw [List.length_take]; omega
  by_cases c : i < d
  · rw [if_pos c, List.getElem?_append_left (by omega), List.getElem?_take, if_pos c]
  · rw [if_neg c, List.getElem?_append_right (by omega), e]
    by_cases f : i = d
    · rw [if_pos f, f, Nat.sub_self]; rfl
    · rw [if_neg f, show i - d = (i - d - 1) + 1 by omega, List.getElem?_cons_succ, List.getElem?_drop]
      exact congrArg (fun q => l[q]?) (by omega)
theorem ins_len {d k : Nat} {l : List Nat} (hd : d ≤ l.length) : (insA d k l).length = l.length + 1 := by
  unfold insA
  rw [List.length_append, List.length_take, List.length_cons, List.length_drop]
  omega
theorem lyo_L4 {n : Nat} (hn : n ≤ 5) : ∀ (N k r : Nat) (l : List Nat) (T V : SS), T.1 71 5 = nI n → l.length = k → k ≤ n → r < 1000 → (∀ i x, l[i]? = some x → T.1 110 i = nI x) → f_Potentials_layOrder_L4 N (nI r) (nI k) T = some V → (∀ q, q ≠ 110 → V.1 q = T.1 q) ∧ ∀ i x, (seqG (n - k) k r l)[i]? = some x → V.1 110 i = nI x
  | 0, k, r, l, T, V, _, _, _, _, _, h => by cases h
  | N + 1, k, r, l, T, V, h5, hl, hk, hr, hT, h => by
    rw [f_Potentials_layOrder_L4.eq_2, h5] at h
    by_cases c : k = n
    · subst c
      rw [if_pos (nI_le (by omega) (by omega))] at h
      injection h with h
      subst h
      rw [Nat.sub_self]
      exact ⟨fun _ _ => rfl, hT⟩
    · have q1 : nI r / nI (k + 1) = nI (r / (k + 1)) := nI_div (by omega) (by omega) (by omega)
      have dv := Nat.div_add_mod r (k + 1)
      have dm : r % (k + 1) < k + 1 := Nat.mod_lt _ (by omega)
      have q2 : nI r - nI (r / (k + 1)) * nI (k + 1) = nI (r % (k + 1)) := by
        rw [nI_mul]
        have e : nI (r % (k + 1)) + nI (r / (k + 1) * (k + 1)) = nI r := by
          rw [nI_add]
          refine congrArg nI ?_
          rw [Nat.mul_comm]; omega
        rw [← e, Int32.add_sub_cancel]
      have q3 : nI k - nI (r % (k + 1)) = nI (k - r % (k + 1)) := by
        have e : nI (k - r % (k + 1)) + nI (r % (k + 1)) = nI k := by
          rw [nI_add]
          exact congrArg nI (by omega)
        rw [← e, Int32.add_sub_cancel]
      rw [if_neg (nI_ge (by omega) (by omega)), nI_1] at h
      replace h := (grd_i h).2
      rw [nmR] at h
      replace h := (grd_i h).2
      rw [nmR, q1, q2, q3, nI_1] at h
      replace h := (grd_i h).2
      rw [nI_clamp (n := r % (k + 1)) (by omega), nI_clamp (n := r % (k + 1) + 1) (by omega), nI_clamp (n := k - r % (k + 1)) (by omega)] at h
      obtain ⟨T1, e1, h⟩ := cpw_t h
      rw [grT (inb_nI (by omega) (by omega)), wr_r, nmR] at h
      generalize hd : r % (k + 1) = d at h e1 dm
      have r1 : ∀ q, q ≠ 110 → (st T1 110 d (nI k)).1 q = T.1 q := fun q hq => by rw [st_row _ _ _ _ hq, e1, cp_row _ _ _ _ _ _ hq]
      have div : r / (k + 1) ≤ r := Nat.div_le_self _ _
      obtain ⟨g1, g2⟩ := lyo_L4 hn N (k + 1) (r / (k + 1)) (insA d k l) _ V (by rw [r1 71 (by decide)]; exact h5) (by rw [ins_len (by omega), hl]) (by omega) (by omega) (fun i x hx => by
        rw [ins_at (by omega)] at hx
        by_cases a : i < d
        · rw [if_pos a] at hx
          rw [st_no (by omega), cp_v e1, if_neg (by omega)]
          exact hT i x hx
        · rw [if_neg a] at hx
          by_cases b : i = d
          · rw [if_pos b] at hx
            injection hx with hx
            rw [b, st_here, hx]
          · rw [if_neg b] at hx
            have := List.getElem?_eq_some_iff.mp hx
            obtain ⟨hlt, -⟩ := this
            rw [st_no (by omega), cp_v e1, if_pos (by omega), show d + (i - (d + 1)) = i - 1 by omega]
            exact hT (i - 1) x hx) h
      refine ⟨fun q hq => by rw [g1 q hq, r1 q hq], fun i x hx => g2 i x ?_⟩
      rw [show n - k = (n - (k + 1)) + 1 by omega] at hx
      have e : seqG (n - (k + 1) + 1) k r l = seqG (n - (k + 1)) (k + 1) (r / (k + 1)) (insA (r % (k + 1)) k l) := rfl
      rw [e, hd] at hx
      exact hx
/-! ===== listOrders ===== -/
theorem lyo {S V : SS} {n o : Nat} (hn : n ≤ 5) (h5 : S.1 71 5 = nI n) (ho : o < 1000) (h : f_Potentials_layOrder (nI o) S = some V) : (∀ q, q ≠ 110 → V.1 q = S.1 q) ∧ ∀ i x, (seqN n o)[i]? = some x → V.1 110 i = nI x :=
  lyo_L4 hn NF 0 o [] S V h5 rfl (by omega) ho (fun i x e => by simp at e) h
/-- the blocks i .. j - 1 and j .. k - 1 change places -/
def bswp (i j k : Nat) (l : List Nat) : List Nat := l.take i ++ ((l.drop j).take (k - j) ++ ((l.drop i).take (j - i) ++ l.drop k))
def bswN (i j k : Nat) : Nat := k * (k - 1) * (k - 2) / 6 + j * (j - 1) / 2 + i
def tripsL : List (Nat × Nat × Nat) := (List.range 6).flatMap (fun k => (List.range k).flatMap (fun j => (List.range j).map (fun i => (i, j, k))))
def okSw : Bool := tripsL.all (fun t => Nat.blt (bswN t.1 t.2.1 t.2.2) 20 && tripsL.all (fun s => !(Nat.beq (bswN s.1 s.2.1 s.2.2) (bswN t.1 t.2.1 t.2.2)) || (Nat.beq s.1 t.1 && Nat.beq s.2.1 t.2.1 && Nat.beq s.2.2 t.2.2)))
theorem okSw_ : okSw = true := by decide +kernel
theorem trip_mem {i j k : Nat} (hij : i < j) (hjk : j < k) (hk : k ≤ 5) : (i, j, k) ∈ tripsL := by
  unfold tripsL
  exact List.mem_flatMap.mpr ⟨k, List.mem_range.mpr (by omega), List.mem_flatMap.mpr ⟨j, List.mem_range.mpr hjk, List.mem_map.mpr ⟨i, List.mem_range.mpr hij, rfl⟩⟩⟩
theorem bswN_lt {i j k : Nat} (hij : i < j) (hjk : j < k) (hk : k ≤ 5) : bswN i j k < 20 := by
  have q := List.all_eq_true.mp okSw_ _ (trip_mem hij hjk hk)
  rw [Bool.and_eq_true] at q
  simpa using q.1
theorem bswN_inj {i j k i' j' k' : Nat} (hij : i < j) (hjk : j < k) (hk : k ≤ 5) (hij' : i' < j') (hjk' : j' < k') (hk' : k' ≤ 5) (e : bswN i j k = bswN i' j' k') : i = i' ∧ j = j' ∧ k = k' := by
  have q := List.all_eq_true.mp okSw_ _ (trip_mem hij' hjk' hk')
  rw [Bool.and_eq_true] at q
  have q := List.all_eq_true.mp q.2 _ (trip_mem hij hjk hk)
  rw [Bool.or_eq_true] at q
  rcases q with q | q
  · rw [Bool.not_eq_true'] at q
    exact absurd e (Nat.ne_of_beq_eq_false q)
  · simp only [Bool.and_eq_true] at q
    exact ⟨Nat.eq_of_beq_eq_true q.1.1, Nat.eq_of_beq_eq_true q.1.2, Nat.eq_of_beq_eq_true q.2⟩
theorem bswp_len {i j k : Nat} {l : List Nat} (hij : i ≤ j) (hjk : j ≤ k) (hk : k ≤ l.length) : (bswp i j k l).length = l.length := by
  unfold bswp
  simp only [List.length_append, List.length_take, List.length_drop]
  omega
theorem bswp_perm {i j k : Nat} {l : List Nat} (hij : i ≤ j) (hjk : j ≤ k) : (bswp i j k l).Perm l := by
  unfold bswp
  have e : l = l.take i ++ ((l.drop i).take (j - i) ++ ((l.drop j).take (k - j) ++ l.drop k)) := by
    have e1 : (l.drop j).take (k - j) ++ l.drop k = l.drop j := by
      rw [show k = j + (k - j) by omega, ← List.drop_drop, Nat.add_sub_cancel_left, List.take_append_drop]
    have e2 : (l.drop i).take (j - i) ++ l.drop j = l.drop i := by
      rw [show j = i + (j - i) by omega, ← List.drop_drop, Nat.add_sub_cancel_left, List.take_append_drop]
    rw [e1, e2, List.take_append_drop]
  have h : ((l.drop j).take (k - j) ++ ((l.drop i).take (j - i) ++ l.drop k)).Perm ((l.drop i).take (j - i) ++ ((l.drop j).take (k - j) ++ l.drop k)) := by
    rw [← List.append_assoc, ← List.append_assoc]
    exact List.perm_append_comm.append_right _
  have g := h.append_left (l.take i)
  rw [← e] at g
  exact g
theorem bswp_at {i j k : Nat} {l : List Nat} (hij : i ≤ j) (hjk : j ≤ k) (hk : k ≤ l.length) (x : Nat) : (bswp i j k l)[x]? = if x < i then l[x]? else if x < i + (k - j) then l[j + (x - i)]? else if x < k then l[i + (x - (i + (k - j)))]? else l[x]? := by
  unfold bswp
  have e1 : (l.take i).length = i := by rw [List.length_take]; omega
  have e2 : ((l.drop j).take (k - j)).length = k - j := by rw [List.length_take, List.length_drop]; omega
  have e3 : ((l.drop i).take (j - i)).length = j - i := by rw [List.length_take, List.length_drop]; omega
  by_cases c : x < i
  · rw [if_pos c, List.getElem?_append_left (by omega), List.getElem?_take, if_pos c]
  · rw [if_neg c, List.getElem?_append_right (by omega), e1]
    by_cases d : x < i + (k - j)
    · rw [if_pos d, List.getElem?_append_left (by omega), List.getElem?_take, if_pos (by omega), List.getElem?_drop]
    · rw [if_neg d, List.getElem?_append_right (by omega), e2]
      by_cases f : x < k
      · rw [if_pos f, List.getElem?_append_left (by omega), List.getElem?_take, if_pos (by omega), List.getElem?_drop]
        exact congrArg (fun q => l[q]?) (by omega)
      · rw [if_neg f, List.getElem?_append_right (by omega), e3, List.getElem?_drop]
        exact congrArg (fun q => l[q]?) (by omega)
/-- row 115 is right for all swaps that were done -/
def Lo (n : Nat) (T : SS) (o k j i : Nat) : Prop := ∀ o' i' j' k', o' < facN n → i' < j' → j' < k' → k' ≤ n → (o' < o ∨ (o' = o ∧ (k' < k ∨ (k' = k ∧ (j' < j ∨ (j' = j ∧ i' < i)))))) → T.1 115 (20 * o' + swN i' j' k') = nI (ordN n (bswp i' j' k' (seqN n o')))
def Lr (n o : Nat) (T : SS) : Prop := T.1 71 5 = nI n ∧ ∀ i x, (seqN n o)[i]? = some x → T.1 110 i = nI x
theorem seq_nd {n o : Nat} (hn : n ≤ 5) (ho : o < facN n) : (seqN n o).length = n ∧ (∀ a, a ∈ seqN n o → a < n) ∧ (seqN n o).Nodup := by
  have q := List.all_eq_true.mp okO_5 n (List.mem_range.mpr (by omega))
  have q := List.all_eq_true.mp q o (List.mem_range.mpr ho)
  simp only [Bool.and_eq_true] at q
  refine ⟨Nat.eq_of_beq_eq_true q.1.1.2, fun a ha => ?_, ?_⟩
  · have := List.all_eq_true.mp q.2 a ha
    simpa using this
  · have := q.1.2
    generalize seqN n o = l at this
    clear q
    induction l with
    | nil => exact List.nodup_nil
    | cons a t ih =>
      unfold ndB at this
      rw [Bool.and_eq_true, Bool.not_eq_true', List.any_eq_false] at this
      exact List.nodup_cons.mpr ⟨fun z => this.1 a z (by simp), ih this.2⟩
theorem sw_i {S V : SS} {i j k : Nat} {r : Int32} (hij : i < j) (hjk : j < k) (hk : k ≤ 5) (h : f_Potentials_swapOf (nI i) (nI j) (nI k) S = some (r, V)) : V = S ∧ r = nI (swN i j k) := by
  obtain ⟨r', U, e, h1, -, h3⟩ := swx (S := S) (i := i) (j := j) (k := k) (by omega) (by omega) hk
  rw [e] at h
  obtain ⟨rfl, rfl⟩ := so_i h
  exact ⟨h1, (h3 hij hjk).1⟩
theorem lst_L35 {n o j k : Nat} {K : Int32 → Int32 → Int32 → SS → Option SS} {V : SS} (hn : n ≤ 5) (ho : o < facN n) (hf : facN n ≤ 120) (hjk : j < k) (hk : k ≤ n) : ∀ (N i : Nat) (T : SS), i ≤ j → Lr n o T → Lo n T o k j i → f_Potentials_listOrders_L35 K N (nI o) (nI k) (nI j) (nI i) T = some V → ∃ T', Lr n o T' ∧ Lo n T' o k (j + 1) 0 ∧ (∀ q, q ≠ 111 → q ≠ 112 → q ≠ 115 → T'.1 q = T.1 q) ∧ K (nI o) (nI k) (nI (j + 1)) T' = some V
  | 0, i, T, _, _, _, h => by cases h
  | N + 1, i, T, hi, hL, hO, h => by
    rw [f_Potentials_listOrders_L35.eq_2] at h
    by_cases c : i = j
    · subst c
      rw [if_pos (nI_le (by omega) (by omega)), nmR, nI_1] at h
      exact ⟨T, hL, fun o' i' j' k' a b d e f => hO o' i' j' k' a b d e (by omega), fun _ _ _ _ => rfl, h⟩
    · obtain ⟨s1, s2, s3⟩ := seq_nd hn ho
      have q1 : nI k - nI j = nI (k - j) := by
        have e : nI (k - j) + nI j = nI k := by rw [nI_add]; exact congrArg nI (by omega)
        rw [← e, Int32.add_sub_cancel]
      have q2 : nI (i + k) - nI j = nI (i + (k - j)) := by
        have e : nI (i + (k - j)) + nI j = nI (i + k) := by rw [nI_add]; exact congrArg nI (by omega)
        rw [← e, Int32.add_sub_cancel]
      have q3 : nI j - nI i = nI (j - i) := by
        have e : nI (j - i) + nI i = nI j := by rw [nI_add]; exact congrArg nI (by omega)
        rw [← e, Int32.add_sub_cancel]
      rw [if_neg (nI_ge (by omega) (by omega))] at h
      replace h := (grd_i h).2
      obtain ⟨T1, e1, h⟩ := cpw_t h
      rw [q1] at h
      replace h := (grd_i h).2
      obtain ⟨T2, e2, h⟩ := cpw_t h
      rw [nI_add, q2, q3] at h
      replace h := (grd_i h).2
      obtain ⟨T3, e3, h⟩ := cpw_t h
      rw [hL.1, nI_clamp (by omega), show (0 : Int32).toNatClampNeg = 0 from rfl] at e1
      rw [nI_clamp (by omega), nI_clamp (by omega), nI_clamp (by omega)] at e2 e3
      have r3 : ∀ q, q ≠ 111 → T3.1 q = T.1 q := fun q hq => by rw [e3, cp_row _ _ _ _ _ _ hq, e2, cp_row _ _ _ _ _ _ hq, e1, cp_row _ _ _ _ _ _ hq]
      replace h := bnd_i h
      obtain ⟨r9, S8, b1, h⟩ := h
      obtain ⟨g1, g2⟩ := sw_i (by omega) hjk (by omega) b1
      rw [g1, g2] at h
      replace h := bnd_i h
      obtain ⟨r11, S10, b2, h⟩ := h
      have len := bswp_len (i := i) (j := j) (k := k) (l := seqN n o) hi (by omega) (by omega)
      have pm := bswp_perm (i := i) (j := j) (k := k) (l := seqN n o) hi (by omega)
      have row : ∀ x, ∀ hx : x < (bswp i j k (seqN n o)).length, T3.1 111 x = nI (bswp i j k (seqN n o))[x] := fun x hx => by
        have at_ := bswp_at (i := i) (j := j) (k := k) (l := seqN n o) hi (by omega) (by omega) x
        rw [List.getElem?_eq_getElem hx] at at_
        have t110 : ∀ y z, (seqN n o)[y]? = some z → T1.1 110 y = nI z ∧ T2.1 110 y = nI z := fun y z e => by
          rw [e2, cp_row _ _ _ _ _ _ (by decide), e1, cp_row _ _ _ _ _ _ (by decide)]
          exact ⟨hL.2 y z e, hL.2 y z e⟩
        rw [cp_v e3]
        by_cases a : x < i
        · rw [if_pos a] at at_
          rw [if_neg (by omega), cp_v e2, if_neg (by omega), cp_v e1, if_pos (by omega), show 0 + (x - 0) = x by omega]
          exact hL.2 _ _ at_.symm
        · rw [if_neg a] at at_
          by_cases b : x < i + (k - j)
          · rw [if_pos b] at at_
            rw [if_neg (by omega), cp_v e2, if_pos (by omega)]
            exact (t110 _ _ at_.symm).1
          · rw [if_neg b] at at_
            by_cases d : x < k
            · rw [if_pos d] at at_
              rw [if_pos (by omega)]
              exact (t110 _ _ at_.symm).2
            · rw [if_neg d] at at_
              rw [if_neg (by omega), cp_v e2, if_neg (by omega), cp_v e1, if_pos (by omega), show 0 + (x - 0) = x by omega]
              exact hL.2 _ _ at_.symm
      obtain ⟨f1, f2⟩ := oq_x hn (by rw [r3 71 (by decide)]; exact hL.1) (by rw [len, s1]) (fun a ha => s2 a (pm.mem_iff.mp ha)) (pm.nodup_iff.mpr s3) row b2
      have hs := bswN_lt (i := i) (j := j) (k := k) (by omega) hjk (by omega)
      have sws : swN i j k = bswN i j k := rfl
      rw [show (20 : Int32) * nI o = nI (20 * o) from nI_mul 20 o, nI_add] at h
      replace h := (grd_i h).2
      rw [wr_r, nmR, nI_1, nI_clamp (by omega), f2] at h
      have fr : ∀ q, q ≠ 111 → q ≠ 112 → q ≠ 115 → (st S10 115 (20 * o + swN i j k) (nI (ordN n (bswp i j k (seqN n o))))).1 q = T.1 q := fun q a b d => by rw [st_row _ _ _ _ d, f1 q b, r3 q a]
      obtain ⟨T', t1, t2, t3, t4⟩ := lst_L35 hn ho hf hjk hk N (i + 1) _ (by omega) ⟨by rw [fr 71 (by decide) (by decide) (by decide)]; exact hL.1, fun y z e => by rw [fr 110 (by decide) (by decide) (by decide)]; exact hL.2 y z e⟩ (fun o' i' j' k' a b d e f => by
        by_cases w : 20 * o' + swN i' j' k' = 20 * o + swN i j k
        · have ht := bswN_lt (i := i') (j := j') (k := k') b d (by omega)
          have sws' : swN i' j' k' = bswN i' j' k' := rfl
          have eo : o' = o := by omega
          obtain ⟨rfl, rfl, rfl⟩ := bswN_inj b d (by omega) (show i < j by omega) hjk (by omega) (show bswN i' j' k' = bswN i j k by omega)
          subst eo
          rw [st_here]
        · rw [st_no (by omega), f1 115 (by decide), r3 115 (by decide)]
          refine hO o' i' j' k' a b d e ?_
          by_cases eo : o' = o ∧ k' = k ∧ j' = j ∧ i' = i
          · obtain ⟨rfl, rfl, rfl, rfl⟩ := eo
            exact absurd rfl w
          · omega) h
      exact ⟨T', t1, t2, fun q a b d => by rw [t3 q a b d, fr q a b d], t4⟩
theorem lst_L27 {n o k : Nat} {K : Int32 → Int32 → SS → Option SS} {V : SS} (hn : n ≤ 5) (ho : o < facN n) (hf : facN n ≤ 120) (hk : k ≤ n) : ∀ (N j : Nat) (T : SS), j ≤ k → Lr n o T → Lo n T o k j 0 → f_Potentials_listOrders_L27 K N (nI o) (nI k) (nI j) T = some V → ∃ T', Lr n o T' ∧ Lo n T' o (k + 1) 0 0 ∧ (∀ q, q ≠ 111 → q ≠ 112 → q ≠ 115 → T'.1 q = T.1 q) ∧ K (nI o) (nI (k + 1)) T' = some V
  | 0, j, T, _, _, _, h => by cases h
  | N + 1, j, T, hj, hL, hO, h => by
    rw [f_Potentials_listOrders_L27.eq_2] at h
    by_cases c : j = k
    · subst c
      rw [if_pos (nI_le (by omega) (by omega)), nmR, nI_1] at h
      exact ⟨T, hL, fun o' i' j' k' a b d e f => hO o' i' j' k' a b d e (by omega), fun _ _ _ _ => rfl, h⟩
    · rw [if_neg (nI_ge (by omega) (by omega))] at h
      obtain ⟨T1, a1, a2, a3, h⟩ := lst_L35 hn ho hf (by omega) hk NF 0 T (by omega) hL hO h
      obtain ⟨T', b1, b2, b3, b4⟩ := lst_L27 hn ho hf hk N (j + 1) T1 (by omega) a1 a2 h
      exact ⟨T', b1, b2, fun q x y z => by rw [b3 q x y z, a3 q x y z], b4⟩
theorem lst_L17 {n o : Nat} {K : Int32 → SS → Option SS} {V : SS} (hn : n ≤ 5) (ho : o < facN n) (hf : facN n ≤ 120) : ∀ (N k : Nat) (T : SS), 1 ≤ k → k ≤ n + 1 ∨ k = 2 → Lr n o T → Lo n T o k 0 0 → f_Potentials_listOrders_L17 K N (nI o) (nI k) T = some V → ∃ T', T'.1 71 5 = nI n ∧ Lo n T' (o + 1) 0 0 0 ∧ (∀ q, q ≠ 111 → q ≠ 112 → q ≠ 115 → T'.1 q = T.1 q) ∧ K (nI (o + 1)) T' = some V
  | 0, k, T, _, _, _, _, h => by cases h
  | N + 1, k, T, h1, hk, hL, hO, h => by
    rw [f_Potentials_listOrders_L17.eq_2, hL.1] at h
    by_cases c : n < k
    · rw [if_pos ((nI_ltJ (by omega) (by omega)).mpr c), nmR, nI_1] at h
      exact ⟨T, hL.1, fun o' i' j' k' a b d e f => hO o' i' j' k' a b d e (by omega), fun _ _ _ _ => rfl, h⟩
    · rw [if_neg (fun z => c ((nI_ltJ (by omega) (by omega)).mp z))] at h
      obtain ⟨T1, a1, a2, a3, h⟩ := lst_L27 hn ho hf (by omega) NF 1 T (by omega) hL (fun o' i' j' k' a b d e f => hO o' i' j' k' a b d e (by omega)) h
      obtain ⟨T', b1, b2, b3, b4⟩ := lst_L17 hn ho hf N (k + 1) T1 (by omega) (Or.inl (by omega)) a1 a2 h
      exact ⟨T', b1, b2, fun q x y z => by rw [b3 q x y z, a3 q x y z], b4⟩
theorem lst_L2 {n : Nat} {V : SS} (hn : n ≤ 5) (hf : facN n ≤ 120) : ∀ (N o : Nat) (T : SS), o ≤ facN n → T.1 71 5 = nI n → T.1 71 6 = nI (facN n) → Lo n T o 0 0 0 → f_Potentials_listOrders_L2 N (nI o) T = some V → Lo n V (facN n) 0 0 0 ∧ (∀ q, q ≠ 110 → q ≠ 111 → q ≠ 112 → q ≠ 115 → V.1 q = T.1 q)
  | 0, o, T, _, _, _, _, h => by cases h
  | N + 1, o, T, ho, h5, h6, hO, h => by
    rw [f_Potentials_listOrders_L2.eq_2, h6] at h
    by_cases c : o = facN n
    · rw [c, if_pos (nI_le (by omega) (by omega))] at h
      injection h with h
      subst h
      rw [c] at hO
      exact ⟨hO, fun _ _ _ _ _ => rfl⟩
    · rw [if_neg (nI_ge (by omega) (by omega))] at h
      replace h := bndv_i h
      obtain ⟨T1, l, h⟩ := h
      obtain ⟨g1, g2⟩ := lyo hn h5 (by omega) l
      obtain ⟨T2, a1, a2, a3, h⟩ := lst_L17 hn (show o < facN n by omega) hf NF 2 T1 (by omega) (Or.inr rfl) ⟨by rw [g1 71 (by decide)]; exact h5, g2⟩ (fun o' i' j' k' a b d e f => by rw [g1 115 (by decide)]; exact hO o' i' j' k' a b d e (by omega)) h
      obtain ⟨b1, b2⟩ := lst_L2 hn hf N (o + 1) T2 (by omega) a1 (by rw [a3 71 (by decide) (by decide) (by decide), g1 71 (by decide)]; exact h6) a2 h
      exact ⟨b1, fun q x y z w => by rw [b2 q x y z w, a3 q y z w, g1 q x]⟩
theorem fac_le {n : Nat} (hn : n ≤ 5) : facN n ≤ 120 := by
  rcases (show n = 0 ∨ n = 1 ∨ n = 2 ∨ n = 3 ∨ n = 4 ∨ n = 5 by omega) with rfl | rfl | rfl | rfl | rfl | rfl <;> decide
/-- listOrders: row 115 holds the order behind each swap of each order -/
theorem lst {n : Nat} {S V : SS} (hn : n ≤ 5) (h5 : S.1 71 5 = nI n) (h6 : S.1 71 6 = nI (facN n)) (h : f_Potentials_listOrders S = some V) : (∀ o i j k, o < facN n → i < j → j < k → k ≤ n → V.1 115 (20 * o + swN i j k) = nI (ordN n (bswp i j k (seqN n o)))) ∧ (∀ q, q ≠ 110 → q ≠ 111 → q ≠ 112 → q ≠ 115 → V.1 q = S.1 q) := by
  obtain ⟨g1, g2⟩ := lst_L2 hn (fac_le hn) NF 0 S (by omega) h5 h6 (fun o' i' j' k' _ _ _ _ f => by omega) h
  exact ⟨fun o i j k a b c d => g1 o i j k a b c d (Or.inl a), g2⟩
/-! ===== listShapes ===== -/
/-- the number of the shape whose STACKS end at a, b, c (and n) -/
def shpA (n : Nat) : Nat → Nat
  | 0 => 0
  | a + 1 => shpA n a + (n - a + 1) * (n - a + 2) / 2
def shpB (n a : Nat) : Nat → Nat
  | 0 => 0
  | d + 1 => shpB n a d + (n - (a + d) + 1)
def shpI (n a b c : Nat) : Nat := shpA n a + shpB n a (b - a) + (c - b)
def shpM (n : Nat) : Nat := (n + 1) * (n + 2) * (n + 3) / 6
def quads : List (Nat × Nat × Nat × Nat) := (List.range 6).flatMap (fun n => (List.range (n + 1)).flatMap (fun a => (List.range (n + 1)).flatMap (fun b => (List.range (n + 1)).map (fun c => (n, a, b, c)))))
def okQ (q : Nat × Nat × Nat × Nat) : Bool := !(Nat.ble q.2.1 q.2.2.1 && Nat.ble q.2.2.1 q.2.2.2) || (Nat.blt (shpI q.1 q.2.1 q.2.2.1 q.2.2.2) (shpM q.1) && (if q.2.2.2 < q.1 then Nat.beq (shpI q.1 q.2.1 q.2.2.1 (q.2.2.2 + 1)) (shpI q.1 q.2.1 q.2.2.1 q.2.2.2 + 1) else if q.2.2.1 < q.1 then Nat.beq (shpI q.1 q.2.1 (q.2.2.1 + 1) (q.2.2.1 + 1)) (shpI q.1 q.2.1 q.2.2.1 q.2.2.2 + 1) else if q.2.1 < q.1 then Nat.beq (shpI q.1 (q.2.1 + 1) (q.2.1 + 1) (q.2.1 + 1)) (shpI q.1 q.2.1 q.2.2.1 q.2.2.2 + 1) else Nat.beq (shpM q.1) (shpI q.1 q.2.1 q.2.2.1 q.2.2.2 + 1)))
theorem okQ_ : quads.all okQ = true := by decide +kernel
def okQ2 (n : Nat) : Bool := let L := quads.filter (fun q => Nat.beq q.1 n && Nat.ble q.2.1 q.2.2.1 && Nat.ble q.2.2.1 q.2.2.2); L.all (fun q => L.all (fun p => !(Nat.beq (shpI n q.2.1 q.2.2.1 q.2.2.2) (shpI n p.2.1 p.2.2.1 p.2.2.2)) || (Nat.beq q.2.1 p.2.1 && Nat.beq q.2.2.1 p.2.2.1 && Nat.beq q.2.2.2 p.2.2.2)))
theorem okQ2_ : (List.range 6).all okQ2 = true := by decide +kernel
theorem quad_mem {n a b c : Nat} (hn : n ≤ 5) (ha : a ≤ n) (hb : b ≤ n) (hc : c ≤ n) : (n, a, b, c) ∈ quads := by
  unfold quads
  exact List.mem_flatMap.mpr ⟨n, List.mem_range.mpr (by omega), List.mem_flatMap.mpr ⟨a, List.mem_range.mpr (by omega), List.mem_flatMap.mpr ⟨b, List.mem_range.mpr (by omega), List.mem_map.mpr ⟨c, List.mem_range.mpr (by omega), rfl⟩⟩⟩⟩
theorem shpI_in {n a b c : Nat} (hn : n ≤ 5) (hab : a ≤ b) (hbc : b ≤ c) (hc : c ≤ n) : shpI n a b c < shpM n ∧ (c < n → shpI n a b (c + 1) = shpI n a b c + 1) ∧ (c = n → b < n → shpI n a (b + 1) (b + 1) = shpI n a b c + 1) ∧ (c = n → b = n → a < n → shpI n (a + 1) (a + 1) (a + 1) = shpI n a b c + 1) ∧ (c = n → b = n → a = n → shpM n = shpI n a b c + 1) := by
  have q := List.all_eq_true.mp okQ_ _ (quad_mem (a := a) (b := b) (c := c) hn (by omega) (by omega) hc)
  unfold okQ at q
  simp only [Nat.ble_eq, hab, hbc, Nat.ble_eq_true_of_le, Bool.and_self, Bool.not_true, Bool.false_or, Bool.and_eq_true] at q
  obtain ⟨q1, q2⟩ := q
  refine ⟨by simpa using q1, fun h => ?_, fun h h2 => ?_, fun h h2 h3 => ?_, fun h h2 h3 => ?_⟩
  · rw [if_pos h] at q2; exact Nat.eq_of_beq_eq_true q2
  · rw [if_neg (by omega), if_pos h2] at q2; exact Nat.eq_of_beq_eq_true q2
  · rw [if_neg (by omega), if_neg (by omega), if_pos h3] at q2; exact Nat.eq_of_beq_eq_true q2
  · rw [if_neg (by omega), if_neg (by omega), if_neg (by omega)] at q2; exact Nat.eq_of_beq_eq_true q2
theorem shpI_inj {n a b c a' b' c' : Nat} (hn : n ≤ 5) (hab : a ≤ b) (hbc : b ≤ c) (hc : c ≤ n) (hab' : a' ≤ b') (hbc' : b' ≤ c') (hc' : c' ≤ n) (e : shpI n a b c = shpI n a' b' c') : a = a' ∧ b = b' ∧ c = c' := by
  have q := List.all_eq_true.mp okQ2_ n (List.mem_range.mpr (by omega))
  have m : ∀ a b c, a ≤ b → b ≤ c → c ≤ n → (n, a, b, c) ∈ quads.filter (fun q => Nat.beq q.1 n && Nat.ble q.2.1 q.2.2.1 && Nat.ble q.2.2.1 q.2.2.2) := fun a b c x y z => by
    refine List.mem_filter.mpr ⟨quad_mem hn (by omega) (by omega) z, ?_⟩
    simp [Nat.ble_eq_true_of_le x, Nat.ble_eq_true_of_le y]
  have q := List.all_eq_true.mp q _ (m a b c hab hbc hc)
  have q := List.all_eq_true.mp q _ (m a' b' c' hab' hbc' hc')
  rw [Bool.or_eq_true] at q
  rcases q with q | q
  · rw [Bool.not_eq_true'] at q
    exact absurd e (Nat.ne_of_beq_eq_false q)
  · simp only [Bool.and_eq_true] at q
    exact ⟨Nat.eq_of_beq_eq_true q.1.1, Nat.eq_of_beq_eq_true q.1.2, Nat.eq_of_beq_eq_true q.2⟩
/-- rows 114 and 113 are right for all shapes below s -/
def Ls (n : Nat) (T : SS) (s : Nat) : Prop := ∀ a b c, a ≤ b → b ≤ c → c ≤ n → shpI n a b c < s → T.1 114 (4 * shpI n a b c) = nI a ∧ T.1 114 (4 * shpI n a b c + 1) = nI b ∧ T.1 114 (4 * shpI n a b c + 2) = nI c ∧ T.1 114 (4 * shpI n a b c + 3) = nI n ∧ T.1 113 (36 * a + 6 * b + c) = nI (shpI n a b c)
theorem shp_56 {n : Nat} (hn : n ≤ 5) : shpM n ≤ 56 := by
  rcases (show n = 0 ∨ n = 1 ∨ n = 2 ∨ n = 3 ∨ n = 4 ∨ n = 5 by omega) with rfl | rfl | rfl | rfl | rfl | rfl <;> decide
theorem lsh_L25 {n a b : Nat} {K : Int32 → Int32 → Int32 → SS → Option SS} {V : SS} (hn : n ≤ 5) (hab : a ≤ b) (hb : b ≤ n) : ∀ (N c s : Nat) (T : SS), b ≤ c → c ≤ n + 1 → (c ≤ n → s = shpI n a b c) → (c = n + 1 → s = shpI n a b n + 1) → T.1 71 5 = nI n → Ls n T s → f_Potentials_listShapes_L25 K N (nI s) (nI a) (nI b) (nI c) T = some V → ∃ T', T'.1 71 5 = nI n ∧ Ls n T' (shpI n a b n + 1) ∧ (∀ q, q ≠ 113 → q ≠ 114 → T'.1 q = T.1 q) ∧ K (nI (shpI n a b n + 1)) (nI a) (nI (b + 1)) T' = some V
  | 0, c, s, T, _, _, _, _, _, _, h => by cases h
  | N + 1, c, s, T, hbc, hc, hs, hs', h5, hL, h => by
    rw [f_Potentials_listShapes_L25.eq_2, h5] at h
    by_cases e : c = n + 1
    · have es := hs' e
      subst es e
      rw [if_pos ((nI_ltJ (by omega) (by omega)).mpr (by omega)), nmR, nI_1] at h
      exact ⟨T, h5, hL, fun _ _ _ => rfl, h⟩
    · have es := hs (by omega)
      have i1 := shpI_in hn hab hbc (show c ≤ n by omega)
      have i2 := shp_56 hn
      rw [if_neg (fun z => by have := (nI_ltJ (by omega) (by omega)).mp z; omega), show (4 : Int32) * nI s = nI (4 * s) from nI_mul 4 s] at h
      replace h := (grd_i h).2
      rw [wr_r, nI_1] at h
      replace h := (grd_i h).2
      rw [wr_r, show nI (4 * s) + (2 : Int32) = nI (4 * s + 2) from nI_add (4 * s) 2] at h
      replace h := (grd_i h).2
      rw [wr_r, show nI (4 * s) + (3 : Int32) = nI (4 * s + 3) from nI_add (4 * s) 3] at h
      replace h := (grd_i h).2
      rw [wr_r, f_Potentials_keyWith.eq_1, if_neg (by decide), bnd_r, f_Potentials_keyWith.eq_1, if_neg (by decide), bnd_r, f_Potentials_keyWith.eq_1, if_neg (by decide), bnd_r] at h
      rw [show (6 : Int32) * ((6 : Int32) * ((6 : Int32) * 0 + nI a) + nI b) + nI c = nI (36 * a + 6 * b + c) from by
        rw [show (6 : Int32) * 0 + nI a = nI a from by rw [show (6 : Int32) * 0 = nI 0 from by decide, nI_add, Nat.zero_add], show (6 : Int32) * nI a = nI (6 * a) from nI_mul 6 a, nI_add, show (6 : Int32) * nI (6 * a + b) = nI (6 * (6 * a + b)) from nI_mul 6 (6 * a + b), nI_add]
        exact congrArg nI (by omega)] at h
      replace h := (grd_i h).2
      rw [wr_r, nmR, nmR, nI_1, nI_1, nI_clamp (n := 4 * s) (by omega), nI_clamp (n := 4 * s + 1) (by omega), nI_clamp (n := 4 * s + 2) (by omega), nI_clamp (n := 4 * s + 3) (by omega), nI_clamp (n := 36 * a + 6 * b + c) (by omega), st_row (a := 71) _ 114 _ _ (by decide), st_row (a := 71) _ 114 _ _ (by decide), st_row (a := 71) _ 114 _ _ (by decide), h5] at h
      generalize hX : st (st (st (st (st T 114 (4 * s) (nI a)) 114 (4 * s + 1) (nI b)) 114 (4 * s + 2) (nI c)) 114 (4 * s + 3) (nI n)) 113 (36 * a + 6 * b + c) (nI s) = X at h
      have fr : ∀ q, q ≠ 113 → q ≠ 114 → X.1 q = T.1 q := fun q x y => by rw [← hX, st_row _ _ _ _ x, st_row _ _ _ _ y, st_row _ _ _ _ y, st_row _ _ _ _ y, st_row _ _ _ _ y]
      have x114 : ∀ j, X.1 114 j = if j = 4 * s + 3 then nI n else if j = 4 * s + 2 then nI c else if j = 4 * s + 1 then nI b else if j = 4 * s then nI a else T.1 114 j := fun j => by rw [← hX, st_row _ 113 _ _ (by decide), st_at, if_pos rfl, st_at, if_pos rfl, st_at, if_pos rfl, st_at, if_pos rfl]
      have x113 : ∀ j, X.1 113 j = if j = 36 * a + 6 * b + c then nI s else T.1 113 j := fun j => by rw [← hX, st_at, if_pos rfl, st_row _ 114 _ _ (by decide), st_row _ 114 _ _ (by decide), st_row _ 114 _ _ (by decide), st_row _ 114 _ _ (by decide)]
      obtain ⟨T', t1, t2, t3, t4⟩ := lsh_L25 hn hab hb N (c + 1) (s + 1) X (by omega) (by omega) (fun q => by rw [es, i1.2.1 (by omega)]) (fun q => by
          have : c = n := by omega
          rw [es, this]) (by rw [fr 71 (by decide) (by decide)]; exact h5) (fun a' b' c' x y z w => by
        by_cases u : shpI n a' b' c' = s
        · obtain ⟨rfl, rfl, rfl⟩ := shpI_inj hn x y z hab hbc (by omega) (by rw [u, es])
          rw [u, x114, x114, x114, x114, x113, if_neg (by omega), if_neg (by omega), if_neg (by omega), if_pos rfl, if_neg (by omega), if_neg (by omega), if_pos rfl, if_neg (by omega), if_pos rfl, if_pos rfl, if_pos rfl]
          exact ⟨rfl, rfl, rfl, rfl, rfl⟩
        · have k : ¬ 36 * a' + 6 * b' + c' = 36 * a + 6 * b + c := fun v => u (by
            have : a' = a := by omega
            have : b' = b := by omega
            have : c' = c := by omega
            subst a' b' c'
            exact es.symm)
          rw [x114, x114, x114, x114, x113, if_neg (by omega), if_neg (by omega), if_neg (by omega), if_neg (by omega), if_neg (by omega), if_neg (by omega), if_neg (by omega), if_neg (by omega), if_neg (by omega), if_neg (by omega), if_neg (by omega), if_neg (by omega), if_neg (by omega), if_neg (by omega), if_neg (by omega), if_neg (by omega), if_neg k]
          exact hL a' b' c' x y z (by omega)) h
      exact ⟨T', t1, t2, fun q x y => by rw [t3 q x y, fr q x y], t4⟩
theorem lsh_L14 {n a : Nat} {K : Int32 → Int32 → SS → Option SS} {V : SS} (hn : n ≤ 5) (ha : a ≤ n) : ∀ (N b s : Nat) (T : SS), a ≤ b → b ≤ n + 1 → (b ≤ n → s = shpI n a b b) → (b = n + 1 → s = shpI n a n n + 1) → T.1 71 5 = nI n → Ls n T s → f_Potentials_listShapes_L14 K N (nI s) (nI a) (nI b) T = some V → ∃ T', T'.1 71 5 = nI n ∧ Ls n T' (shpI n a n n + 1) ∧ (∀ q, q ≠ 113 → q ≠ 114 → T'.1 q = T.1 q) ∧ K (nI (shpI n a n n + 1)) (nI (a + 1)) T' = some V
  | 0, b, s, T, _, _, _, _, _, _, h => by cases h
  | N + 1, b, s, T, hab, hb, hs, hs', h5, hL, h => by
    rw [f_Potentials_listShapes_L14.eq_2, h5] at h
    by_cases e : b = n + 1
    · have es := hs' e
      subst es e
      rw [if_pos ((nI_ltJ (by omega) (by omega)).mpr (by omega)), nmR, nI_1] at h
      exact ⟨T, h5, hL, fun _ _ _ => rfl, h⟩
    · have es := hs (by omega)
      rw [if_neg (fun z => by have := (nI_ltJ (by omega) (by omega)).mp z; omega)] at h
      obtain ⟨T1, a1, a2, a3, h⟩ := lsh_L25 hn hab (by omega) NF b s T (Nat.le_refl _) (by omega) (fun _ => es) (fun q => by omega) h5 hL h
      have i1 := shpI_in hn hab (show b ≤ n by omega) (Nat.le_refl n)
      obtain ⟨T', b1, b2, b3, b4⟩ := lsh_L14 hn ha N (b + 1) (shpI n a b n + 1) T1 (by omega) (by omega) (fun q => (i1.2.2.1 rfl (by omega)).symm) (fun q => by
        have : b = n := by omega
        rw [this]) a1 a2 h
      exact ⟨T', b1, b2, fun q x y => by rw [b3 q x y, a3 q x y], b4⟩
theorem lsh_L4 {n : Nat} {V : SS} (hn : n ≤ 5) : ∀ (N a s : Nat) (T : SS), a ≤ n + 1 → (a ≤ n → s = shpI n a a a) → (a = n + 1 → s = shpM n) → T.1 71 5 = nI n → Ls n T s → f_Potentials_listShapes_L4 N (nI s) (nI a) T = some V → Ls n V (shpM n) ∧ (∀ q, q ≠ 113 → q ≠ 114 → V.1 q = T.1 q)
  | 0, a, s, T, _, _, _, _, _, h => by cases h
  | N + 1, a, s, T, ha, hs, hs', h5, hL, h => by
    rw [f_Potentials_listShapes_L4.eq_2, h5] at h
    by_cases e : a = n + 1
    · rw [if_pos ((nI_ltJ (by omega) (by omega)).mpr (by omega))] at h
      injection h with h
      subst h
      rw [hs' e] at hL
      exact ⟨hL, fun _ _ _ => rfl⟩
    · have es := hs (by omega)
      rw [if_neg (fun z => by have := (nI_ltJ (by omega) (by omega)).mp z; omega)] at h
      obtain ⟨T1, a1, a2, a3, h⟩ := lsh_L14 hn (by omega) NF a s T (Nat.le_refl _) (by omega) (fun _ => es) (fun q => by omega) h5 hL h
      have i1 := shpI_in hn (show a ≤ n by omega) (Nat.le_refl n) (Nat.le_refl n)
      obtain ⟨b1, b2⟩ := lsh_L4 hn N (a + 1) (shpI n a n n + 1) T1 (by omega) (fun q => (i1.2.2.2.1 rfl rfl (by omega)).symm) (fun q => by
        have : a = n := by omega
        exact (i1.2.2.2.2 rfl rfl this).symm) a1 a2 h
      exact ⟨b1, fun q x y => by rw [b2 q x y, a3 q x y]⟩
/-- listShapes: rows 114 and 113 hold the shapes -/
theorem lsh {n : Nat} {S V : SS} (hn : n ≤ 5) (h5 : S.1 71 5 = nI n) (h : f_Potentials_listShapes S = some V) : Ls n V (shpM n) ∧ (∀ q, q ≠ 113 → q ≠ 114 → V.1 q = S.1 q) := by
  have z : shpI n 0 0 0 = 0 := by
    rcases (show n = 0 ∨ n = 1 ∨ n = 2 ∨ n = 3 ∨ n = 4 ∨ n = 5 by omega) with rfl | rfl | rfl | rfl | rfl | rfl <;> decide
  exact lsh_L4 hn NF 0 0 S (by omega) (fun _ => z.symm) (fun q => by omega) h5 (fun a b c _ _ _ q => absurd q (by omega)) h
theorem k_ge {k s : Nat} (K : Int32) (e : K = nI k) (h : s < k) (hk : k < 2 ^ 31) : ¬ K ≤ nI s := by rw [e]; exact nI_ge h hk
theorem k_le {k s : Nat} (K : Int32) (e : K = nI k) (h : k ≤ s) (hs : s < 2 ^ 31) : K ≤ nI s := by rw [e]; exact nI_le h hs
/-! ===== listEntries: where a MOVE leads, and what it does to the order ===== -/
theorem sh_mono {S : SS} {sh w : Nat} (h : ShOk S sh w) {a b : Nat} (hab : a ≤ b) (hb : b < 4) : en S sh a ≤ en S sh b := by
  obtain ⟨h1, h2, h3, h4, h5, h6, h7, h8⟩ := h
  rcases (show b = 0 ∨ b = 1 ∨ b = 2 ∨ b = 3 by omega) with rfl | rfl | rfl | rfl
  · rw [show a = 0 by omega]; exact Nat.le_refl _
  · rcases (show a = 0 ∨ a = 1 by omega) with rfl | rfl <;> omega
  · rcases (show a = 0 ∨ a = 1 ∨ a = 2 by omega) with rfl | rfl | rfl <;> omega
  · rcases (show a = 0 ∨ a = 1 ∨ a = 2 ∨ a = 3 by omega) with rfl | rfl | rfl | rfl <;> omega
theorem sh_below {S : SS} {sh w : Nat} (h : ShOk S sh w) {a f : Nat} (ha : a < f) (hf : f < 4) : en S sh a ≤ eb S sh f := by
  unfold eb
  rw [if_neg (by omega)]
  exact sh_mono h (by omega) (by omega)
def kst (S : SS) (sh f t n key s : Nat) : Nat := if s < 3 then 6 * key + vaf S sh f t n s else key
theorem sa_e {S : SS} {sh w f t n : Nat} (h : ShOk S sh w) (hf : f < 4) (ht : t < 4) (hft : f ≠ t) (hn : n ≤ en S sh f - eb S sh f) (N key : Nat) {s : Nat} (hs : s < 4) : f_Potentials_shapeAfter_L6 (N + 1) (nI sh) (nI f) (nI t) (nI n) (nI key) (nI s) S = f_Potentials_shapeAfter_L6 N (nI sh) (nI f) (nI t) (nI n) (nI (kst S sh f t n key s)) (nI (s + 1)) S := by
  have ls := h.le hs
  have lf := h.le hf
  have l5 := h.2.2.1
  rw [f_Potentials_shapeAfter_L6.eq_2, if_neg (k_ge (k := 4) 4 rfl hs (by omega))]
  have fin : ∀ (x7 y0 : Int32), (nI (en S sh s) - x7) + y0 = nI (vaf S sh f t n s) → f_Potentials_shapeAfter_j50 (fun v0 v1 v2 v3 v4 v5 S => f_Potentials_shapeAfter_L6 N v0 v1 v2 v3 v4 v5 S) (nI sh) (nI f) (nI t) (nI n) (nI key) (nI s) x7 y0 S = f_Potentials_shapeAfter_L6 N (nI sh) (nI f) (nI t) (nI n) (nI (kst S sh f t n key s)) (nI (s + 1)) S := fun x7 y0 e => by
    rw [f_Potentials_shapeAfter_j50.eq_1, enx h hs, bnd_r, e, f_Potentials_keyWith.eq_1]
    unfold kst
    by_cases c : s < 3
    · rw [if_neg (k_ge (k := 3) 3 rfl c (by omega)), bnd_r, nmR, nI_1, if_pos c, show (6 : Int32) * nI key = nI (6 * key) from nI_mul 6 key, nI_add]
    · rw [if_pos (k_le (k := 3) 3 rfl (by omega) (by omega)), bnd_r, nmR, nI_1, if_neg c]
  by_cases c1 : f ≤ s ∧ s < t
  · rw [if_neg (fun z => by have := (nI_ltJ (by omega) (by omega)).mp z; omega), if_neg (nI_ge c1.2 (by omega)), f_Potentials_shapeAfter_j30.eq_1, if_pos ((nI_ltJ (by omega) (by omega)).mpr c1.2), f_Potentials_shapeAfter_j49.eq_1]
    refine fin _ _ ?_
    have := sh_mono h c1.1 hs
    unfold vaf
    rw [if_pos c1, nI_sb (by omega) (by omega), Int32.add_zero]
  · by_cases c2 : t ≤ s ∧ s < f
    · rw [if_pos ((nI_ltJ (by omega) (by omega)).mpr c2.2), f_Potentials_shapeAfter_j29.eq_1, f_Potentials_shapeAfter_j30.eq_1, if_neg (fun z => by have := (nI_ltJ (by omega) (by omega)).mp z; omega), if_neg (nI_ge c2.2 (by omega))]
      refine fin _ _ ?_
      unfold vaf
      rw [if_neg c1, if_pos c2, Int32.sub_zero, nI_add]
    · have z0 : (nI (en S sh s) - 0) + 0 = nI (vaf S sh f t n s) := by
        unfold vaf
        rw [if_neg c1, if_neg c2, Int32.sub_zero, Int32.add_zero]
      by_cases c3 : s < f
      · rw [if_pos ((nI_ltJ (by omega) (by omega)).mpr c3), f_Potentials_shapeAfter_j29.eq_1, f_Potentials_shapeAfter_j30.eq_1, if_pos ((nI_ltJ (by omega) (by omega)).mpr (by omega)), f_Potentials_shapeAfter_j49.eq_1]
        exact fin _ _ z0
      · rw [if_neg (fun z => c3 ((nI_ltJ (by omega) (by omega)).mp z)), if_pos (nI_le (by omega) (by omega)), f_Potentials_shapeAfter_j29.eq_1, f_Potentials_shapeAfter_j30.eq_1, if_neg (fun z => by have := (nI_ltJ (by omega) (by omega)).mp z; omega), if_pos (nI_le (by omega) (by omega)), f_Potentials_shapeAfter_j49.eq_1]
        exact fin _ _ z0
def vaK (S : SS) (sh f t n : Nat) : Nat := 36 * vaf S sh f t n 0 + 6 * vaf S sh f t n 1 + vaf S sh f t n 2
theorem vaf_le {S : SS} {sh w f t n s : Nat} (h : ShOk S sh w) (hf : f < 4) (hn : n ≤ en S sh f - eb S sh f) (hs : s < 4) : vaf S sh f t n s ≤ w := by
  have lf := h.le hf
  have ls := h.le hs
  unfold vaf
  by_cases c1 : f ≤ s ∧ s < t
  · rw [if_pos c1]; omega
  · rw [if_neg c1]
    by_cases c2 : t ≤ s ∧ s < f
    · rw [if_pos c2]
      have := sh_below h c2.2 hf
      omega
    · rw [if_neg c2]; omega
theorem sae {S : SS} {sh w f t n : Nat} (h : ShOk S sh w) (hf : f < 4) (ht : t < 4) (hft : f ≠ t) (hn : n ≤ en S sh f - eb S sh f) : f_Potentials_shapeAfter (nI sh) (nI f) (nI t) (nI n) S = some (S.1 113 (vaK S sh f t n), S) := by
  have l5 := h.2.2.1
  have v0 := vaf_le (t := t) h hf hn (show 0 < 4 by omega)
  have v1 := vaf_le (t := t) h hf hn (show 1 < 4 by omega)
  have v2 := vaf_le (t := t) h hf hn (show 2 < 4 by omega)
  have e0 := sa_e h hf ht hft hn 99999 0 (show 0 < 4 by omega)
  have e1 := sa_e h hf ht hft hn 99998 (kst S sh f t n 0 0) (show 1 < 4 by omega)
  have e2 := sa_e h hf ht hft hn 99997 (kst S sh f t n (kst S sh f t n 0 0) 1) (show 2 < 4 by omega)
  have e3 := sa_e h hf ht hft hn 99996 (kst S sh f t n (kst S sh f t n (kst S sh f t n 0 0) 1) 2) (show 3 < 4 by omega)
  have k : kst S sh f t n (kst S sh f t n (kst S sh f t n (kst S sh f t n 0 0) 1) 2) 3 = vaK S sh f t n := by
    unfold kst vaK
    rw [if_pos (show 0 < 3 by omega), if_pos (show 1 < 3 by omega), if_pos (show 2 < 3 by omega), if_neg (show ¬ 3 < 3 by omega)]
    omega
  rw [f_Potentials_shapeAfter.eq_1]
  refine e0.trans (e1.trans (e2.trans (e3.trans ?_)))
  rw [k]
  refine (f_Potentials_shapeAfter_L6.eq_2 _ _ _ _ _ _ _ 99995).trans ?_
  have b : vaK S sh f t n < 216 := by unfold vaK; omega
  rw [if_pos (by decide), grT (inb_nI b (by omega)), nI_clamp (by omega)]
def swv (i j k : Nat) : Int32 := if i < j ∧ j < k then nI (swN i j k) else -4
theorem swe {S : SS} {i j k : Nat} (hi : i ≤ 5) (hj : j ≤ 5) (hk : k ≤ 5) : f_Potentials_swapOf (nI i) (nI j) (nI k) S = some (swv i j k, S) := by
  rw [f_Potentials_swapOf.eq_1]
  unfold swv
  by_cases c1 : i < j
  · rw [if_neg (nI_ge c1 (by omega))]
    by_cases c2 : j < k
    · have a := sw_all ⟨i, by omega⟩ ⟨j, by omega⟩ ⟨k, by omega⟩ c1 c2
      have a1 := a.1
      simp only at a1
      rw [if_neg (nI_ge c2 (by omega)), if_pos ⟨c1, c2⟩, a1]
    · rw [if_pos (nI_le (by omega) (by omega)), if_neg (fun z => c2 z.2)]
  · rw [if_pos (nI_le (by omega) (by omega)), if_neg (fun z => c1 z.1)]
def swX (S : SS) (sh f t n : Nat) : Int32 := if t ≤ f then swv (en S sh t) (en S sh f - n) (en S sh f) else swv (en S sh f - n) (en S sh f) (en S sh t)
theorem sbe {S : SS} {sh w f t n : Nat} (h : ShOk S sh w) (hf : f < 4) (ht : t < 4) (hn : n ≤ en S sh f - eb S sh f) : f_Potentials_swapBy (nI sh) (nI f) (nI t) (nI n) S = some (swX S sh f t n, S) := by
  have lf := h.le hf
  have lt := h.le ht
  have l5 := h.2.2.1
  rw [f_Potentials_swapBy.eq_1, enx h hf, bnd_r, enx h ht, nI_sb (by omega) (by omega)]
  unfold swX
  by_cases c : t ≤ f
  · rw [if_pos (nI_le c (by omega)), bnd_r, swe (by omega) (by omega) (by omega), bnd_r, if_pos c]
  · rw [if_neg (nI_ge (by omega) (by omega)), bnd_r, swe (by omega) (by omega) (by omega), bnd_r, if_neg c]
/-! counting -/
def ctB (p : Nat → Bool) : Nat → Nat
  | 0 => 0
  | x + 1 => ctB p x + (if p x = true then 1 else 0)
theorem ctB_t {p : Nat → Bool} {x : Nat} (h : p x = true) : ctB p (x + 1) = ctB p x + 1 := by
  show ctB p x + (if p x = true then 1 else 0) = _
  rw [if_pos h]
theorem ctB_f {p : Nat → Bool} {x : Nat} (h : ¬ p x = true) : ctB p (x + 1) = ctB p x := by
  show ctB p x + (if p x = true then 1 else 0) = _
  rw [if_neg h]; omega
theorem ctB_s (p : Nat → Bool) (x : Nat) : ctB p x ≤ ctB p (x + 1) := Nat.le_add_right _ _
theorem ctB_le (p : Nat → Bool) : ∀ x, ctB p x ≤ x
  | 0 => Nat.le_refl _
  | x + 1 => by
    have := ctB_le p x
    by_cases c : p x = true
    · rw [ctB_t c]; omega
    · rw [ctB_f c]; omega
theorem ctB_mono (p : Nat → Bool) {x : Nat} : ∀ {y : Nat}, x ≤ y → ctB p x ≤ ctB p y
  | 0, h => by rw [show x = 0 by omega]; exact Nat.le_refl _
  | y + 1, h => by
    by_cases c : x = y + 1
    · rw [c]; exact Nat.le_refl _
    · exact Nat.le_trans (ctB_mono p (y := y) (by omega)) (ctB_s p y)
theorem ctB_lt {p : Nat → Bool} {x y : Nat} (h : p x = true) (hy : x < y) : ctB p x < ctB p y := by
  have := ctB_mono p (show x + 1 ≤ y by omega)
  rw [ctB_t h] at this
  omega
theorem ctB_same {p : Nat → Bool} {x : Nat} : ∀ {y : Nat}, x ≤ y → (∀ z, x ≤ z → z < y → ¬ p z = true) → ctB p y = ctB p x
  | 0, h, _ => by rw [show x = 0 by omega]
  | y + 1, h, k => by
    by_cases c : x = y + 1
    · rw [c]
    · rw [ctB_f (k y (by omega) (by omega)), ctB_same (y := y) (by omega) (fun z a b => k z a (by omega))]
/-- may this MOVE be made, with ROOMS rm and heights h? -/
def mayB (rm h : Nat → Nat) (y : Nat) : Bool := !(Nat.beq (y / 20) (y / 5 % 4)) && Nat.ble (y % 5 + 1) (h (y / 20)) && Nat.ble (h (y / 5 % 4) + (y % 5 + 1)) (rm (y / 5 % 4))
theorem mayB_iff {rm h : Nat → Nat} {f t m : Nat} (ht : t < 4) (hm : 1 ≤ m) (hm5 : m ≤ 5) : mayB rm h (20 * f + 5 * t + (m - 1)) = true ↔ (f ≠ t ∧ m ≤ h f ∧ h t + m ≤ rm t) := by
  unfold mayB
  rw [show (20 * f + 5 * t + (m - 1)) / 20 = f by omega, show (20 * f + 5 * t + (m - 1)) / 5 % 4 = t by omega, show (20 * f + 5 * t + (m - 1)) % 5 + 1 = m by omega, Bool.and_eq_true, Bool.and_eq_true, Bool.not_eq_true', Nat.ble_eq, Nat.ble_eq]
  constructor
  · rintro ⟨⟨a, b⟩, c⟩
    exact ⟨Nat.ne_of_beq_eq_false a, b, c⟩
  · rintro ⟨a, b, c⟩
    refine ⟨⟨?_, b⟩, c⟩
    cases q : Nat.beq f t
    · rfl
    · exact absurd (Nat.eq_of_beq_eq_true q) a
def hh (S : SS) (sh s : Nat) : Nat := en S sh s - eb S sh s
def pS (S : SS) (rm : Nat → Nat) (sh : Nat) : Nat → Bool := mayB rm (hh S sh)
/-- the entries of shape sh, from b on, for the MOVES below x -/
def Ee (S : SS) (p : Nat → Bool) (sh b : Nat) (T : SS) (x : Nat) : Prop := ∀ y, y < x → p y = true → T.1 117 (b + ctB p y) = nI (64 * (y / 20) + 16 * (y / 5 % 4) + (y % 5 + 1)) ∧ T.1 118 (b + ctB p y) = S.1 113 (vaK S sh (y / 20) (y / 5 % 4) (y % 5 + 1)) ∧ T.1 119 (b + ctB p y) = swX S sh (y / 20) (y / 5 % 4) (y % 5 + 1) ∧ b + ctB p y < S.2 117
/-! ===== listEntries exactly ===== -/
def F4 (S T : SS) : Prop := (∀ q, q ≠ 116 → q ≠ 117 → q ≠ 118 → q ≠ 119 → T.1 q = S.1 q) ∧ T.2 = S.2
def Lw (b : Nat) (T0 T : SS) : Prop := ∀ i, i < b → T.1 117 i = T0.1 117 i ∧ T.1 118 i = T0.1 118 i ∧ T.1 119 i = T0.1 119 i
def Ic (S T0 : SS) (sh : Nat) (p : Nat → Bool) (b : Nat) (T : SS) (x : Nat) : Prop := F4 S T ∧ T.1 116 = T0.1 116 ∧ Lw b T0 T ∧ Ee S p sh b T x
theorem Ic.skip {S T0 T : SS} {sh b x y : Nat} {p : Nat → Bool} (h : Ic S T0 sh p b T x) (k : ∀ z, x ≤ z → z < y → ¬ p z = true) : Ic S T0 sh p b T y := by
  obtain ⟨h1, h2, h3, h4⟩ := h
  refine ⟨h1, h2, h3, fun z hz pz => ?_⟩
  by_cases c : z < x
  · exact h4 z c pz
  · exact absurd pz (k z (by omega) hz)
set_option maxHeartbeats 1000000 in
theorem le75 {S T0 : SS} {K : Int32 → Int32 → Int32 → Int32 → SS → Option SS} {V : SS} {sh w f t mo b : Nat} {p : Nat → Bool} (h : ShOk S sh w) (hf : f < 4) (ht : t < 4) (hft : f ≠ t) (hmo : mo ≤ en S sh f - eb S sh f) (hb : b ≤ 10000) (hp : ∀ m, 1 ≤ m → m ≤ 5 → (p (20 * f + 5 * t + (m - 1)) = true ↔ m ≤ mo)) : ∀ (N m : Nat) (T : SS), 1 ≤ m → m ≤ mo + 1 → Ic S T0 sh p b T (20 * f + 5 * t + (m - 1)) → f_Potentials_listEntries_Plans_rooms_L75 K N (nI (b + ctB p (20 * f + 5 * t + (m - 1)))) (nI sh) (nI f) (nI t) (nI mo) (nI m) T = some V → ∃ T', Ic S T0 sh p b T' (20 * f + 5 * t + 5) ∧ K (nI (b + ctB p (20 * f + 5 * t + 5))) (nI sh) (nI f) (nI (t + 1)) T' = some V
  | 0, m, T, _, _, _, e => by cases e
  | N + 1, m, T, h1, hm, hI, e => by
    have l5 := h.2.2.1
    have lf := h.le hf
    rw [f_Potentials_listEntries_Plans_rooms_L75.eq_2] at e
    by_cases c : m = mo + 1
    · rw [if_pos ((nI_ltJ (by omega) (by omega)).mpr (by omega)), nmR, nI_1] at e
      have no : ∀ z, 20 * f + 5 * t + (m - 1) ≤ z → z < 20 * f + 5 * t + 5 → ¬ p z = true := fun z z1 z2 pz => by
        have := (hp (z - (20 * f + 5 * t) + 1) (by omega) (by omega)).mp (by rw [show 20 * f + 5 * t + (z - (20 * f + 5 * t) + 1 - 1) = z by omega]; exact pz)
        omega
      refine ⟨T, hI.skip no, ?_⟩
      rw [ctB_same (by omega) no]
      exact e
    · have px := (hp m h1 (by omega)).mpr (by omega)
      have fd : (20 * f + 5 * t + (m - 1)) / 20 = f := by omega
      have td : (20 * f + 5 * t + (m - 1)) / 5 % 4 = t := by omega
      have md : (20 * f + 5 * t + (m - 1)) % 5 + 1 = m := by omega
      generalize hx : 20 * f + 5 * t + (m - 1) = x at hI e px fd td md
      have cl := ctB_le p x
      obtain ⟨⟨i1, i2⟩, i3, i4, i5⟩ := hI
      rw [if_neg (fun z => c (by have := (nI_ltJ (by omega) (by omega)).mp z; omega))] at e
      obtain ⟨gd, e⟩ := grd_i e
      have bd := inb_lt gd
      rw [nI_clamp (n := b + ctB p x) (by omega), i2] at bd
      rw [wr_r, nI_clamp (n := b + ctB p x) (by omega), show (64 : Int32) * nI f = nI (64 * f) from nI_mul 64 f, show (16 : Int32) * nI t = nI (16 * t) from nI_mul 16 t, nI_add, nI_add] at e
      have o1 := h.cg (T := st T 117 (b + ctB p x) (nI (64 * f + 16 * t + m))) (fun i => by rw [st_row _ _ _ _ (by decide), i1 114 (by decide) (by decide) (by decide) (by decide)]) (by show T.2 114 = _; rw [i2])
      rw [sae o1.1 hf ht hft (by rw [show eb (st T 117 (b + ctB p x) (nI (64 * f + 16 * t + m))) sh f = eb S sh f by unfold eb; rw [o1.2], o1.2]; omega), bnd_r] at e
      replace e := (grd_i e).2
      have vk : vaK (st T 117 (b + ctB p x) (nI (64 * f + 16 * t + m))) sh f t m = vaK S sh f t m := by
        unfold vaK vaf
        simp only [o1.2]
      rw [wr_r, vk, st_row T 117 _ _ (a := 113) (by decide), i1 113 (by decide) (by decide) (by decide) (by decide)] at e
      have o2 := h.cg (T := st (st T 117 (b + ctB p x) (nI (64 * f + 16 * t + m))) 118 (b + ctB p x) (S.1 113 (vaK S sh f t m))) (fun i => by rw [st_row _ _ _ _ (by decide), st_row _ _ _ _ (by decide), i1 114 (by decide) (by decide) (by decide) (by decide)]) (by show T.2 114 = _; rw [i2])
      rw [sbe o2.1 hf ht (by rw [show eb (st (st T 117 (b + ctB p x) (nI (64 * f + 16 * t + m))) 118 (b + ctB p x) (S.1 113 (vaK S sh f t m))) sh f = eb S sh f by unfold eb; rw [o2.2], o2.2]; omega), bnd_r] at e
      replace e := (grd_i e).2
      have vs : swX (st (st T 117 (b + ctB p x) (nI (64 * f + 16 * t + m))) 118 (b + ctB p x) (S.1 113 (vaK S sh f t m))) sh f t m = swX S sh f t m := by
        unfold swX
        simp only [o2.2]
      rw [wr_r, vs, nmR, nmR, nI_1, nI_1] at e
      generalize hX : st (st (st T 117 (b + ctB p x) (nI (64 * f + 16 * t + m))) 118 (b + ctB p x) (S.1 113 (vaK S sh f t m))) 119 (b + ctB p x) (swX S sh f t m) = X at e
      have x7 : ∀ j, X.1 117 j = if j = b + ctB p x then nI (64 * f + 16 * t + m) else T.1 117 j := fun j => by rw [← hX, st_row _ 119 _ _ (by decide), st_row _ 118 _ _ (by decide), st_at, if_pos rfl]
      have x8 : ∀ j, X.1 118 j = if j = b + ctB p x then S.1 113 (vaK S sh f t m) else T.1 118 j := fun j => by rw [← hX, st_row _ 119 _ _ (by decide), st_at, if_pos rfl, st_row _ 117 _ _ (by decide)]
      have x9 : ∀ j, X.1 119 j = if j = b + ctB p x then swX S sh f t m else T.1 119 j := fun j => by rw [← hX, st_at, if_pos rfl, st_row _ 118 _ _ (by decide), st_row _ 117 _ _ (by decide)]
      have fr : ∀ q, q ≠ 117 → q ≠ 118 → q ≠ 119 → X.1 q = T.1 q := fun q a b c => by rw [← hX, st_row _ _ _ _ c, st_row _ _ _ _ b, st_row _ _ _ _ a]
      have nx : 20 * f + 5 * t + (m + 1 - 1) = x + 1 := by omega
      have I' : Ic S T0 sh p b X (20 * f + 5 * t + (m + 1 - 1)) := by
        rw [nx]
        refine ⟨⟨fun q a b c d => by rw [fr q b c d]; exact i1 q a b c d, by rw [← hX]; exact i2⟩, by rw [fr 116 (by decide) (by decide) (by decide)]; exact i3, fun i hi => ?_, fun y hy py => ?_⟩
        · rw [x7, x8, x9, if_neg (by omega), if_neg (by omega), if_neg (by omega)]
          exact i4 i hi
        · by_cases cy : y = x
          · subst cy
            rw [x7, x8, x9, if_pos rfl, if_pos rfl, if_pos rfl, fd, td, md]
            exact ⟨rfl, rfl, rfl, bd⟩
          · have := ctB_lt py (show y < x by omega)
            rw [x7, x8, x9, if_neg (by omega), if_neg (by omega), if_neg (by omega)]
            exact i5 y (by omega) py
      refine le75 h hf ht hft hmo hb hp N (m + 1) X (by omega) (by omega) I' ?_
      rw [nx, ctB_t px]
      exact e
theorem mn_all : ∀ a b h : Fin 11, a.1 ≤ b.1 → (if nI a.1 - nI b.1 < nI h.1 then nI a.1 - nI b.1 else nI h.1) < (1 : Int32) := by decide +kernel
theorem le31 {S T0 : SS} {K : Int32 → Int32 → Int32 → SS → Option SS} {V : SS} {sh w f b : Nat} {rm : Nat → Nat} (h : ShOk S sh w) (hf : f < 4) (hb : b ≤ 10000) (hr : ∀ t, t < 4 → S.1 106 t = nI (rm t) ∧ rm t ≤ 10) : ∀ (N t : Nat) (T : SS), t ≤ 4 → Ic S T0 sh (pS S rm sh) b T (20 * f + 5 * t) → f_Potentials_listEntries_Plans_rooms_L31 K N (nI (b + ctB (pS S rm sh) (20 * f + 5 * t))) (nI sh) (nI f) (nI t) T = some V → ∃ T', Ic S T0 sh (pS S rm sh) b T' (20 * f + 20) ∧ K (nI (b + ctB (pS S rm sh) (20 * f + 20))) (nI sh) (nI (f + 1)) T' = some V
  | 0, t, T, _, _, e => by cases e
  | N + 1, t, T, ht, hI, e => by
    have lf := h.le hf
    have l5 := h.2.2.1
    rw [f_Potentials_listEntries_Plans_rooms_L31.eq_2] at e
    by_cases c4 : t = 4
    · subst c4
      rw [if_pos (k_le (k := 4) 4 rfl (by omega) (by omega)), nmR, nI_1] at e
      exact ⟨T, hI, e⟩
    · have ht4 : t < 4 := by omega
      have lt := h.le ht4
      rw [if_neg (k_ge (k := 4) 4 rfl ht4 (by omega))] at e
      have none : ∀ x6 : Int32, x6 < 1 → (∀ z, 20 * f + 5 * t ≤ z → z < 20 * f + 5 * (t + 1) → ¬ pS S rm sh z = true) → f_Potentials_listEntries_Plans_rooms_j70 (fun v0 v1 v2 v3 S => f_Potentials_listEntries_Plans_rooms_L31 K N v0 v1 v2 v3 S) (nI (b + ctB (pS S rm sh) (20 * f + 5 * t))) (nI sh) (nI f) (nI t) x6 T = some V → ∃ T', Ic S T0 sh (pS S rm sh) b T' (20 * f + 20) ∧ K (nI (b + ctB (pS S rm sh) (20 * f + 20))) (nI sh) (nI (f + 1)) T' = some V := fun x6 hx no e => by
        rw [f_Potentials_listEntries_Plans_rooms_j70.eq_1] at e
        replace e := (f_Potentials_listEntries_Plans_rooms_L75.eq_2 _ _ _ _ _ _ _ _ 99999).symm.trans e
        rw [if_pos hx, nmR, nI_1] at e
        refine le31 h hf hb hr N (t + 1) T (by omega) (hI.skip no) ?_
        rw [ctB_same (by omega) no]
        exact e
      have pz : ∀ z, 20 * f + 5 * t ≤ z → z < 20 * f + 5 * (t + 1) → pS S rm sh z = true → f ≠ t ∧ z - (20 * f + 5 * t) + 1 ≤ hh S sh f ∧ hh S sh t + (z - (20 * f + 5 * t) + 1) ≤ rm t := fun z z1 z2 q => by
        refine (mayB_iff (rm := rm) (h := hh S sh) (f := f) (m := z - (20 * f + 5 * t) + 1) ht4 (by omega) (by omega)).mp ?_
        rw [show 20 * f + 5 * t + (z - (20 * f + 5 * t) + 1 - 1) = z by omega]
        exact q
      by_cases d : f = t
      · rw [if_pos (by rw [d])] at e
        exact none 0 (by decide) (fun z z1 z2 q => (pz z z1 z2 q).1 d) e
      · rw [if_neg (fun k => d (nI_inj (by omega) (by omega) k))] at e
        obtain ⟨⟨i1, i2⟩, i3, i4, i5⟩ := id hI
        have o := h.cg (T := T) (fun i => by rw [i1 114 (by decide) (by decide) (by decide) (by decide)]) (by rw [i2])
        have ob : ∀ s, eb T sh s = eb S sh s := fun s => by unfold eb; rw [o.2]
        rw [hex o.1 hf, bnd_r] at e
        replace e := (grd_i e).2
        rw [hex o.1 ht4, bnd_r, o.2, ob, o.2, ob, nI_clamp (n := t) (by omega), i1 106 (by decide) (by decide) (by decide) (by decide), (hr t ht4).1] at e
        have r10 := (hr t ht4).2
        show _
        by_cases q : rm t ≤ hh S sh t
        · have mn := mn_all ⟨rm t, by omega⟩ ⟨hh S sh t, by unfold hh; omega⟩ ⟨hh S sh f, by unfold hh; omega⟩ q
          simp only at mn
          rw [f_Math_min_7cf53.eq_1] at e
          by_cases q2 : nI (rm t) - nI (hh S sh t) < nI (hh S sh f)
          · rw [if_pos q2] at mn
            rw [show nI (en S sh f - eb S sh f) = nI (hh S sh f) from rfl, show nI (en S sh t - eb S sh t) = nI (hh S sh t) from rfl, if_pos q2, bnd_r] at e
            exact none _ mn (fun z z1 z2 q => by have := (pz z z1 z2 q).2.2; omega) e
          · rw [if_neg q2] at mn
            rw [show nI (en S sh f - eb S sh f) = nI (hh S sh f) from rfl, show nI (en S sh t - eb S sh t) = nI (hh S sh t) from rfl, if_neg q2, bnd_r] at e
            exact none _ mn (fun z z1 z2 q => by have := (pz z z1 z2 q).2.2; omega) e
        · have hmin : ∃ mo, mo ≤ hh S sh f ∧ mo ≤ rm t - hh S sh t ∧ (mo = hh S sh f ∨ mo = rm t - hh S sh t) ∧ f_Potentials_listEntries_Plans_rooms_j70 (fun v0 v1 v2 v3 S => f_Potentials_listEntries_Plans_rooms_L31 K N v0 v1 v2 v3 S) (nI (b + ctB (pS S rm sh) (20 * f + 5 * t))) (nI sh) (nI f) (nI t) (nI mo) T = some V := by
            have hf5 : hh S sh f ≤ 5 := by unfold hh; omega
            have ht5 : hh S sh t ≤ 5 := by unfold hh; omega
            rw [f_Math_min_7cf53.eq_1, show nI (en S sh f - eb S sh f) = nI (hh S sh f) from rfl, show nI (en S sh t - eb S sh t) = nI (hh S sh t) from rfl, nI_sb (by omega) (by omega)] at e
            by_cases q2 : rm t - hh S sh t < hh S sh f
            · rw [if_pos ((nI_ltJ (by omega) (by omega)).mpr q2), bnd_r] at e
              exact ⟨_, by omega, by omega, Or.inr rfl, e⟩
            · rw [if_neg (fun z => q2 ((nI_ltJ (by omega) (by omega)).mp z)), bnd_r] at e
              exact ⟨_, by omega, by omega, Or.inl rfl, e⟩
          obtain ⟨mo, m1, m2, m3, e⟩ := hmin
          rw [f_Potentials_listEntries_Plans_rooms_j70.eq_1] at e
          obtain ⟨T1, t1, t2⟩ := le75 h hf ht4 d m1 hb (p := pS S rm sh) (fun m a b' => (mayB_iff ht4 a b').trans ⟨fun u => by omega, fun u => ⟨d, by omega, by omega⟩⟩) NF 1 T (by omega) (by omega) hI e
          exact le31 h hf hb hr N (t + 1) T1 (by omega) t1 t2
theorem le22 {S T0 : SS} {K : Int32 → Int32 → SS → Option SS} {V : SS} {sh w b : Nat} {rm : Nat → Nat} (h : ShOk S sh w) (hb : b ≤ 10000) (hr : ∀ t, t < 4 → S.1 106 t = nI (rm t) ∧ rm t ≤ 10) : ∀ (N f : Nat) (T : SS), f ≤ 4 → Ic S T0 sh (pS S rm sh) b T (20 * f) → f_Potentials_listEntries_Plans_rooms_L22 K N (nI (b + ctB (pS S rm sh) (20 * f))) (nI sh) (nI f) T = some V → ∃ T', Ic S T0 sh (pS S rm sh) b T' 80 ∧ K (nI (b + ctB (pS S rm sh) 80)) (nI (sh + 1)) T' = some V
  | 0, f, T, _, _, e => by cases e
  | N + 1, f, T, hf, hI, e => by
    rw [f_Potentials_listEntries_Plans_rooms_L22.eq_2] at e
    by_cases c4 : f = 4
    · subst c4
      rw [if_pos (k_le (k := 4) 4 rfl (by omega) (by omega)), nmR, nI_1] at e
      exact ⟨T, hI, e⟩
    · rw [if_neg (k_ge (k := 4) 4 rfl (by omega) (by omega))] at e
      obtain ⟨T1, t1, t2⟩ := le31 h (by omega) hb hr NF 0 T (by omega) hI e
      exact le22 h hb hr N (f + 1) T1 (by omega) t1 t2
def feN (S : SS) (rm : Nat → Nat) : Nat → Nat
  | 0 => 0
  | k + 1 => feN S rm k + ctB (pS S rm k) 80
theorem feN_s (S : SS) (rm : Nat → Nat) (k : Nat) : feN S rm (k + 1) = feN S rm k + ctB (pS S rm k) 80 := rfl
theorem feN_le (S : SS) (rm : Nat → Nat) : ∀ k, feN S rm k ≤ 80 * k
  | 0 => Nat.le_refl _
  | k + 1 => by
    have := feN_le S rm k
    have := ctB_le (pS S rm k) 80
    rw [feN_s]; omega
theorem feN_mono (S : SS) (rm : Nat → Nat) {j : Nat} : ∀ {k}, j ≤ k → feN S rm j ≤ feN S rm k
  | 0, h => by rw [show j = 0 by omega]; exact Nat.le_refl _
  | k + 1, h => by
    by_cases c : j = k + 1
    · rw [c]; exact Nat.le_refl _
    · exact Nat.le_trans (feN_mono S rm (k := k) (by omega)) (Nat.le_add_right _ _)
/-- all entries of all shapes -/
def EN (S : SS) (rm : Nat → Nat) (n : Nat) (T : SS) : Prop := F4 S T ∧ (∀ k, k ≤ shN n → T.1 116 k = nI (feN S rm k)) ∧ ∀ k, k < shN n → Ee S (pS S rm k) k (feN S rm k) T 80
theorem le4 {S V : SS} {w W : Nat} {rm : Nat → Nat} (hw : QW S w W) (hE : QE S w (shN w)) (hr : ∀ t, t < 4 → S.1 106 t = nI (rm t) ∧ rm t ≤ 10) : ∀ (N sh : Nat) (T : SS), sh ≤ shN w → F4 S T → (∀ k, k < sh → T.1 116 k = nI (feN S rm k)) → (∀ k, k < sh → Ee S (pS S rm k) k (feN S rm k) T 80) → f_Potentials_listEntries_Plans_rooms_L4 N (nI (feN S rm sh)) (nI sh) T = some V → EN S rm w V
  | 0, sh, T, _, _, _, _, e => by cases e
  | N + 1, sh, T, hs, hF, h6, hA, e => by
    obtain ⟨q1, q2, q5, q6, q7, l4, l5, l6, l7, l8, l9, l0, l1⟩ := id hw
    have q := qn q1 q2
    have fl := feN_le S rm sh
    rw [f_Potentials_listEntries_Plans_rooms_L4.eq_2, hF.1 71 (by decide) (by decide) (by decide) (by decide), q7] at e
    by_cases c : sh = shN w
    · rw [if_pos (nI_le (by omega) (by omega))] at e
      replace e := (grd_i e).2
      rw [wr_r, nI_clamp (n := shN w) (by omega)] at e
      injection e with e
      have r6 : ∀ j, V.1 116 j = if j = shN w then nI (feN S rm sh) else T.1 116 j := fun j => by rw [← e, st_at, if_pos rfl]
      have rr : ∀ q, q ≠ 116 → V.1 q = T.1 q := fun q hq => by rw [← e, st_row _ _ _ _ hq]
      refine ⟨⟨fun q a b c d => by rw [rr q a]; exact hF.1 q a b c d, by rw [← e]; exact hF.2⟩, fun k hk => ?_, fun k hk y hy py => ?_⟩
      · rw [r6]
        by_cases ck : k = shN w
        · rw [if_pos ck, ck, c]
        · rw [if_neg ck]; exact h6 k (by omega)
      · rw [rr 117 (by decide), rr 118 (by decide), rr 119 (by decide)]
        exact hA k (by omega) y hy py
    · have hsh : sh < shN w := by omega
      rw [if_neg (nI_ge hsh (by omega))] at e
      replace e := (grd_i e).2
      rw [wr_r, nI_clamp (n := sh) (by omega)] at e
      have r6 : ∀ j, (st T 116 sh (nI (feN S rm sh))).1 116 j = if j = sh then nI (feN S rm sh) else T.1 116 j := fun j => by rw [st_at, if_pos rfl]
      have rr : ∀ q, q ≠ 116 → (st T 116 sh (nI (feN S rm sh))).1 q = T.1 q := fun q hq => by rw [st_row _ _ _ _ hq]
      obtain ⟨T1, ⟨a1, a2, a3, a4⟩, t2⟩ := le22 (T0 := st T 116 sh (nI (feN S rm sh))) (b := feN S rm sh) (ShOk.of hw hE hsh) (by omega) hr NF 0 (st T 116 sh (nI (feN S rm sh))) (by omega) ⟨⟨fun q a b c d => by rw [rr q a]; exact hF.1 q a b c d, hF.2⟩, rfl, fun i _ => ⟨rfl, rfl, rfl⟩, fun y hy => absurd hy (by omega)⟩ e
      refine le4 hw hE hr N (sh + 1) T1 (by omega) a1 (fun k hk => ?_) (fun k hk => ?_) t2
      · rw [a2, r6]
        by_cases ck : k = sh
        · rw [if_pos ck, ck]
        · rw [if_neg ck]; exact h6 k (by omega)
      · by_cases ck : k = sh
        · rw [ck]; exact a4
        · intro y hy py
          have b1 := ctB_lt py hy
          have b2 := feN_mono S rm (show k + 1 ≤ sh by omega)
          rw [feN_s] at b2
          obtain ⟨c1, c2, c3⟩ := a3 (feN S rm k + ctB (pS S rm k) y) (by omega)
          rw [c1, c2, c3, rr 117 (by decide), rr 118 (by decide), rr 119 (by decide)]
          exact hA k (by omega) y hy py
/-- LISTENTRIES EXACTLY -/
theorem lex_e {S V : SS} {w W : Nat} {rm : Nat → Nat} (hw : QW S w W) (hE : QE S w (shN w)) (hr : ∀ t, t < 4 → S.1 106 t = nI (rm t) ∧ rm t ≤ 10) (e : f_Potentials_listEntries_Plans_rooms S = some V) : EN S rm w V := by
  rw [f_Potentials_listEntries_Plans_rooms.eq_1] at e
  exact le4 hw hE hr NF 0 S (by omega) ⟨fun _ _ _ _ _ => rfl, rfl⟩ (fun k hk => absurd hk (by omega)) (fun k hk => absurd hk (by omega)) e
/-! ===== ways to stand, as the class numbers them ===== -/
def cl (X : Cf) : Nat → Nat
  | 0 => (X 0).length
  | s + 1 => cl X s + (X (s + 1)).length
theorem cl_0 (X : Cf) : cl X 0 = (X 0).length := rfl
theorem cl_1 (X : Cf) : cl X 1 = (X 0).length + (X 1).length := rfl
theorem cl_2 (X : Cf) : cl X 2 = (X 0).length + (X 1).length + (X 2).length := rfl
theorem cl_3 (X : Cf) : cl X 3 = (X 0).length + (X 1).length + (X 2).length + (X 3).length := rfl
theorem bswp_app (P B M Q : List Nat) : bswp P.length (P.length + B.length) (P.length + B.length + M.length) (P ++ (B ++ (M ++ Q))) = P ++ (M ++ (B ++ Q)) := by
  unfold bswp
  have d1 : (P ++ (B ++ (M ++ Q))).drop (P.length + B.length) = M ++ Q := by
    rw [← List.drop_drop, List.drop_left, List.drop_left]
  have d2 : (P ++ (B ++ (M ++ Q))).drop (P.length + B.length + M.length) = Q := by
    rw [← List.drop_drop, d1, List.drop_left]
  rw [d1, d2, List.take_left, List.drop_left, Nat.add_sub_cancel_left, Nat.add_sub_cancel_left, List.take_left, List.take_left]
theorem bswp_of {l l' P B M Q : List Nat} {i j k : Nat} (e : l = P ++ (B ++ (M ++ Q))) (e' : l' = P ++ (M ++ (B ++ Q))) (hi : i = P.length) (hj : j = P.length + B.length) (hk : k = P.length + B.length + M.length) : l' = bswp i j k l := by
  subst e e' hi hj hk
  exact (bswp_app P B M Q).symm
theorem split_m {l : List Nat} {m : Nat} (hm : m ≤ l.length) : ∃ A B, l = A ++ B ∧ B.length = m ∧ l.take (l.length - m) = A ∧ l.drop (l.length - m) = B ∧ A.length = l.length - m :=
  ⟨l.take (l.length - m), l.drop (l.length - m), (List.take_append_drop _ _).symm, by rw [List.length_drop]; omega, rfl, rfl, by rw [List.length_take]; omega⟩
theorem fl_up {X : Cf} {f t m : Nat} (hf : f < t) (ht : t < 4) (hm : m ≤ (X f).length) : Flat (mvd f t m X) = bswp (cl X f - m) (cl X f) (cl X t) (Flat X) := by
  obtain ⟨A, B, e, l, e1, e2, e3⟩ := split_m hm
  have l0 : (X f).length = A.length + B.length := by rw [e, List.length_append]
  rcases (show (f = 0 ∧ t = 1) ∨ (f = 0 ∧ t = 2) ∨ (f = 0 ∧ t = 3) ∨ (f = 1 ∧ t = 2) ∨ (f = 1 ∧ t = 3) ∨ (f = 2 ∧ t = 3) by omega) with ⟨rfl, rfl⟩ | ⟨rfl, rfl⟩ | ⟨rfl, rfl⟩ | ⟨rfl, rfl⟩ | ⟨rfl, rfl⟩ | ⟨rfl, rfl⟩
  · exact bswp_of (P := A) (B := B) (M := X 1) (Q := X 2 ++ X 3) (by simp [Flat, e]) (by simp [Flat, mvd, e1, e2]) (by simp only [cl_0]; omega) (by simp only [cl_0]; omega) (by simp only [cl_1]; omega)
  · exact bswp_of (P := A) (B := B) (M := X 1 ++ X 2) (Q := X 3) (by simp [Flat, e]) (by simp [Flat, mvd, e1, e2]) (by simp only [cl_0]; omega) (by simp only [cl_0]; omega) (by simp only [cl_2, List.length_append]; omega)
  · exact bswp_of (P := A) (B := B) (M := X 1 ++ (X 2 ++ X 3)) (Q := []) (by simp [Flat, e]) (by simp [Flat, mvd, e1, e2]) (by simp only [cl_0]; omega) (by simp only [cl_0]; omega) (by simp only [cl_3, List.length_append]; omega)
  · exact bswp_of (P := X 0 ++ A) (B := B) (M := X 2) (Q := X 3) (by simp [Flat, e]) (by simp [Flat, mvd, e1, e2]) (by simp only [cl_1, List.length_append]; omega) (by simp only [cl_1, List.length_append]; omega) (by simp only [cl_2, List.length_append]; omega)
  · exact bswp_of (P := X 0 ++ A) (B := B) (M := X 2 ++ X 3) (Q := []) (by simp [Flat, e]) (by simp [Flat, mvd, e1, e2]) (by simp only [cl_1, List.length_append]; omega) (by simp only [cl_1, List.length_append]; omega) (by simp only [cl_3, List.length_append]; omega)
  · exact bswp_of (P := X 0 ++ (X 1 ++ A)) (B := B) (M := X 3) (Q := []) (by simp [Flat, e]) (by simp [Flat, mvd, e1, e2]) (by simp only [cl_2, List.length_append]; omega) (by simp only [cl_2, List.length_append]; omega) (by simp only [cl_3, List.length_append]; omega)
theorem fl_dn {X : Cf} {f t m : Nat} (hf : f < 4) (ht : t < f) (hm : m ≤ (X f).length) : Flat (mvd f t m X) = bswp (cl X t) (cl X f - m) (cl X f) (Flat X) := by
  obtain ⟨A, B, e, l, e1, e2, e3⟩ := split_m hm
  have l0 : (X f).length = A.length + B.length := by rw [e, List.length_append]
  rcases (show (f = 1 ∧ t = 0) ∨ (f = 2 ∧ t = 0) ∨ (f = 3 ∧ t = 0) ∨ (f = 2 ∧ t = 1) ∨ (f = 3 ∧ t = 1) ∨ (f = 3 ∧ t = 2) by omega) with ⟨rfl, rfl⟩ | ⟨rfl, rfl⟩ | ⟨rfl, rfl⟩ | ⟨rfl, rfl⟩ | ⟨rfl, rfl⟩ | ⟨rfl, rfl⟩
  · exact bswp_of (P := X 0) (B := A) (M := B) (Q := X 2 ++ X 3) (by simp [Flat, e]) (by simp [Flat, mvd, e1, e2]) (by simp only [cl_0]) (by simp only [cl_1]; omega) (by simp only [cl_1]; omega)
  · exact bswp_of (P := X 0) (B := X 1 ++ A) (M := B) (Q := X 3) (by simp [Flat, e]) (by simp [Flat, mvd, e1, e2]) (by simp only [cl_0]) (by simp only [cl_2, List.length_append]; omega) (by simp only [cl_2, List.length_append]; omega)
  · exact bswp_of (P := X 0) (B := X 1 ++ (X 2 ++ A)) (M := B) (Q := []) (by simp [Flat, e]) (by simp [Flat, mvd, e1, e2]) (by simp only [cl_0]) (by simp only [cl_3, List.length_append]; omega) (by simp only [cl_3, List.length_append]; omega)
  · exact bswp_of (P := X 0 ++ X 1) (B := A) (M := B) (Q := X 3) (by simp [Flat, e]) (by simp [Flat, mvd, e1, e2]) (by simp only [cl_1, List.length_append]) (by simp only [cl_2, List.length_append]; omega) (by simp only [cl_2, List.length_append]; omega)
  · exact bswp_of (P := X 0 ++ X 1) (B := X 2 ++ A) (M := B) (Q := []) (by simp [Flat, e]) (by simp [Flat, mvd, e1, e2]) (by simp only [cl_1, List.length_append]) (by simp only [cl_3, List.length_append]; omega) (by simp only [cl_3, List.length_append]; omega)
  · exact bswp_of (P := X 0 ++ (X 1 ++ X 2)) (B := A) (M := B) (Q := []) (by simp [Flat, e]) (by simp [Flat, mvd, e1, e2]) (by simp only [cl_2, List.length_append]; omega) (by simp only [cl_3, List.length_append]; omega) (by simp only [cl_3, List.length_append]; omega)
theorem bswp_map (g : Nat → Nat) (i j k : Nat) (l : List Nat) : (bswp i j k l).map g = bswp i j k (l.map g) := by
  unfold bswp
  simp only [List.map_append, List.map_take, List.map_drop]
theorem bswp_no {i j k : Nat} {l : List Nat} (hij : i ≤ j) (hjk : j ≤ k) (h : i = j ∨ j = k) : bswp i j k l = l := by
  unfold bswp
  rcases h with rfl | rfl
  · rw [Nat.sub_self, List.take_zero, List.nil_append]
    have : (l.drop i).take (k - i) ++ l.drop k = l.drop i := by
      rw [show k = i + (k - i) by omega, ← List.drop_drop, Nat.add_sub_cancel_left, List.take_append_drop]
    rw [this, List.take_append_drop]
  · rw [Nat.sub_self, List.take_zero, List.nil_append]
    have : (l.drop i).take (j - i) ++ l.drop j = l.drop i := by
      rw [show j = i + (j - i) by omega, ← List.drop_drop, Nat.add_sub_cancel_left, List.take_append_drop]
    rw [this, List.take_append_drop]
/-! the numbers -/
def nmC (S : SS) (w : Nat) : Nat := (S.1 109 w).toNatClampNeg
/-- numbers of the WAGONS: one to one and onto the first n -/
def NB (S : SS) (n : Nat) : Prop := (∀ w, w < 10 → S.1 109 w = -4 ∨ (nmC S w < n ∧ S.1 109 w = nI (nmC S w))) ∧ (∀ w w', w < 10 → w' < 10 → ¬ S.1 109 w = -4 → S.1 109 w = S.1 109 w' → w = w') ∧ ∀ r, r < n → ∃ w, w < 10 ∧ S.1 109 w = nI r
/-- a way to stand of the numbered WAGONS -/
def Cl (S : SS) (n : Nat) (X : Cf) : Prop := tot X = n ∧ (Flat X).Nodup ∧ (∀ w, w ∈ Flat X → w < 10 ∧ ¬ S.1 109 w = -4) ∧ ∀ s, 4 ≤ s → X s = []
def sqC (S : SS) (X : Cf) : List Nat := (Flat X).map (nmC S)
def shC (n : Nat) (X : Cf) : Nat := shpI n (cl X 0) (cl X 1) (cl X 2)
def rkC (S : SS) (n : Nat) (X : Cf) : Nat := ordN n (sqC S X) * shN n + shC n X
theorem fac_fc {n : Nat} (hn : n ≤ 5) : facN n = fcN n := by
  rcases (show n = 0 ∨ n = 1 ∨ n = 2 ∨ n = 3 ∨ n = 4 ∨ n = 5 by omega) with rfl | rfl | rfl | rfl | rfl | rfl <;> decide
theorem cl_ok {S : SS} {n : Nat} {X : Cf} (h : Cl S n X) : cl X 0 ≤ cl X 1 ∧ cl X 1 ≤ cl X 2 ∧ cl X 2 ≤ n ∧ cl X 3 = n := by
  have := h.1
  unfold tot at this
  rw [cl_0, cl_1, cl_2, cl_3]
  omega
theorem nm_inj {S : SS} {n : Nat} (hb : NB S n) {w w' : Nat} (h : w < 10) (h' : w' < 10) (a : ¬ S.1 109 w = -4) (a' : ¬ S.1 109 w' = -4) (e : nmC S w = nmC S w') : w = w' := by
  refine hb.2.1 w w' h h' a ?_
  rw [((hb.1 w h).resolve_left a).2, ((hb.1 w' h').resolve_left a').2, e]
theorem sq_ok {S : SS} {n : Nat} {X : Cf} (hb : NB S n) (h : Cl S n X) : (sqC S X).length = n ∧ (∀ a, a ∈ sqC S X → a < n) ∧ (sqC S X).Nodup := by
  refine ⟨?_, fun a ha => ?_, ?_⟩
  · unfold sqC
    rw [List.length_map, flat_len]; exact h.1
  · obtain ⟨w, hw, rfl⟩ := List.mem_map.mp ha
    obtain ⟨a1, a2⟩ := h.2.2.1 w hw
    exact ((hb.1 w a1).resolve_left a2).1
  · unfold sqC
    have g : ∀ l : List Nat, l.Nodup → (∀ w, w ∈ l → w < 10 ∧ ¬ S.1 109 w = -4) → (l.map (nmC S)).Nodup := fun l => by
      induction l with
      | nil => intro _ _; exact List.nodup_nil
      | cons a t ih =>
        intro hd hw
        rw [List.nodup_cons] at hd
        rw [List.map_cons, List.nodup_cons]
        refine ⟨fun q => ?_, ih hd.2 (fun w m => hw w (List.mem_cons_of_mem _ m))⟩
        obtain ⟨b, hb', e⟩ := List.mem_map.mp q
        obtain ⟨b1, b2⟩ := hw b (List.mem_cons_of_mem _ hb')
        obtain ⟨c1, c2⟩ := hw a (List.mem_cons_self ..)
        have := nm_inj hb b1 c1 b2 c2 e
        exact hd.1 (this ▸ hb')
    exact g _ h.2.1 h.2.2.1
theorem rk_lt {S : SS} {n : Nat} {X : Cf} (hn : n ≤ 5) (hb : NB S n) (h : Cl S n X) : shC n X < shN n ∧ ordN n (sqC S X) < facN n ∧ rkC S n X < facN n * shN n ∧ rkC S n X / shN n = ordN n (sqC S X) ∧ rkC S n X % shN n = shC n X := by
  obtain ⟨c0, c1, c2, c3⟩ := cl_ok h
  have s1 : shC n X < shN n := (shpI_in hn c0 c1 c2).1
  obtain ⟨q1, q2, q3⟩ := sq_ok hb h
  have o1 := (seq_ord hn q1 q2 q3).2
  have e : rkC S n X = shN n * ordN n (sqC S X) + shC n X := by
    unfold rkC
    rw [Nat.mul_comm]
  refine ⟨s1, o1, ?_, ?_, ?_⟩
  · have : (ordN n (sqC S X) + 1) * shN n ≤ facN n * shN n := Nat.mul_le_mul_right _ o1
    rw [Nat.succ_mul] at this
    unfold rkC
    omega
  · rw [e, Nat.mul_add_div (by omega), Nat.div_eq_of_lt s1, Nat.add_zero]
  · rw [e, Nat.mul_add_mod, Nat.mod_eq_of_lt s1]
/-- one to one -/
theorem rk_inj {S : SS} {n : Nat} {X Y : Cf} (hn : n ≤ 5) (hb : NB S n) (h : Cl S n X) (k : Cl S n Y) (e : rkC S n X = rkC S n Y) : X = Y := by
  obtain ⟨-, -, -, a4, a5⟩ := rk_lt hn hb h
  obtain ⟨-, -, -, b4, b5⟩ := rk_lt hn hb k
  have e1 : ordN n (sqC S X) = ordN n (sqC S Y) := by rw [← a4, ← b4, e]
  have e2 : shC n X = shC n Y := by rw [← a5, ← b5, e]
  obtain ⟨q1, q2, q3⟩ := sq_ok hb h
  obtain ⟨r1, r2, r3⟩ := sq_ok hb k
  have e3 : sqC S X = sqC S Y := by rw [← (seq_ord hn q1 q2 q3).1, e1, (seq_ord hn r1 r2 r3).1]
  obtain ⟨c0, c1, c2, c3⟩ := cl_ok h
  obtain ⟨d0, d1, d2, d3⟩ := cl_ok k
  obtain ⟨f0, f1, f2⟩ := shpI_inj hn c0 c1 c2 d0 d1 d2 e2
  have m : ∀ l l' : List Nat, (∀ w, w ∈ l → w < 10 ∧ ¬ S.1 109 w = -4) → (∀ w, w ∈ l' → w < 10 ∧ ¬ S.1 109 w = -4) → l.map (nmC S) = l'.map (nmC S) → l = l' := fun l => by
    induction l with
    | nil => intro l' _ _ q; cases l' with
      | nil => rfl
      | cons a t => simp at q
    | cons a t ih =>
      intro l' u v q
      cases l' with
      | nil => simp at q
      | cons b t' =>
        rw [List.map_cons, List.map_cons] at q
        injection q with q1 q2
        obtain ⟨u1, u2⟩ := u a (List.mem_cons_self ..)
        obtain ⟨v1, v2⟩ := v b (List.mem_cons_self ..)
        rw [nm_inj hb u1 v1 u2 v2 q1, ih t' (fun w m => u w (List.mem_cons_of_mem _ m)) (fun w m => v w (List.mem_cons_of_mem _ m)) q2]
  have e4 := m _ _ h.2.2.1 k.2.2.1 e3
  rw [cl_0, cl_0] at f0
  rw [cl_1, cl_1] at f1
  rw [cl_2, cl_2] at f2
  rw [unf_flat h.2.2.2, unf_flat k.2.2.2, e4, f0, show (X 1).length = (Y 1).length by omega, show (X 2).length = (Y 2).length by omega]
/-! ===== every rank is the rank of a way to stand ===== -/
def okQ3 (n : Nat) : Bool := (List.range (shpM n)).all (fun s => quads.any (fun q => Nat.beq q.1 n && Nat.ble q.2.1 q.2.2.1 && Nat.ble q.2.2.1 q.2.2.2 && Nat.ble q.2.2.2 n && Nat.beq (shpI n q.2.1 q.2.2.1 q.2.2.2) s))
theorem okQ3_ : (List.range 6).all okQ3 = true := by decide +kernel
theorem shpI_on {n s : Nat} (hn : n ≤ 5) (hs : s < shpM n) : ∃ a b c, a ≤ b ∧ b ≤ c ∧ c ≤ n ∧ shpI n a b c = s := by
  have q := List.all_eq_true.mp okQ3_ n (List.mem_range.mpr (by omega))
  have q := List.all_eq_true.mp q s (List.mem_range.mpr hs)
  obtain ⟨x, -, hx⟩ := List.any_eq_true.mp q
  simp only [Bool.and_eq_true, Nat.ble_eq] at hx
  exact ⟨x.2.1, x.2.2.1, x.2.2.2, hx.1.1.1.2, hx.1.1.2, hx.1.2, Nat.eq_of_beq_eq_true hx.2⟩
theorem flat_unf (a b c : Nat) (l : List Nat) : Flat (cfL (unf a b c l)) = l := by
  show l.take a ++ (l.drop a).take b ++ (l.drop (a + b)).take c ++ l.drop (a + b + c) = l
  rw [← List.drop_drop (l := l) (i := c), List.append_assoc, List.take_append_drop, ← List.drop_drop (l := l) (i := b), List.append_assoc, List.take_append_drop, List.take_append_drop]
noncomputable def nvC (S : SS) (r : Nat) : Nat := @dite Nat (∃ w, w < 10 ∧ S.1 109 w = nI r) (Classical.propDecidable _) (fun h => h.choose) (fun _ => 0)
theorem nvC_ok {S : SS} {n r : Nat} (hn : n ≤ 5) (hb : NB S n) (hr : r < n) : nvC S r < 10 ∧ S.1 109 (nvC S r) = nI r ∧ nmC S (nvC S r) = r := by
  have h := hb.2.2 r hr
  have e : nvC S r = h.choose := by
    unfold nvC
    rw [dif_pos h]
  have s := h.choose_spec
  rw [← e] at s
  refine ⟨s.1, s.2, ?_⟩
  unfold nmC
  rw [s.2, nI_clamp (by omega)]
theorem rk_on {S : SS} {n r : Nat} (hn : n ≤ 5) (hb : NB S n) (hr : r < facN n * shN n) : ∃ X, Cl S n X ∧ rkC S n X = r := by
  have s0 : 0 < shN n := by
    rcases Nat.eq_zero_or_pos (shN n) with c | c
    · rw [c, Nat.mul_zero] at hr; omega
    · exact c
  have ho : r / shN n < facN n := (Nat.div_lt_iff_lt_mul s0).mpr hr
  obtain ⟨a, b, c, h1, h2, h3, h4⟩ := shpI_on hn (show r % shN n < shpM n from Nat.mod_lt _ s0)
  obtain ⟨q1, q2, q3⟩ := seq_nd hn ho
  have os := (ord_seq hn ho).1
  generalize hl : seqN n (r / shN n) = l at q1 q2 q3 os
  have hm : (l.map (nvC S)).map (nmC S) = l := by
    rw [List.map_map]
    have : ∀ t : List Nat, (∀ x, x ∈ t → x < n) → t.map (nmC S ∘ nvC S) = t := fun t => by
      induction t with
      | nil => intro _; rfl
      | cons x t ih =>
        intro h
        rw [List.map_cons, ih (fun y hy => h y (List.mem_cons_of_mem _ hy))]
        show nmC S (nvC S x) :: t = x :: t
        rw [(nvC_ok hn hb (h x (List.mem_cons_self ..))).2.2]
    exact this l q2
  have nd : (l.map (nvC S)).Nodup := by
    have : ∀ t : List Nat, t.Nodup → (∀ x, x ∈ t → x < n) → (t.map (nvC S)).Nodup := fun t => by
      induction t with
      | nil => intro _ _; exact List.nodup_nil
      | cons x t ih =>
        intro hd h
        rw [List.nodup_cons] at hd
        rw [List.map_cons, List.nodup_cons]
        refine ⟨fun q => ?_, ih hd.2 (fun y hy => h y (List.mem_cons_of_mem _ hy))⟩
        obtain ⟨y, hy, e⟩ := List.mem_map.mp q
        have e1 := (nvC_ok hn hb (h x (List.mem_cons_self ..))).2.2
        have e2 := (nvC_ok hn hb (h y (List.mem_cons_of_mem _ hy))).2.2
        rw [e, e1] at e2
        exact hd.1 (e2 ▸ hy)
    exact this l q3 q2
  have ll : (l.map (nvC S)).length = n := by rw [List.length_map]; exact q1
  have z0 : (cfL (unf a (b - a) (c - b) (l.map (nvC S))) 0).length = a := by
    show ((l.map (nvC S)).take a).length = a
    rw [List.length_take]; omega
  have z1 : (cfL (unf a (b - a) (c - b) (l.map (nvC S))) 1).length = b - a := by
    show (((l.map (nvC S)).drop a).take (b - a)).length = b - a
    rw [List.length_take, List.length_drop]; omega
  have z2 : (cfL (unf a (b - a) (c - b) (l.map (nvC S))) 2).length = c - b := by
    show (((l.map (nvC S)).drop (a + (b - a))).take (c - b)).length = c - b
    rw [List.length_take, List.length_drop]; omega
  refine ⟨cfL (unf a (b - a) (c - b) (l.map (nvC S))), ⟨?_, ?_, ?_, ?_⟩, ?_⟩
  · rw [← flat_len, flat_unf]; exact ll
  · rw [flat_unf]; exact nd
  · rw [flat_unf]
    intro w hw
    obtain ⟨x, hx, rfl⟩ := List.mem_map.mp hw
    obtain ⟨e1, e2, -⟩ := nvC_ok hn hb (q2 x hx)
    exact ⟨e1, by rw [e2]; exact nI_m4 (by have := q2 x hx; omega)⟩
  · intro s hs
    exact cfL_far _ _ _ _ hs
  · unfold rkC shC sqC
    rw [flat_unf, hm, os, cl_0, cl_1, cl_2, z0, z1, z2, show a + (b - a) = b by omega, show b + (c - b) = c by omega, h4]
    have := Nat.div_add_mod r (shN n)
    rw [Nat.mul_comm] at this
    exact this
/-- a MOVE keeps it -/
theorem cl_mv {S : SS} {n : Nat} {R : Nat → Nat} {X Z : Cf} (h : Cl S n X) (m : Mv R X Z) : Cl S n Z := by
  have cnt := mv_count m
  refine ⟨by rw [mv_tot m]; exact h.1, ?_, fun w hw => ?_, fun s hs => by rw [mv_far m hs]; exact h.2.2.2 s hs⟩
  · rw [List.nodup_iff_count]
    intro w
    rw [cnt w]
    exact List.nodup_iff_count.mp h.2.1 w
  · refine h.2.2.1 w ?_
    rw [← List.count_pos_iff, ← cnt w]
    exact List.count_pos_iff.mpr hw
/-! ===== rankAfter exactly ===== -/
theorem EN.to {S V T : SS} {rm : Nat → Nat} {n : Nat} (h : EN S rm n V) (a3 : T.1 113 = S.1 113) (a4 : T.1 114 = S.1 114) (b6 : T.1 116 = V.1 116) (b7 : T.1 117 = V.1 117) (b8 : T.1 118 = V.1 118) (b9 : T.1 119 = V.1 119) (e2 : T.2 = S.2) : EN T rm n T := by
  have en' : ∀ sh s, en T sh s = en S sh s := fun sh s => by unfold en; rw [a4]
  have eb' : ∀ sh s, eb T sh s = eb S sh s := fun sh s => by unfold eb; rw [en']
  have hh' : ∀ sh, hh T sh = hh S sh := fun sh => by funext s; unfold hh; rw [en', eb']
  have pS' : ∀ sh, pS T rm sh = pS S rm sh := fun sh => by unfold pS; rw [hh']
  have fe' : ∀ k, feN T rm k = feN S rm k := fun k => by
    induction k with
    | zero => rfl
    | succ k ih => rw [feN_s, feN_s, ih, pS']
  have va' : ∀ sh f t m, vaK T sh f t m = vaK S sh f t m := fun sh f t m => by unfold vaK vaf; simp only [en']
  have sw' : ∀ sh f t m, swX T sh f t m = swX S sh f t m := fun sh f t m => by unfold swX; simp only [en']
  refine ⟨⟨fun _ _ _ _ _ => rfl, rfl⟩, fun k hk => ?_, fun k hk y hy py => ?_⟩
  · rw [b6, fe']; exact h.2.1 k hk
  · rw [pS'] at py ⊢
    rw [fe', b7, b8, b9, va', sw', a3, e2]
    exact h.2.2 k hk y hy py
/-- the tables of shapes and orders -/
def TB (S : SS) (n : Nat) : Prop := Ls n S (shN n) ∧ ∀ o i j k, o < facN n → i < j → j < k → k ≤ n → S.1 115 (20 * o + swN i j k) = nI (ordN n (bswp i j k (seqN n o)))
theorem en_cl {S : SS} {n : Nat} {X : Cf} (hn : n ≤ 5) (ht : TB S n) (h : Cl S n X) : (∀ s, s < 4 → en S (shC n X) s = cl X s) ∧ ∀ s, s < 4 → hh S (shC n X) s = (X s).length := by
  obtain ⟨c0, c1, c2, c3⟩ := cl_ok h
  obtain ⟨l0, l1, l2, l3, -⟩ := ht.1 _ _ _ c0 c1 c2 (shpI_in hn c0 c1 c2).1
  have e0 : en S (shC n X) 0 = cl X 0 := by
    unfold en; rw [show 4 * shC n X + 0 = 4 * shpI n (cl X 0) (cl X 1) (cl X 2) from rfl, l0, nI_clamp (by omega)]
  have e1 : en S (shC n X) 1 = cl X 1 := by
    unfold en; rw [show 4 * shC n X + 1 = 4 * shpI n (cl X 0) (cl X 1) (cl X 2) + 1 from rfl, l1, nI_clamp (by omega)]
  have e2 : en S (shC n X) 2 = cl X 2 := by
    unfold en; rw [show 4 * shC n X + 2 = 4 * shpI n (cl X 0) (cl X 1) (cl X 2) + 2 from rfl, l2, nI_clamp (by omega)]
  have e3 : en S (shC n X) 3 = cl X 3 := by
    unfold en; rw [show 4 * shC n X + 3 = 4 * shpI n (cl X 0) (cl X 1) (cl X 2) + 3 from rfl, l3, nI_clamp (by omega), c3]
  have E : ∀ s, s < 4 → en S (shC n X) s = cl X s := fun s hs => by
    rcases (show s = 0 ∨ s = 1 ∨ s = 2 ∨ s = 3 by omega) with rfl | rfl | rfl | rfl
    · exact e0
    · exact e1
    · exact e2
    · exact e3
  refine ⟨E, fun s hs => ?_⟩
  unfold hh
  rcases (show s = 0 ∨ s = 1 ∨ s = 2 ∨ s = 3 by omega) with rfl | rfl | rfl | rfl
  · show en S (shC n X) 0 - 0 = _
    rw [e0, cl_0]; omega
  · show en S (shC n X) 1 - en S (shC n X) 0 = _
    rw [e0, e1, cl_0, cl_1]; omega
  · show en S (shC n X) 2 - en S (shC n X) 1 = _
    rw [e1, e2, cl_1, cl_2]; omega
  · show en S (shC n X) 3 - en S (shC n X) 2 = _
    rw [e2, e3, cl_2, cl_3]; omega
def mayX (rm : Nat → Nat) (X : Cf) (y : Nat) : Bool := mayB rm (fun s => (X s).length) y
def mvX (y : Nat) (X : Cf) : Cf := mvd (y / 20) (y / 5 % 4) (y % 5 + 1) X
theorem pS_eq {S : SS} {n : Nat} {X : Cf} {rm : Nat → Nat} (hn : n ≤ 5) (ht : TB S n) (h : Cl S n X) {y : Nat} (hy : y < 80) : pS S rm (shC n X) y = mayX rm X y := by
  have e := (en_cl hn ht h).2
  unfold pS mayX mayB
  rw [e (y / 20) (by omega), e (y / 5 % 4) (by omega)]
theorem mayX_mv {rm : Nat → Nat} {X : Cf} {y : Nat} (hy : y < 80) (h : mayX rm X y = true) : y / 20 ≠ y / 5 % 4 ∧ y % 5 + 1 ≤ (X (y / 20)).length ∧ (X (y / 5 % 4)).length + (y % 5 + 1) ≤ rm (y / 5 % 4) ∧ Mv rm X (mvX y X) := by
  unfold mayX mayB at h
  rw [Bool.and_eq_true, Bool.and_eq_true, Bool.not_eq_true', Nat.ble_eq, Nat.ble_eq] at h
  obtain ⟨⟨a, b⟩, c⟩ := h
  have a := Nat.ne_of_beq_eq_false a
  exact ⟨a, b, c, y / 20, y / 5 % 4, y % 5 + 1, by omega, by omega, a, by omega, b, c, rfl⟩
theorem vaf_cl {S : SS} {n : Nat} {X : Cf} (hn : n ≤ 5) (ht : TB S n) (h : Cl S n X) {f t m : Nat} (hf : f < 4) (hT : t < 4) (hft : f ≠ t) (hm : m ≤ (X f).length) : ∀ s, s < 3 → vaf S (shC n X) f t m s = cl (mvd f t m X) s := fun s hs => by
  have e := (en_cl hn ht h).1
  unfold vaf
  rw [e s (by omega)]
  have ml := mvd_len (X := X) hft hm
  rcases (show s = 0 ∨ s = 1 ∨ s = 2 by omega) with rfl | rfl | rfl
  · simp only [cl_0, ml]
    rcases (show f = 0 ∨ f = 1 ∨ f = 2 ∨ f = 3 by omega) with rfl | rfl | rfl | rfl <;> rcases (show t = 0 ∨ t = 1 ∨ t = 2 ∨ t = 3 by omega) with rfl | rfl | rfl | rfl <;> simp at hft ⊢
  · simp only [cl_1, ml]
    rcases (show f = 0 ∨ f = 1 ∨ f = 2 ∨ f = 3 by omega) with rfl | rfl | rfl | rfl <;> rcases (show t = 0 ∨ t = 1 ∨ t = 2 ∨ t = 3 by omega) with rfl | rfl | rfl | rfl <;> simp at hft hm ⊢ <;> omega
  · simp only [cl_2, ml]
    rcases (show f = 0 ∨ f = 1 ∨ f = 2 ∨ f = 3 by omega) with rfl | rfl | rfl | rfl <;> rcases (show t = 0 ∨ t = 1 ∨ t = 2 ∨ t = 3 by omega) with rfl | rfl | rfl | rfl <;> simp at hft hm ⊢ <;> omega
theorem cl_m {X : Cf} : ∀ {s t : Nat}, s ≤ t → cl X s ≤ cl X t
  | s, 0, h => by rw [show s = 0 by omega]; exact Nat.le_refl _
  | s, t + 1, h => by
    by_cases c : s = t + 1
    · rw [c]; exact Nat.le_refl _
    · exact Nat.le_trans (cl_m (t := t) (by omega)) (Nat.le_add_right _ _)
theorem cl_len {X : Cf} : ∀ s, (X s).length ≤ cl X s
  | 0 => Nat.le_refl _
  | s + 1 => Nat.le_add_left _ _
theorem cl_gap {X : Cf} {s f : Nat} (h : s < f) : cl X s + (X f).length ≤ cl X f := by
  obtain ⟨f, rfl⟩ : ∃ g, f = g + 1 := ⟨f - 1, by omega⟩
  have := cl_m (X := X) (show s ≤ f by omega)
  show _ ≤ cl X f + (X (f + 1)).length
  omega
/-- what the swap of an entry does to the order -/
theorem sw_ord {S : SS} {n : Nat} {X : Cf} (hn : n ≤ 5) (ht : TB S n) (hb : NB S n) (h : Cl S n X) {f t m : Nat} (hf : f < 4) (hT : t < 4) (hft : f ≠ t) (h1 : 1 ≤ m) (hm : m ≤ (X f).length) : (swX S (shC n X) f t m = -4 ∧ ordN n (sqC S (mvd f t m X)) = ordN n (sqC S X)) ∨ ∃ v, v < 20 ∧ swX S (shC n X) f t m = nI v ∧ S.1 115 (20 * ordN n (sqC S X) + v) = nI (ordN n (sqC S (mvd f t m X))) := by
  have e := (en_cl hn ht h).1
  obtain ⟨c0, c1, c2, c3⟩ := cl_ok h
  obtain ⟨q1, q2, q3⟩ := sq_ok hb h
  obtain ⟨so, ol⟩ := seq_ord hn q1 q2 q3
  have lf := cl_len (X := X) f
  have nf : cl X f ≤ n := by have := cl_m (X := X) (show f ≤ 3 by omega); omega
  have nt : cl X t ≤ n := by have := cl_m (X := X) (show t ≤ 3 by omega); omega
  unfold swX
  rw [e f hf, e t hT]
  have key : ∀ i j k, i ≤ j → j ≤ k → k ≤ n → Flat (mvd f t m X) = bswp i j k (Flat X) → (swv i j k = -4 ∧ ordN n (sqC S (mvd f t m X)) = ordN n (sqC S X)) ∨ ∃ v, v < 20 ∧ swv i j k = nI v ∧ S.1 115 (20 * ordN n (sqC S X) + v) = nI (ordN n (sqC S (mvd f t m X))) := fun i j k hij hjk hk ef => by
    have es : sqC S (mvd f t m X) = bswp i j k (sqC S X) := by
      unfold sqC
      rw [ef, bswp_map]
    unfold swv
    by_cases c : i < j ∧ j < k
    · rw [if_pos c]
      refine Or.inr ⟨swN i j k, (sw_all ⟨i, by omega⟩ ⟨j, by omega⟩ ⟨k, by omega⟩ c.1 c.2).2, rfl, ?_⟩
      rw [ht.2 _ i j k ol c.1 c.2 hk, so, es]
    · rw [if_neg c]
      refine Or.inl ⟨rfl, ?_⟩
      rw [es, bswp_no hij hjk (by omega)]
  by_cases c : t ≤ f
  · rw [if_pos c]
    have g := cl_gap (X := X) (show t < f by omega)
    exact key _ _ _ (by omega) (by omega) nf (fl_dn hf (by omega) hm)
  · rw [if_neg c]
    have g := cl_m (X := X) (show f ≤ t by omega)
    exact key _ _ _ (by omega) g nt (fl_up (by omega) hT hm)
theorem isr_t {S : SS} {n W a : Nat} (hw : QW S n W) (ha : a < facN n * shN n) : f_Potentials_isRank (nI a) S = some (1, S) := by
  have q := qn hw.1 hw.2.1
  rw [fac_fc (by have := hw.1; have := hw.2.1; omega)] at ha
  rw [f_Potentials_isRank.eq_1, if_neg (nI_nn (by omega)), hw.2.2.2.1, hw.2.2.2.2.1, nI_mul, if_neg (nI_ge ha (by omega))]
set_option maxHeartbeats 1000000 in
/-- RANKAFTER EXACTLY -/
theorem raf {S T : SS} {n W y : Nat} {rm : Nat → Nat} {X : Cf} {r : Int32} (hw : QW S n W) (ht : TB S n) (hb : NB S n) (he : EN S rm n S) (hX : Cl S n X) (hy : y < 80) (hm : mayX rm X y = true) (h : f_Potentials_rankAfter (nI (rkC S n X)) (nI (feN S rm (shC n X) + ctB (pS S rm (shC n X)) y)) S = some (r, T)) : T = S ∧ r = nI (rkC S n (mvX y X)) := by
  have hn : n ≤ 5 := by have := hw.1; have := hw.2.1; omega
  have q := qn hw.1 hw.2.1
  obtain ⟨k1, k2, k3, k4, k5⟩ := rk_lt hn hb hX
  obtain ⟨m1, m2, m3, m4⟩ := mayX_mv hy hm
  have hZ : Cl S n (mvX y X) := cl_mv hX m4
  obtain ⟨z1, z2, z3, z4, z5⟩ := rk_lt hn hb hZ
  obtain ⟨e7, e8, e9, eb⟩ := he.2.2 (shC n X) k1 y hy (by rw [pS_eq hn ht hX hy]; exact hm)
  have fl := feN_le S rm (shC n X)
  have cl' := ctB_le (pS S rm (shC n X)) y
  generalize feN S rm (shC n X) + ctB (pS S rm (shC n X)) y = E at h e7 e8 e9 eb
  have l7 : S.2 117 ≤ 840 := by rw [hw.2.2.2.2.2.2.2.2.1]; omega
  have f5 := fac_fc hn
  have k3' : rkC S n X < 6720 := by rw [f5] at k3; omega
  rw [f_Potentials_rankAfter.eq_1, isr_t hw k3, bnd_r, if_neg (by decide), if_neg (nI_nn (by omega)), if_pos (show nI E < Int32.ofNat (S.2 117) from (nI_ltJ (by omega) (by omega)).mpr eb)] at h
  replace h := (grd_i h).2
  rw [nmR, hw.2.2.2.2.1, nI_div (by omega) (by omega) (by omega), k4] at h
  replace h := (grd_i h).2
  rw [nmR, nI_clamp (n := E) (by omega), e9] at h
  have nx : S.1 113 (vaK S (shC n X) (y / 20) (y / 5 % 4) (y % 5 + 1)) = nI (shC n (mvX y X)) := by
    have v := vaf_cl hn ht hX (f := y / 20) (t := y / 5 % 4) (m := y % 5 + 1) (by omega) (by omega) m1 m2
    unfold vaK
    rw [v 0 (by omega), v 1 (by omega), v 2 (by omega)]
    obtain ⟨c0, c1, c2, c3⟩ := cl_ok hZ
    exact (ht.1 _ _ _ c0 c1 c2 (shpI_in hn c0 c1 c2).1).2.2.2.2
  have fin : ∀ o, f_Potentials_rankAfter_j62 (nI E) (nI o) S = some (r, T) → T = S ∧ r = nI (o * shN n + shC n (mvX y X)) := fun o ho => by
    rw [f_Potentials_rankAfter_j62.eq_1] at ho
    replace ho := (grd_i ho).2
    rw [nI_clamp (n := E) (by omega), e8, nx, hw.2.2.2.2.1, nI_mul, nI_add] at ho
    obtain ⟨a, b⟩ := so_i ho
    exact ⟨b, a⟩
  rcases sw_ord hn ht hb hX (f := y / 20) (t := y / 5 % 4) (m := y % 5 + 1) (by omega) (by omega) m1 (by omega) m2 with ⟨s1, s2⟩ | ⟨v, v1, v2, v3⟩
  · rw [s1, if_pos rfl] at h
    obtain ⟨a, b⟩ := fin _ h
    refine ⟨a, ?_⟩
    rw [b]
    unfold rkC
    rw [show sqC S (mvX y X) = sqC S (mvd (y / 20) (y / 5 % 4) (y % 5 + 1) X) from rfl, s2]
  · rw [v2, if_neg (nI_m4 (by omega)), show (20 : Int32) * nI (ordN n (sqC S X)) = nI (20 * ordN n (sqC S X)) from nI_mul 20 _, nI_add] at h
    replace h := (grd_i h).2
    rw [nI_clamp (by omega), v3] at h
    exact fin _ h
/-! ===== takeWagons exactly ===== -/
theorem gw_row (S : SS) (t n : Nat) {a : Nat} (h : a ≠ t) : (gw S t n).1 a = S.1 a := by
  funext b
  show (if a = t then (fun _ => 0) else S.1 a) b = _
  rw [if_neg h]
theorem gwr_r {ρ : Type} (S : SS) (t n : Nat) (g : SS → Option ρ) : gwr S t n g = g (gw S t n) := rfl
theorem grw {S U : SS} (h : f_Potentials_growRows S = some U) : ∀ q, (q < 114 ∨ 121 < q) → U.1 q = S.1 q := by
  rw [f_Potentials_growRows.eq_1] at h
  by_cases c : Int32.ofNat (S.2 120) < S.1 71 6 * S.1 71 7
  · rw [if_pos c] at h
    replace h := (grd_i h).2
    replace h := (grd_i h).2
    rw [gwr_r] at h
    replace h := (grd_i h).2
    rw [gwr_r] at h
    replace h := (grd_i h).2
    rw [gwr_r] at h
    replace h := (grd_i h).2
    rw [gwr_r] at h
    replace h := (grd_i h).2
    rw [gwr_r, nmR] at h
    replace h := (grd_i h).2
    rw [gwr_r] at h
    replace h := (grd_i h).2
    rw [gwr_r] at h
    replace h := (grd_i h).2
    rw [gwr_r] at h
    injection h with h
    intro q hq
    rw [← h, gw_row _ _ _ (by omega), gw_row _ _ _ (by omega), gw_row _ _ _ (by omega), gw_row _ _ _ (by omega), gw_row _ _ _ (by omega), gw_row _ _ _ (by omega), gw_row _ _ _ (by omega), gw_row _ _ _ (by omega)]
  · rw [if_neg c] at h
    injection h with h
    intro q _
    rw [h]
theorem grg {S U : SS} (h : f_Potentials_growRows S = some U) (c : Int32.ofNat (S.2 120) < S.1 71 6 * S.1 71 7) : S.2 200 = 1 := by
  rw [f_Potentials_growRows.eq_1, if_pos c] at h
  exact of_decide_eq_true (grd_i h).1
theorem TB.cg {S T : SS} {n : Nat} (h : TB S n) (a3 : T.1 113 = S.1 113) (a4 : T.1 114 = S.1 114) (a5 : T.1 115 = S.1 115) : TB T n := by
  obtain ⟨h1, h2⟩ := h
  refine ⟨fun a b c x y z w => ?_, fun o i j k a b c d => ?_⟩
  · rw [a3, a4]; exact h1 a b c x y z w
  · rw [a5]; exact h2 o i j k a b c d
theorem tw122 {n : Nat} {V : SS} (hn : n ≤ 5) : ∀ (N x : Nat) (T : SS), T.1 71 5 = nI n → T.1 71 7 = nI (shN n) → T.1 71 6 = nI (fcN (x - 1)) → 2 ≤ x → (x = 2 ∨ x ≤ n + 1) → f_Potentials_takeWagons_L122 N (nI x) T = some V → TB V n ∧ V.1 109 = T.1 109 ∧ V.1 71 5 = nI n ∧ (T.2 120 < fcN n * shN n → T.2 200 = 1)
  | 0, x, T, _, _, _, _, _, h => by cases h
  | N + 1, x, T, h5, h7, h6, hx, hxn, h => by
    rw [f_Potentials_takeWagons_L122.eq_2, h5] at h
    by_cases c : n < x
    · have t6 : T.1 71 6 = nI (facN n) := by
        rw [h6, fac_fc hn]
        by_cases c1 : x - 1 = n
        · rw [c1]
        · have a1 : x = 2 := by omega
          have a2 : n = 0 := by omega
          subst a1 a2
          rfl
      rw [if_pos ((nI_ltJ (by omega) (by omega)).mpr c)] at h
      obtain ⟨S4, g4, h⟩ := bndv_i h
      have r4 := grw g4
      obtain ⟨S5, g5, h⟩ := bndv_i h
      have r71 := r4 71 (Or.inl (by omega))
      obtain ⟨l1, l2⟩ := lsh hn (by rw [r71]; exact h5) g5
      obtain ⟨S6, g6, h⟩ := bndv_i h
      have q71 := l2 71 (by decide) (by decide)
      obtain ⟨o1, o2⟩ := lst hn (by rw [q71, r71]; exact h5) (by rw [q71, r71]; exact t6) g6
      injection h with h
      subst h
      refine ⟨⟨fun a b c x y z w => ?_, o1⟩, ?_, ?_, fun lt => ?_⟩
      · rw [o2 113 (by decide) (by decide) (by decide) (by decide), o2 114 (by decide) (by decide) (by decide) (by decide)]
        exact l1 a b c x y z w
      · rw [o2 109 (by decide) (by decide) (by decide) (by decide), l2 109 (by decide) (by decide), r4 109 (Or.inl (by omega))]
      · rw [o2 71 (by decide) (by decide) (by decide) (by decide), q71, r71]; exact h5
      · have q := qn (Nat.le_refl n) hn
        refine grg g4 ?_
        rw [t6, h7, fac_fc hn, nI_mul]
        exact (nI_ltJ (by omega) (by omega)).mpr lt
    · rw [if_neg (fun z => c ((nI_ltJ (by omega) (by omega)).mp z)), wr_r, nmR, nI_1] at h
      obtain ⟨a1, a2, a3, a4⟩ := tw122 hn N (x + 1) (st T 71 6 (T.1 71 6 * nI x)) (by rw [st_at, if_pos rfl, if_neg (by decide)]; exact h5) (by rw [st_at, if_pos rfl, if_neg (by decide)]; exact h7) (by
        rw [st_at, if_pos rfl, if_pos rfl, h6]
        exact fcI ⟨x, by omega⟩ hx) (by omega) (by omega) h
      exact ⟨a1, by rw [a2, st_row _ _ _ _ (by decide)], a3, a4⟩
theorem tw83 {n : Nat} {S V : SS} (hn : n ≤ 5) (h : f_Potentials_takeWagons_j83 (nI n) S = some V) : TB V n ∧ V.1 109 = S.1 109 ∧ V.1 71 5 = nI n ∧ (S.2 120 < fcN n * shN n → S.2 200 = 1) := by
  rw [f_Potentials_takeWagons_j83.eq_1, wr_r, wr_r, wr_r] at h
  obtain ⟨a1, a2, a3, a4⟩ := tw122 hn NF 2 _ (by rw [st_at, if_pos rfl, if_neg (by decide), st_at, if_pos rfl, if_neg (by decide), st_at, if_pos rfl, if_pos rfl]) (by
    rw [st_at, if_pos rfl, if_neg (by decide), st_at, if_pos rfl, if_pos rfl, st_at, if_pos rfl, if_pos rfl]
    exact shI ⟨n, by omega⟩) (by rw [st_at, if_pos rfl, if_pos rfl]; rfl) (by omega) (Or.inl rfl) h
  exact ⟨a1, by rw [a2, st_row _ _ _ _ (by decide), st_row _ _ _ _ (by decide), st_row _ _ _ _ (by decide)], a3, a4⟩
def hit (a : Int32) (w : Nat) : Prop := ((a >>> (nI w &&& 31)) &&& (1 : Int32)) = 1 ∧ nb a w < 5
theorem nb_t {a : Int32} {w : Nat} (h : hit a w) : nb a (w + 1) = nb a w + 1 := if_pos h
theorem nb_f {a : Int32} {w : Nat} (h : ¬ hit a w) : nb a (w + 1) = nb a w := if_neg h
theorem nb_m (a : Int32) {i : Nat} : ∀ {j : Nat}, i ≤ j → nb a i ≤ nb a j
  | 0, h => by rw [show i = 0 by omega]; exact Nat.le_refl _
  | j + 1, h => by
    by_cases c : i = j + 1
    · rw [c]; exact Nat.le_refl _
    · have := nb_m a (j := j) (show i ≤ j by omega)
      by_cases d : hit a j
      · rw [nb_t d]; omega
      · rw [nb_f d]; exact this
/-- what takeWagons writes -/
def Tv (a : Int32) (T : SS) (w : Nat) : Prop := (hit a w → T.1 109 w = nI (nb a w)) ∧ (¬ hit a w → T.1 109 w = -4)
def TT (S : SS) : Prop := ∀ n, n ≤ 5 → S.1 71 5 = nI n → ¬ S.1 71 7 ≤ 0 → TB S n
/-- rows that must grow may -/
def GD (a : Int32) (T : SS) : Prop := T.2 120 < fcN (nb a 10) * shN (nb a 10) → (¬ T.1 71 7 ≤ 0 → ¬ T.1 71 5 = nI (nb a 10)) → T.2 200 = 1
theorem tw4 {a : Int32} {V : SS} : ∀ (N i : Nat) (T : SS), i ≤ 10 → (∀ w, w < i → Tv a T w) → (∃ n, n ≤ 5 ∧ T.1 71 5 = nI n) → TT T → f_Potentials_takeWagons_L4 N a (nI (nb a i)) (nI i) T = some V → (TB V (nb a 10) ∧ V.1 71 5 = nI (nb a 10) ∧ ∀ w, w < 10 → Tv a V w) ∧ GD a T
  | 0, i, T, _, _, _, _, h => by cases h
  | N + 1, i, T, hi, hv, h5, ht, h => by
    rw [f_Potentials_takeWagons_L4.eq_2] at h
    by_cases c : i = 10
    · subst c
      rw [if_pos (by decide)] at h
      have n5 := nb_le a 10
      have fin : f_Potentials_takeWagons_j83 (nI (nb a 10)) T = some V → (TB V (nb a 10) ∧ V.1 71 5 = nI (nb a 10) ∧ ∀ w, w < 10 → Tv a V w) ∧ GD a T := fun h => by
        obtain ⟨a1, a2, a3, a4⟩ := tw83 n5 h
        refine ⟨⟨a1, a3, fun w hw => ?_⟩, fun l _ => a4 l⟩
        unfold Tv
        rw [a2]
        exact hv w hw
      by_cases c7 : T.1 71 7 ≤ 0
      · rw [if_pos c7] at h
        exact fin h
      · rw [if_neg c7] at h
        by_cases c5 : nI (nb a 10) = T.1 71 5
        · rw [if_pos c5] at h
          injection h with h
          subst h
          exact ⟨⟨ht _ n5 c5.symm c7, c5.symm, hv⟩, fun _ k => absurd c5.symm (k c7)⟩
        · rw [if_neg c5] at h
          exact fin h
    · rw [if_neg (k_ge (k := 10) 10 rfl (by omega) (by omega))] at h
      have next : ∀ v : Int32, (hit a i → v = nI (nb a i)) → (¬ hit a i → v = -4) → f_Potentials_takeWagons_L4 N a (nI (nb a (i + 1))) (nI (i + 1)) (st T 109 i v) = some V → (TB V (nb a 10) ∧ V.1 71 5 = nI (nb a 10) ∧ ∀ w, w < 10 → Tv a V w) ∧ GD a T := fun v v1 v2 h => by
        have r : ∀ q, q ≠ 109 → (st T 109 i v).1 q = T.1 q := fun q hq => st_row _ _ _ _ hq
        have g := tw4 N (i + 1) (st T 109 i v) (by omega) (fun w hw => by
          unfold Tv
          rw [st_at, if_pos rfl]
          by_cases cw : w = i
          · subst cw
            rw [if_pos rfl]
            exact ⟨v1, v2⟩
          · rw [if_neg cw]
            exact hv w (by omega)) (by rw [r 71 (by decide)]; exact h5) (fun n n5 e5 e7 => by
          rw [r 71 (by decide)] at e5 e7
          exact (ht n n5 e5 e7).cg (r 113 (by decide)) (r 114 (by decide)) (r 115 (by decide))) h
        refine ⟨g.1, fun l k => g.2 l ?_⟩
        rw [r 71 (by decide)]
        exact k
      have no : ¬ hit a i → f_Potentials_takeWagons_j28 (fun v0 v1 v2 S => f_Potentials_takeWagons_L4 N v0 v1 v2 S) a (nI (nb a i)) (nI i) T = some V → (TB V (nb a 10) ∧ V.1 71 5 = nI (nb a 10) ∧ ∀ w, w < 10 → Tv a V w) ∧ GD a T := fun hn h => by
        rw [f_Potentials_takeWagons_j28.eq_1, f_Potentials_takeWagons_j29.eq_1, if_pos rfl, f_Potentials_takeWagons_j47.eq_1] at h
        replace h := (grd_i h).2
        rw [wr_r, if_pos rfl, f_Potentials_takeWagons_j59.eq_1, nmR, nmR, Int32.add_zero, nI_1, nI_clamp (n := i) (by omega)] at h
        exact next (-4) (fun q => absurd q hn) (fun _ => rfl) (by rw [nb_f hn]; exact h)
      by_cases b : ((a >>> (nI i &&& 31)) &&& (1 : Int32)) = 1
      · rw [if_pos b] at h
        by_cases l : nb a i < 5
        · rw [if_neg (k_ge (k := 5) 5 rfl l (by omega)), f_Potentials_takeWagons_j29.eq_1, if_neg (by decide), f_Potentials_takeWagons_j47.eq_1] at h
          replace h := (grd_i h).2
          rw [wr_r, if_neg (by decide), f_Potentials_takeWagons_j59.eq_1, nmR, nmR, nI_1, nI_1, nI_clamp (n := i) (by omega)] at h
          have hh : hit a i := ⟨b, l⟩
          exact next _ (fun _ => rfl) (fun q => absurd hh q) (by rw [nb_t hh]; exact h)
        · rw [if_pos (k_le (k := 5) 5 rfl (by omega) (by have := nb_le a i; omega))] at h
          exact no (fun q => l q.2) h
      · rw [if_neg b] at h
        exact no (fun q => b q.1) h
theorem twe {a : Int32} {S V : SS} (h5 : ∃ n, n ≤ 5 ∧ S.1 71 5 = nI n) (ht : TT S) (h : f_Potentials_takeWagons a S = some V) : (TB V (nb a 10) ∧ V.1 71 5 = nI (nb a 10) ∧ ∀ w, w < 10 → Tv a V w) ∧ GD a S := by
  rw [f_Potentials_takeWagons.eq_1] at h
  exact tw4 NF 0 S (by omega) (fun w hw => absurd hw (by omega)) h5 ht h
theorem nb_on (a : Int32) : ∀ (i r : Nat), r < nb a i → ∃ w, w < i ∧ hit a w ∧ nb a w = r
  | 0, r, h => absurd h (Nat.not_lt_zero _)
  | i + 1, r, h => by
    by_cases c : hit a i
    · rw [nb_t c] at h
      by_cases d : r = nb a i
      · exact ⟨i, by omega, c, d.symm⟩
      · obtain ⟨w, w1, w2, w3⟩ := nb_on a i r (by omega)
        exact ⟨w, by omega, w2, w3⟩
    · rw [nb_f c] at h
      obtain ⟨w, w1, w2, w3⟩ := nb_on a i r h
      exact ⟨w, by omega, w2, w3⟩
theorem nb_of {a : Int32} {V : SS} (h : ∀ w, w < 10 → Tv a V w) : NB V (nb a 10) := by
  have n5 : ∀ w, nb a w ≤ 5 := nb_le a
  have yes : ∀ w, w < 10 → ¬ V.1 109 w = -4 → hit a w := fun w hw q => Classical.byContradiction fun c => q ((h w hw).2 c)
  refine ⟨fun w hw => ?_, fun w w' hw hw' q e => ?_, fun r hr => ?_⟩
  · by_cases c : hit a w
    · refine Or.inr ?_
      have e := (h w hw).1 c
      have e' : nmC V w = nb a w := by
        unfold nmC
        rw [e, nI_clamp (by have := n5 w; omega)]
      rw [e']
      have := nb_m a (show w + 1 ≤ 10 by omega)
      rw [nb_t c] at this
      exact ⟨by omega, e⟩
    · exact Or.inl ((h w hw).2 c)
  · have c := yes w hw q
    have c' := yes w' hw' (fun z => q (e.trans z))
    rw [(h w hw).1 c, (h w' hw').1 c'] at e
    have e := nI_inj (by have := n5 w; omega) (by have := n5 w'; omega) e
    rcases Nat.lt_trichotomy w w' with d | d | d
    · have := nb_m a (show w + 1 ≤ w' by omega)
      rw [nb_t c] at this
      omega
    · exact d
    · have := nb_m a (show w' + 1 ≤ w by omega)
      rw [nb_t c'] at this
      omega
  · obtain ⟨w, w1, w2, w3⟩ := nb_on a 10 r hr
    exact ⟨w, w1, by rw [(h w w1).1 w2, w3]⟩
/-! with at most five bits, all count -/
def bcN (m : Nat) : Nat → Nat
  | 0 => 0
  | i + 1 => bcN m i + (if m.testBit i = true then 1 else 0)
theorem bc_pc : ∀ m : Fin 1024, bcN m.1 10 = pcN 10 m.1 := by decide +kernel
theorem bcN_m (m : Nat) {i : Nat} : ∀ {j : Nat}, i ≤ j → bcN m i ≤ bcN m j
  | 0, h => by rw [show i = 0 by omega]; exact Nat.le_refl _
  | j + 1, h => by
    by_cases c : i = j + 1
    · rw [c]; exact Nat.le_refl _
    · exact Nat.le_trans (bcN_m m (j := j) (by omega)) (Nat.le_add_right _ _)
theorem bt_n {w m : Nat} (hw : w < 10) (hm : m < 1024) : (((nI m >>> (nI w &&& 31)) &&& (1 : Int32)) = 1) ↔ m.testBit w = true := bt_all ⟨w, hw⟩ ⟨m, hm⟩
theorem nb_bc {m : Nat} (hm : m < 1024) (h5 : pcN 10 m ≤ 5) : ∀ i, i ≤ 10 → nb (nI m) i = bcN m i
  | 0, _ => rfl
  | i + 1, hi => by
    have ih := nb_bc hm h5 i (by omega)
    have p := bc_pc ⟨m, hm⟩
    simp only at p
    by_cases c : m.testBit i = true
    · have e : bcN m (i + 1) = bcN m i + 1 := by
        show bcN m i + (if m.testBit i = true then 1 else 0) = _
        rw [if_pos c]
      have := bcN_m m (show i + 1 ≤ 10 by omega)
      rw [nb_t ⟨(bt_n (by omega) hm).mpr c, by omega⟩, ih, e]
    · have e : bcN m (i + 1) = bcN m i := by
        show bcN m i + (if m.testBit i = true then 1 else 0) = _
        rw [if_neg c]; omega
      rw [nb_f (fun q => c ((bt_n (by omega) hm).mp q.1)), ih, e]
theorem hit_bit {m w : Nat} (hm : m < 1024) (h5 : pcN 10 m ≤ 5) (hw : w < 10) : hit (nI m) w ↔ m.testBit w = true := by
  refine ⟨fun q => (bt_n hw hm).mp q.1, fun c => ⟨(bt_n hw hm).mpr c, ?_⟩⟩
  have p := bc_pc ⟨m, hm⟩
  simp only at p
  have e : bcN m (w + 1) = bcN m w + 1 := by
    show bcN m w + (if m.testBit w = true then 1 else 0) = _
    rw [if_pos c]
  have := bcN_m m (show w + 1 ≤ 10 by omega)
  rw [nb_bc hm h5 w (by omega)]
  omega
/-! ===== rankOf exactly ===== -/
theorem cpx_row (S : SS) (k0 k1 a d n : Nat) {q : Nat} (h : q ≠ k1) : (cp S k0 k1 a d n).1 q = S.1 q := by
  unfold cp
  funext b
  show (if q = k1 then _ else S.1 q) b = _
  rw [if_neg h]
/-- the rows o and h of a row of STACKS, laid where the reference has its own -/
def gX (S : SS) (o h : Nat) : SS := cp (cp S o 57 0 0 40) h 58 0 0 4
theorem gX_58 {S : SS} {o h : Nat} (hh : h ≠ 57) {s : Nat} (hs : s < 4) : (gX S o h).1 58 s = S.1 h s := by
  unfold gX
  rw [cp_v rfl s, if_pos ⟨by omega, by omega⟩, cpx_row _ _ _ _ _ _ hh]
  exact congrArg (S.1 h) (by omega)
theorem gX_57 {S : SS} {o h : Nat} {i : Nat} (hi : i < 40) : (gX S o h).1 57 i = S.1 o i := by
  unfold gX
  rw [cpx_row _ _ _ _ _ _ (by decide), cp_v rfl i, if_pos ⟨by omega, by omega⟩]
  exact congrArg (S.1 o) (by omega)
theorem gX_m {S : SS} {o h : Nat} (hh : h ≠ 57) {s : Nat} (hs : s < 4) : mN (gX S o h) s = (S.1 h s).toNatClampNeg := by
  unfold mN
  rw [gX_58 hh hs]
def cfG (S : SS) : Cf := cfS (gX S 124 125)
def cfT (S : SS) : Cf := cfS (gX S 122 123)
def cfW (S : SS) : Cf := cfS (gX S 126 127)
theorem off_cl {B : SS} (s : Nat) (hs : s < 4) : cl (cfS B) s = off B (s + 1) := by
  have l := fun s hs => cfS_len (S := B) (s := s) hs
  have o0 : off B 0 = 0 := rfl
  have o1 : off B 1 = off B 0 + mN B 0 := rfl
  have o2 : off B 2 = off B 1 + mN B 1 := rfl
  have o3 : off B 3 = off B 2 + mN B 2 := rfl
  have o4 : off B 4 = off B 3 + mN B 3 := rfl
  rcases (show s = 0 ∨ s = 1 ∨ s = 2 ∨ s = 3 by omega) with rfl | rfl | rfl | rfl
  · rw [cl_0, l 0 (by omega)]; show _ = off B 1; omega
  · rw [cl_1, l 0 (by omega), l 1 (by omega)]; show _ = off B 2; omega
  · rw [cl_2, l 0 (by omega), l 1 (by omega), l 2 (by omega)]; show _ = off B 3; omega
  · rw [cl_3, l 0 (by omega), l 1 (by omega), l 2 (by omega), l 3 (by omega)]; show _ = off B 4; omega
theorem offm {B : SS} {s : Nat} : ∀ {t : Nat}, s ≤ t → off B s ≤ off B t
  | 0, h => by rw [show s = 0 by omega]; exact Nat.le_refl _
  | t + 1, h => by
    by_cases c : s = t + 1
    · rw [c]; exact Nat.le_refl _
    · exact Nat.le_trans (offm (t := t) (by omega)) (Nat.le_add_right _ _)
/-- what rankOf has read -/
def Rd1 (S : SS) (l : List Nat) (T : SS) (k : Nat) : Prop := ∀ j w, j < k → l[j]? = some w → w < 10 ∧ ¬ S.1 109 w = -4 ∧ T.1 110 j = nI (nmC S w)
def kyN (key s e : Nat) : Nat := if s < 3 then 6 * key + e else key
theorem he_goal {S : SS} {s : Nat} (hs : s < 4) : f_Stacks_height_goal (nI s) S = some (S.1 125 s, S) := by
  rw [f_Stacks_height_goal.eq_1, if_neg (nI_nn (by omega)), if_neg (k_ge (k := 4) 4 rfl hs (by omega)), inb_nI hs (by omega), nI_clamp (n := s) (by omega)]
  rfl
theorem h9_goal {S : SS} (h9 : ∀ i, rg (S.1 124 i) 0 9) (i : Nat) : ∃ w, w < 10 ∧ S.1 124 i = nI w ∧ (S.1 124 i).toNatClampNeg = w := by
  obtain ⟨j, hj, h1, h2, h3⟩ := rg_ex (h9 i) (by omega)
  exact ⟨j, by omega, hj, by rw [hj, nI_clamp h3]⟩
set_option maxHeartbeats 1000000 in
theorem ro16_goal {S V : SS} {K : Int32 → Int32 → Int32 → SS → Option (Int32 × SS)} {n s key : Nat} {r : Int32} (hW : WR S) (hn : n ≤ 5) (h5 : S.1 71 5 = nI n) (hb : NB S n) (h9 : ∀ i, rg (S.1 124 i) 0 9) (hs : s < 4) : ∀ (N i : Nat) (T : SS), i ≤ mN (gX S 124 125) s → off (gX S 124 125) s + i ≤ n → (∀ q, q ≠ 110 → T.1 q = S.1 q) → Rd1 S (Flat (cfG S)) T (off (gX S 124 125) s + i) → f_Potentials_rankOf_goal_L16 K N (nI (off (gX S 124 125) s + i)) (nI key) (nI s) (nI i) T = some (r, V) → ((∀ q, q ≠ 110 → V.1 q = S.1 q) ∧ r = -4 ∧ ¬ Cl S n (cfG S)) ∨ ∃ T', (∀ q, q ≠ 110 → T'.1 q = S.1 q) ∧ off (gX S 124 125) (s + 1) ≤ n ∧ Rd1 S (Flat (cfG S)) T' (off (gX S 124 125) (s + 1)) ∧ K (nI (off (gX S 124 125) (s + 1))) (nI (kyN key s (off (gX S 124 125) (s + 1)))) (nI (s + 1)) T' = some (r, V)
  | 0, i, T, _, _, _, _, h => by cases h
  | N + 1, i, T, hi, hle, hT, hR, h => by
    have m10 : mN (gX S 124 125) s ≤ 10 ∧ S.1 125 s = nI (mN (gX S 124 125) s) := by
      obtain ⟨j, hj, h1, h2, h3⟩ := rg_ex (ro_125 hW s) (by omega)
      rw [gX_m (by decide) hs, hj, nI_clamp h3]
      exact ⟨by omega, rfl⟩
    rw [f_Potentials_rankOf_goal_L16.eq_2, he_goal hs, bnd_r, hT 125 (by decide), m10.2] at h
    by_cases c : i = mN (gX S 124 125) s
    · have eo : off (gX S 124 125) s + i = off (gX S 124 125) (s + 1) := by rw [c]; rfl
      rw [if_pos (nI_le (by omega) (by omega)), eo] at h
      rw [eo] at hR hle
      refine Or.inr ⟨T, hT, hle, hR, ?_⟩
      rw [f_Potentials_keyWith.eq_1] at h
      unfold kyN
      by_cases c3 : s < 3
      · rw [if_neg (k_ge (k := 3) 3 rfl c3 (by omega)), bnd_r, nmR, nI_1, show (6 : Int32) * nI key = nI (6 * key) from nI_mul 6 key, nI_add] at h
        rw [if_pos c3]
        exact h
      · rw [if_pos (k_le (k := 3) 3 rfl (by omega) (by omega)), bnd_r, nmR, nI_1] at h
        rw [if_neg c3]
        exact h
    · have hi' : i < mN (gX S 124 125) s := by omega
      rw [if_neg (nI_ge hi' (by omega)), wa_goal hs (by rw [hT 125 (by decide)]; exact m10.2) m10.1 hi', bnd_r, hT 124 (by decide)] at h
      obtain ⟨w, w1, w2, w3⟩ := h9_goal h9 (10 * s + i)
      have at' : (Flat (cfG S))[off (gX S 124 125) s + i]? = some w := by
        have := fl_at (S := gX S 124 125) hs hi'
        unfold wN at this
        rw [gX_57 (by omega), w3] at this
        exact this
      have mem : w ∈ Flat (cfG S) := List.mem_of_getElem? at'
      rw [w2, if_neg (nI_nn (by omega)), if_neg (k_ge (k := 10) 10 rfl w1 (by omega))] at h
      replace h := (grd_i h).2
      rw [nI_clamp (n := w) (by omega), hT 109 (by decide)] at h
      by_cases c9 : S.1 109 w = -4
      · rw [if_pos c9] at h
        obtain ⟨a, b⟩ := so_i h
        exact Or.inl ⟨by rw [b]; exact hT, a, fun q => (q.2.2.1 w mem).2 c9⟩
      · rw [if_neg c9, hT 71 (by decide), h5] at h
        by_cases c5 : off (gX S 124 125) s + i < n
        · rw [if_pos ((nI_ltJ (by omega) (by omega)).mpr c5)] at h
          replace h := (grd_i h).2
          replace h := (grd_i h).2
          rw [wr_r, nmR, nmR, nI_1, nI_1, nI_clamp (n := off (gX S 124 125) s + i) (by omega), ((hb.1 w w1).resolve_left c9).2] at h
          refine ro16_goal hW hn h5 hb h9 hs N (i + 1) (st T 110 (off (gX S 124 125) s + i) (nI (nmC S w))) (by omega) (by omega) (fun q hq => by rw [st_row _ _ _ _ hq]; exact hT q hq) (fun j w' hj ej => ?_) h
          rw [st_at, if_pos rfl]
          by_cases cj : j = off (gX S 124 125) s + i
          · rw [cj, at'] at ej
            injection ej with ej
            subst ej
            rw [if_pos cj]
            exact ⟨w1, c9, rfl⟩
          · rw [if_neg cj]
            exact hR j w' (by omega) ej
        · rw [if_neg (fun z => c5 ((nI_ltJ (by omega) (by omega)).mp z))] at h
          obtain ⟨a, b⟩ := so_i h
          refine Or.inl ⟨by rw [b]; exact hT, a, fun q => ?_⟩
          have e := q.1
          rw [← flat_len] at e
          have : off (gX S 124 125) s + i < (Flat (cfG S)).length := by
            rcases Nat.lt_or_ge (off (gX S 124 125) s + i) (Flat (cfG S)).length with z | z
            · exact z
            · rw [List.getElem?_eq_none z] at at'; cases at'
          omega
def kyO (B : SS) : Nat → Nat
  | 0 => 0
  | s + 1 => kyN (kyO B s) s (off B (s + 1))
theorem ro7_goal {S V : SS} {n W : Nat} {r : Int32} (hW : WR S) (hw : QW S n W) (ht : TB S n) (hb : NB S n) (h9 : ∀ i, rg (S.1 124 i) 0 9) (hd : (Flat (cfG S)).Nodup) : ∀ (N s : Nat) (T : SS), s ≤ 4 → off (gX S 124 125) s ≤ n → (∀ q, q ≠ 110 → T.1 q = S.1 q) → Rd1 S (Flat (cfG S)) T (off (gX S 124 125) s) → f_Potentials_rankOf_goal_L7 N (nI (off (gX S 124 125) s)) (nI (kyO (gX S 124 125) s)) (nI s) T = some (r, V) → (∀ q, q ≠ 110 → q ≠ 112 → V.1 q = S.1 q) ∧ ((r = -4 ∧ ¬ Cl S n (cfG S)) ∨ (r = nI (rkC S n (cfG S)) ∧ Cl S n (cfG S)))
  | 0, s, T, _, _, _, _, h => by cases h
  | N + 1, s, T, hs, hle, hT, hR, h => by
    have hn : n ≤ 5 := by have := hw.1; have := hw.2.1; omega
    rw [f_Potentials_rankOf_goal_L7.eq_2] at h
    by_cases c : s = 4
    · subst c
      rw [if_pos (by decide), hT 71 (by decide), hw.2.2.1] at h
      have et : tot (cfG S) = off (gX S 124 125) 4 := tot_off _
      by_cases ce : off (gX S 124 125) 4 = n
      · rw [if_pos (by rw [ce])] at h
        have hX : Cl S n (cfG S) := by
          refine ⟨et.trans ce, hd, fun w hw => ?_, fun s hs => cfS_far _ hs⟩
          obtain ⟨j, hj, e⟩ := List.mem_iff_getElem.mp hw
          rw [flat_len, et] at hj
          obtain ⟨a, b, -⟩ := hR j w hj (by rw [List.getElem?_eq_getElem (by rw [flat_len, et]; exact hj), e])
          exact ⟨a, b⟩
        obtain ⟨r2, S1, g, h⟩ := bnd_i h
        obtain ⟨q1, q2, q3⟩ := sq_ok hb hX
        obtain ⟨o1, o2⟩ := oq_s (S := T) (l := sqC S (cfG S)) hn (by rw [hT 71 (by decide)]; exact hw.2.2.1) q1 q2 q3 (fun i hi => by
          have hi' : i < (Flat (cfG S)).length := by unfold sqC at hi; rw [List.length_map] at hi; exact hi
          obtain ⟨-, -, e⟩ := hR i ((Flat (cfG S))[i]) (by rw [flat_len, et] at hi'; exact hi') (List.getElem?_eq_getElem hi')
          have gm := List.getElem_map (nmC S) (l := Flat (cfG S)) (i := i) (h := by rw [List.length_map]; exact hi')
          rw [e]
          exact congrArg nI gm.symm) g
        replace h := (grd_i h).2
        obtain ⟨c0, c1, c2, c3⟩ := cl_ok hX
        have l := ht.1 _ _ _ c0 c1 c2 (shpI_in hn c0 c1 c2).1
        have ky : kyO (gX S 124 125) 4 = 36 * cl (cfG S) 0 + 6 * cl (cfG S) 1 + cl (cfG S) 2 := by
          rw [show cl (cfG S) 0 = off (gX S 124 125) 1 from off_cl 0 (by omega), show cl (cfG S) 1 = off (gX S 124 125) 2 from off_cl 1 (by omega), show cl (cfG S) 2 = off (gX S 124 125) 3 from off_cl 2 (by omega)]
          show 6 * (6 * (6 * 0 + off (gX S 124 125) 1) + off (gX S 124 125) 2) + off (gX S 124 125) 3 = _
          omega
        rw [o1 71 (by decide), hT 71 (by decide), hw.2.2.2.2.1, o1 113 (by decide), hT 113 (by decide), ky, nI_clamp (by omega), l.2.2.2.2, o2, nI_mul, nI_add] at h
        obtain ⟨a, b⟩ := so_i h
        exact ⟨fun q u v => by rw [b, o1 q v, hT q u], Or.inr ⟨a, hX⟩⟩
      · rw [if_neg (fun z => ce (nI_inj (by omega) (by omega) z))] at h
        obtain ⟨a, b⟩ := so_i h
        exact ⟨fun q u _ => by rw [b]; exact hT q u, Or.inl ⟨a, fun q => ce (by rw [← et]; exact q.1)⟩⟩
    · rw [if_neg (k_ge (k := 4) 4 rfl (by omega) (by omega))] at h
      rcases ro16_goal hW hn hw.2.2.1 hb h9 (show s < 4 by omega) NF 0 T (by omega) hle hT hR h with ⟨a1, a2, a3⟩ | ⟨T', a1, a2, a3, a4⟩
      · exact ⟨fun q u _ => a1 q u, Or.inl ⟨a2, a3⟩⟩
      · exact ro7_goal hW hw ht hb h9 hd N (s + 1) T' (by omega) a2 a1 a3 a4
theorem ro_goal {S V : SS} {n W : Nat} {r : Int32} (hW : WR S) (hw : QW S n W) (ht : TB S n) (hb : NB S n) (h9 : ∀ i, rg (S.1 124 i) 0 9) (hd : (Flat (cfG S)).Nodup) (h : f_Potentials_rankOf_goal S = some (r, V)) : (∀ q, q ≠ 110 → q ≠ 112 → V.1 q = S.1 q) ∧ ((r = -4 ∧ ¬ Cl S n (cfG S)) ∨ (r = nI (rkC S n (cfG S)) ∧ Cl S n (cfG S))) := by
  rw [f_Potentials_rankOf_goal.eq_1] at h
  exact ro7_goal hW hw ht hb h9 hd NF 0 S (by omega) (Nat.zero_le _) (fun _ _ => rfl) (fun j w hj => absurd hj (Nat.not_lt_zero _)) h
theorem he_start {S : SS} {s : Nat} (hs : s < 4) : f_Stacks_height_start (nI s) S = some (S.1 123 s, S) := by
  rw [f_Stacks_height_start.eq_1, if_neg (nI_nn (by omega)), if_neg (k_ge (k := 4) 4 rfl hs (by omega)), inb_nI hs (by omega), nI_clamp (n := s) (by omega)]
  rfl
theorem h9_start {S : SS} (h9 : ∀ i, rg (S.1 122 i) 0 9) (i : Nat) : ∃ w, w < 10 ∧ S.1 122 i = nI w ∧ (S.1 122 i).toNatClampNeg = w := by
  obtain ⟨j, hj, h1, h2, h3⟩ := rg_ex (h9 i) (by omega)
  exact ⟨j, by omega, hj, by rw [hj, nI_clamp h3]⟩
set_option maxHeartbeats 1000000 in
theorem ro16_start {S V : SS} {K : Int32 → Int32 → Int32 → SS → Option (Int32 × SS)} {n s key : Nat} {r : Int32} (hW : WR S) (hn : n ≤ 5) (h5 : S.1 71 5 = nI n) (hb : NB S n) (h9 : ∀ i, rg (S.1 122 i) 0 9) (hs : s < 4) : ∀ (N i : Nat) (T : SS), i ≤ mN (gX S 122 123) s → off (gX S 122 123) s + i ≤ n → (∀ q, q ≠ 110 → T.1 q = S.1 q) → Rd1 S (Flat (cfT S)) T (off (gX S 122 123) s + i) → f_Potentials_rankOf_start_L16 K N (nI (off (gX S 122 123) s + i)) (nI key) (nI s) (nI i) T = some (r, V) → ((∀ q, q ≠ 110 → V.1 q = S.1 q) ∧ r = -4 ∧ ¬ Cl S n (cfT S)) ∨ ∃ T', (∀ q, q ≠ 110 → T'.1 q = S.1 q) ∧ off (gX S 122 123) (s + 1) ≤ n ∧ Rd1 S (Flat (cfT S)) T' (off (gX S 122 123) (s + 1)) ∧ K (nI (off (gX S 122 123) (s + 1))) (nI (kyN key s (off (gX S 122 123) (s + 1)))) (nI (s + 1)) T' = some (r, V)
  | 0, i, T, _, _, _, _, h => by cases h
  | N + 1, i, T, hi, hle, hT, hR, h => by
    have m10 : mN (gX S 122 123) s ≤ 10 ∧ S.1 123 s = nI (mN (gX S 122 123) s) := by
      obtain ⟨j, hj, h1, h2, h3⟩ := rg_ex (ro_123 hW s) (by omega)
      rw [gX_m (by decide) hs, hj, nI_clamp h3]
      exact ⟨by omega, rfl⟩
    rw [f_Potentials_rankOf_start_L16.eq_2, he_start hs, bnd_r, hT 123 (by decide), m10.2] at h
    by_cases c : i = mN (gX S 122 123) s
    · have eo : off (gX S 122 123) s + i = off (gX S 122 123) (s + 1) := by rw [c]; rfl
      rw [if_pos (nI_le (by omega) (by omega)), eo] at h
      rw [eo] at hR hle
      refine Or.inr ⟨T, hT, hle, hR, ?_⟩
      rw [f_Potentials_keyWith.eq_1] at h
      unfold kyN
      by_cases c3 : s < 3
      · rw [if_neg (k_ge (k := 3) 3 rfl c3 (by omega)), bnd_r, nmR, nI_1, show (6 : Int32) * nI key = nI (6 * key) from nI_mul 6 key, nI_add] at h
        rw [if_pos c3]
        exact h
      · rw [if_pos (k_le (k := 3) 3 rfl (by omega) (by omega)), bnd_r, nmR, nI_1] at h
        rw [if_neg c3]
        exact h
    · have hi' : i < mN (gX S 122 123) s := by omega
      rw [if_neg (nI_ge hi' (by omega)), wa_start hs (by rw [hT 123 (by decide)]; exact m10.2) m10.1 hi', bnd_r, hT 122 (by decide)] at h
      obtain ⟨w, w1, w2, w3⟩ := h9_start h9 (10 * s + i)
      have at' : (Flat (cfT S))[off (gX S 122 123) s + i]? = some w := by
        have := fl_at (S := gX S 122 123) hs hi'
        unfold wN at this
        rw [gX_57 (by omega), w3] at this
        exact this
      have mem : w ∈ Flat (cfT S) := List.mem_of_getElem? at'
      rw [w2, if_neg (nI_nn (by omega)), if_neg (k_ge (k := 10) 10 rfl w1 (by omega))] at h
      replace h := (grd_i h).2
      rw [nI_clamp (n := w) (by omega), hT 109 (by decide)] at h
      by_cases c9 : S.1 109 w = -4
      · rw [if_pos c9] at h
        obtain ⟨a, b⟩ := so_i h
        exact Or.inl ⟨by rw [b]; exact hT, a, fun q => (q.2.2.1 w mem).2 c9⟩
      · rw [if_neg c9, hT 71 (by decide), h5] at h
        by_cases c5 : off (gX S 122 123) s + i < n
        · rw [if_pos ((nI_ltJ (by omega) (by omega)).mpr c5)] at h
          replace h := (grd_i h).2
          replace h := (grd_i h).2
          rw [wr_r, nmR, nmR, nI_1, nI_1, nI_clamp (n := off (gX S 122 123) s + i) (by omega), ((hb.1 w w1).resolve_left c9).2] at h
          refine ro16_start hW hn h5 hb h9 hs N (i + 1) (st T 110 (off (gX S 122 123) s + i) (nI (nmC S w))) (by omega) (by omega) (fun q hq => by rw [st_row _ _ _ _ hq]; exact hT q hq) (fun j w' hj ej => ?_) h
          rw [st_at, if_pos rfl]
          by_cases cj : j = off (gX S 122 123) s + i
          · rw [cj, at'] at ej
            injection ej with ej
            subst ej
            rw [if_pos cj]
            exact ⟨w1, c9, rfl⟩
          · rw [if_neg cj]
            exact hR j w' (by omega) ej
        · rw [if_neg (fun z => c5 ((nI_ltJ (by omega) (by omega)).mp z))] at h
          obtain ⟨a, b⟩ := so_i h
          refine Or.inl ⟨by rw [b]; exact hT, a, fun q => ?_⟩
          have e := q.1
          rw [← flat_len] at e
          have : off (gX S 122 123) s + i < (Flat (cfT S)).length := by
            rcases Nat.lt_or_ge (off (gX S 122 123) s + i) (Flat (cfT S)).length with z | z
            · exact z
            · rw [List.getElem?_eq_none z] at at'; cases at'
          omega
theorem ro7_start {S V : SS} {n W : Nat} {r : Int32} (hW : WR S) (hw : QW S n W) (ht : TB S n) (hb : NB S n) (h9 : ∀ i, rg (S.1 122 i) 0 9) (hd : (Flat (cfT S)).Nodup) : ∀ (N s : Nat) (T : SS), s ≤ 4 → off (gX S 122 123) s ≤ n → (∀ q, q ≠ 110 → T.1 q = S.1 q) → Rd1 S (Flat (cfT S)) T (off (gX S 122 123) s) → f_Potentials_rankOf_start_L7 N (nI (off (gX S 122 123) s)) (nI (kyO (gX S 122 123) s)) (nI s) T = some (r, V) → (∀ q, q ≠ 110 → q ≠ 112 → V.1 q = S.1 q) ∧ ((r = -4 ∧ ¬ Cl S n (cfT S)) ∨ (r = nI (rkC S n (cfT S)) ∧ Cl S n (cfT S)))
  | 0, s, T, _, _, _, _, h => by cases h
  | N + 1, s, T, hs, hle, hT, hR, h => by
    have hn : n ≤ 5 := by have := hw.1; have := hw.2.1; omega
    rw [f_Potentials_rankOf_start_L7.eq_2] at h
    by_cases c : s = 4
    · subst c
      rw [if_pos (by decide), hT 71 (by decide), hw.2.2.1] at h
      have et : tot (cfT S) = off (gX S 122 123) 4 := tot_off _
      by_cases ce : off (gX S 122 123) 4 = n
      · rw [if_pos (by rw [ce])] at h
        have hX : Cl S n (cfT S) := by
          refine ⟨et.trans ce, hd, fun w hw => ?_, fun s hs => cfS_far _ hs⟩
          obtain ⟨j, hj, e⟩ := List.mem_iff_getElem.mp hw
          rw [flat_len, et] at hj
          obtain ⟨a, b, -⟩ := hR j w hj (by rw [List.getElem?_eq_getElem (by rw [flat_len, et]; exact hj), e])
          exact ⟨a, b⟩
        obtain ⟨r2, S1, g, h⟩ := bnd_i h
        obtain ⟨q1, q2, q3⟩ := sq_ok hb hX
        obtain ⟨o1, o2⟩ := oq_s (S := T) (l := sqC S (cfT S)) hn (by rw [hT 71 (by decide)]; exact hw.2.2.1) q1 q2 q3 (fun i hi => by
          have hi' : i < (Flat (cfT S)).length := by unfold sqC at hi; rw [List.length_map] at hi; exact hi
          obtain ⟨-, -, e⟩ := hR i ((Flat (cfT S))[i]) (by rw [flat_len, et] at hi'; exact hi') (List.getElem?_eq_getElem hi')
          have gm := List.getElem_map (nmC S) (l := Flat (cfT S)) (i := i) (h := by rw [List.length_map]; exact hi')
          rw [e]
          exact congrArg nI gm.symm) g
        replace h := (grd_i h).2
        obtain ⟨c0, c1, c2, c3⟩ := cl_ok hX
        have l := ht.1 _ _ _ c0 c1 c2 (shpI_in hn c0 c1 c2).1
        have ky : kyO (gX S 122 123) 4 = 36 * cl (cfT S) 0 + 6 * cl (cfT S) 1 + cl (cfT S) 2 := by
          rw [show cl (cfT S) 0 = off (gX S 122 123) 1 from off_cl 0 (by omega), show cl (cfT S) 1 = off (gX S 122 123) 2 from off_cl 1 (by omega), show cl (cfT S) 2 = off (gX S 122 123) 3 from off_cl 2 (by omega)]
          show 6 * (6 * (6 * 0 + off (gX S 122 123) 1) + off (gX S 122 123) 2) + off (gX S 122 123) 3 = _
          omega
        rw [o1 71 (by decide), hT 71 (by decide), hw.2.2.2.2.1, o1 113 (by decide), hT 113 (by decide), ky, nI_clamp (by omega), l.2.2.2.2, o2, nI_mul, nI_add] at h
        obtain ⟨a, b⟩ := so_i h
        exact ⟨fun q u v => by rw [b, o1 q v, hT q u], Or.inr ⟨a, hX⟩⟩
      · rw [if_neg (fun z => ce (nI_inj (by omega) (by omega) z))] at h
        obtain ⟨a, b⟩ := so_i h
        exact ⟨fun q u _ => by rw [b]; exact hT q u, Or.inl ⟨a, fun q => ce (by rw [← et]; exact q.1)⟩⟩
    · rw [if_neg (k_ge (k := 4) 4 rfl (by omega) (by omega))] at h
      rcases ro16_start hW hn hw.2.2.1 hb h9 (show s < 4 by omega) NF 0 T (by omega) hle hT hR h with ⟨a1, a2, a3⟩ | ⟨T', a1, a2, a3, a4⟩
      · exact ⟨fun q u _ => a1 q u, Or.inl ⟨a2, a3⟩⟩
      · exact ro7_start hW hw ht hb h9 hd N (s + 1) T' (by omega) a2 a1 a3 a4
theorem ro_start {S V : SS} {n W : Nat} {r : Int32} (hW : WR S) (hw : QW S n W) (ht : TB S n) (hb : NB S n) (h9 : ∀ i, rg (S.1 122 i) 0 9) (hd : (Flat (cfT S)).Nodup) (h : f_Potentials_rankOf_start S = some (r, V)) : (∀ q, q ≠ 110 → q ≠ 112 → V.1 q = S.1 q) ∧ ((r = -4 ∧ ¬ Cl S n (cfT S)) ∨ (r = nI (rkC S n (cfT S)) ∧ Cl S n (cfT S))) := by
  rw [f_Potentials_rankOf_start.eq_1] at h
  exact ro7_start hW hw ht hb h9 hd NF 0 S (by omega) (Nat.zero_le _) (fun _ _ => rfl) (fun j w hj => absurd hj (Nat.not_lt_zero _)) h
/-! ===== spreadFrom: the class's POTENTIALS ===== -/
theorem fl_e {V : SS} {n : Nat} : ∀ (N i : Nat) (T : SS), T.2 120 = n → n < 2 ^ 31 → i ≤ n → (∀ j, j < i → T.1 120 j = -4) → f_Arrays_fill_53178_Potentials_least_L5 N (-4) (nI i) (nI n) T = some V → (∀ j, j < n → V.1 120 j = -4) ∧ (∀ q, q ≠ 120 → V.1 q = T.1 q) ∧ V.2 = T.2
  | 0, i, T, _, _, _, _, h => by cases h
  | N + 1, i, T, e, l, hi, hj, h => by
    rw [f_Arrays_fill_53178_Potentials_least_L5.eq_2] at h
    by_cases c : i = n
    · rw [if_pos (nI_le (by omega) (by omega))] at h
      injection h with h
      subst h
      exact ⟨fun j q => hj j (by omega), fun _ _ => rfl, rfl⟩
    · rw [if_neg (nI_ge (by omega) (by omega))] at h
      replace h := (grd_i h).2
      rw [wr_r, nmR, nI_1, nI_clamp (n := i) (by omega)] at h
      obtain ⟨a, b, d⟩ := fl_e N (i + 1) (st T 120 i (-4)) e l (by omega) (fun j q => by
        rw [st_at, if_pos rfl]
        by_cases cj : j = i
        · rw [if_pos cj]
        · rw [if_neg cj]; exact hj j (by omega)) h
      exact ⟨a, fun q hq => by rw [b q hq, st_row _ _ _ _ hq], d⟩
theorem fle {S V : SS} (l : S.2 120 ≤ 6720) (h : f_Arrays_fill_53178_Potentials_least (-4) S = some V) : (∀ j, j < S.2 120 → V.1 120 j = -4) ∧ (∀ q, q ≠ 120 → V.1 q = S.1 q) ∧ V.2 = S.2 := by
  rw [f_Arrays_fill_53178_Potentials_least.eq_1, nmR] at h
  exact fl_e NF 0 S rfl (by omega) (by omega) (fun j q => absurd q (Nat.not_lt_zero _)) h
/-! tables are the same where their rows are -/
theorem fe_cg {S T : SS} {rm : Nat → Nat} (a4 : T.1 114 = S.1 114) : (∀ k, feN T rm k = feN S rm k) ∧ ∀ sh, pS T rm sh = pS S rm sh := by
  have en' : ∀ sh s, en T sh s = en S sh s := fun sh s => by unfold en; rw [a4]
  have eb' : ∀ sh s, eb T sh s = eb S sh s := fun sh s => by unfold eb; rw [en']
  have hh' : ∀ sh, hh T sh = hh S sh := fun sh => by funext s; unfold hh; rw [en', eb']
  have pS' : ∀ sh, pS T rm sh = pS S rm sh := fun sh => by unfold pS; rw [hh']
  refine ⟨fun k => ?_, pS'⟩
  induction k with
  | zero => rfl
  | succ k ih => rw [feN_s, feN_s, ih, pS']
theorem NB.cg {S T : SS} {n : Nat} (h : NB S n) (e : T.1 109 = S.1 109) : NB T n := by
  unfold NB nmC
  rw [e]
  exact h
theorem Cl.cg {S T : SS} {n : Nat} {X : Cf} (h : Cl S n X) (e : T.1 109 = S.1 109) : Cl T n X := by
  unfold Cl
  rw [e]
  exact h
theorem rk_cg {S T : SS} {n : Nat} {X : Cf} (e : T.1 109 = S.1 109) : rkC T n X = rkC S n X := by
  unfold rkC sqC nmC
  rw [e]
/-- rows 120 and 121 apart -/
def Fq (S T : SS) : Prop := (∀ a, a ≠ 120 → a ≠ 121 → T.1 a = S.1 a) ∧ T.2 = S.2
theorem raf' {S T V : SS} {n W y : Nat} {rm : Nat → Nat} {X : Cf} {r : Int32} (hw : QW S n W) (ht : TB S n) (hb : NB S n) (he : EN S rm n S) (hX : Cl S n X) (hy : y < 80) (hm : mayX rm X y = true) (f : Fq S T) (h : f_Potentials_rankAfter (nI (rkC S n X)) (nI (feN S rm (shC n X) + ctB (pS S rm (shC n X)) y)) T = some (r, V)) : V = T ∧ r = nI (rkC S n (mvX y X)) := by
  have g := f.1
  have e9 := g 109 (by decide) (by decide)
  have c := fe_cg (rm := rm) (g 114 (by decide) (by decide))
  have k := raf (S := T) (T := V) (n := n) (W := W) (y := y) (rm := rm) (X := X) (r := r) (hw.of f.2 (by rw [g 71 (by decide) (by decide)]) (by rw [g 71 (by decide) (by decide)]) (by rw [g 71 (by decide) (by decide)])) (ht.cg (g 113 (by decide) (by decide)) (g 114 (by decide) (by decide)) (g 115 (by decide) (by decide))) (hb.cg e9) (he.to (g 113 (by decide) (by decide)) (g 114 (by decide) (by decide)) (g 116 (by decide) (by decide)) (g 117 (by decide) (by decide)) (g 118 (by decide) (by decide)) (g 119 (by decide) (by decide)) f.2) (hX.cg e9) hy hm (by rw [rk_cg e9, c.1, c.2]; exact h)
  rw [rk_cg e9] at k
  exact k
theorem ctB_on {p : Nat → Bool} : ∀ (x k : Nat), k < ctB p x → ∃ y, y < x ∧ p y = true ∧ ctB p y = k
  | 0, k, h => absurd h (Nat.not_lt_zero _)
  | x + 1, k, h => by
    by_cases c : p x = true
    · rw [ctB_t c] at h
      by_cases d : k = ctB p x
      · exact ⟨x, by omega, c, d.symm⟩
      · obtain ⟨y, a, b, e⟩ := ctB_on (p := p) x k (by omega)
        exact ⟨y, by omega, b, e⟩
    · rw [ctB_f c] at h
      obtain ⟨y, a, b, e⟩ := ctB_on (p := p) x k h
      exact ⟨y, by omega, b, e⟩
theorem ctB_inj {p : Nat → Bool} {x y : Nat} (hx : p x = true) (hy : p y = true) (e : ctB p x = ctB p y) : x = y := by
  rcases Nat.lt_trichotomy x y with c | c | c
  · have := ctB_lt hx c; omega
  · exact c
  · have := ctB_lt hy c; omega
noncomputable def pC (S : SS) (n : Nat) (T : SS) (X : Cf) : Int := @ite Int (Cl S n X) (Classical.propDecidable _) (T.1 120 (rkC S n X)).toInt (-1)
theorem pC_y {S T : SS} {n : Nat} {X : Cf} (h : Cl S n X) : pC S n T X = (T.1 120 (rkC S n X)).toInt := if_pos h
theorem pC_n {S T : SS} {n : Nat} {X : Cf} (h : ¬ Cl S n X) : pC S n T X = -1 := if_neg h
/-- every POTENTIAL is -4 or not negative -/
def P4 (S : SS) (n : Nat) (T : SS) : Prop := ∀ X, Cl S n X → T.1 120 (rkC S n X) = -4 ∨ 0 ≤ (T.1 120 (rkC S n X)).toInt
def QB (S : SS) (n : Nat) (rm : Nat → Nat) (G : Cf) (T : SS) (q : Nat → Cf) (t i : Nat) (N : Cf → Prop) : Prop := Bf (Mv rm) G q t i (pC S n T) N ∧ (∀ j, j < t → Cl S n (q j) ∧ T.1 121 j = nI (rkC S n (q j))) ∧ (∀ j k, j < t → k < t → q j = q k → j = k) ∧ Fq S T ∧ P4 S n T
theorem Bf.ble {α : Type} {E : α → α → Prop} {g : α} {q : Nat → α} {n i : Nat} {p : α → Int} {N : α → Prop} (h : Bf E g q n i p N) : ∀ (m j : Nat), j < m → j < n → p (q j) ≤ j
  | 0, j, hm, _ => absurd hm (Nat.not_lt_zero _)
  | m + 1, j, hm, hj => by
    obtain ⟨⟨a1, a2, a3, a4⟩, h2, h3, -⟩ := id h
    by_cases c : j = 0
    · rw [c, a3, a4]; omega
    · obtain ⟨k, k1, k2, k3⟩ := h3 j (by omega) hj
      have := Bf.ble h m k (by omega) (by omega)
      omega
theorem QB.sz {S : SS} {n : Nat} {rm : Nat → Nat} {G : Cf} {T : SS} {q : Nat → Cf} {t i : Nat} {N : Cf → Prop} (hn : n ≤ 5) (hb : NB S n) (h : QB S n rm G T q t i N) : t ≤ facN n * shN n := by
  have := php (List.range (facN n * shN n)) t (fun j => rkC S n (q j)) (fun j hj => List.mem_range.mpr (rk_lt hn hb (h.2.1 j hj).1).2.2.1) (fun j k hj hk e => h.2.2.1 j k hj hk (rk_inj hn hb (h.2.1 j hj).1 (h.2.1 k hk).1 e))
  rw [List.length_range] at this
  exact this
theorem mv_y {rm : Nat → Nat} {X Z : Cf} (ht : tot X ≤ 5) (h : Mv rm X Z) : ∃ y, y < 80 ∧ mayX rm X y = true ∧ Z = mvX y X := by
  obtain ⟨y, hy, a, b, c, d⟩ := mv_mvn ht h
  refine ⟨y, hy, ?_, d⟩
  unfold mayX mayB
  rw [Bool.and_eq_true, Bool.and_eq_true, Bool.not_eq_true', Nat.ble_eq, Nat.ble_eq]
  refine ⟨⟨?_, b⟩, c⟩
  cases q : Nat.beq (y / 20) (y / 5 % 4)
  · rfl
  · exact absurd (Nat.eq_of_beq_eq_true q) a
/-- found by the first k entries -/
def Nkk (S : SS) (rm : Nat → Nat) (n : Nat) (X : Cf) (k : Nat) (u : Cf) : Prop := ∃ y, y < 80 ∧ mayX rm X y = true ∧ ctB (pS S rm (shC n X)) y < k ∧ u = mvX y X
set_option maxHeartbeats 1000000 in
theorem sp105 {S V : SS} {K : Int32 → Int32 → SS → Option SS} {n W hd : Nat} {rm : Nat → Nat} {X G : Cf} (hw : QW S n W) (ht : TB S n) (hb : NB S n) (he : EN S rm n S) (hX : Cl S n X) : ∀ (N k t : Nat) (q : Nat → Cf) (T : SS), k ≤ ctB (pS S rm (shC n X)) 80 → hd < t → q hd = X → QB S n rm G T q t hd (Nkk S rm n X k) → f_Potentials_spreadFrom_goal_Plans_rooms_L105 K N (nI t) (nI hd) (nI (rkC S n X)) (nI (shC n X)) (nI (feN S rm (shC n X) + k)) T = some V → ∃ T' q' t', hd < t' ∧ QB S n rm G T' q' t' (hd + 1) (fun _ => False) ∧ K (nI t') (nI (hd + 1)) T' = some V
  | 0, k, t, q, T, _, _, _, _, h => by cases h
  | N + 1, k, t, q, T, hk, hht, hq, hB, h => by
    have hn : n ≤ 5 := by have := hw.1; have := hw.2.1; omega
    have qq := qn hw.1 hw.2.1
    obtain ⟨k1, k2, k3, k4, k5⟩ := rk_lt hn hb hX
    have tl := hB.sz hn hb
    have f5 := fac_fc hn
    rw [f5] at tl k3
    have fl := feN_le S rm (shC n X)
    have cl' := ctB_le (pS S rm (shC n X)) 80
    obtain ⟨b1, b2, b3, b4, b5⟩ := id hB
    rw [f_Potentials_spreadFrom_goal_Plans_rooms_L105.eq_2] at h
    replace h := (grd_i h).2
    rw [nI_1, nI_clamp (n := shC n X + 1) (by omega), b4.1 116 (by decide) (by decide), he.2.1 (shC n X + 1) (by omega), feN_s] at h
    by_cases c : k = ctB (pS S rm (shC n X)) 80
    · rw [if_pos (nI_le (by omega) (by omega)), nmR, nI_1] at h
      refine ⟨T, q, t, hht, ⟨b1.nxt hht (fun u hu => ?_), b2, b3, b4, b5⟩, h⟩
      rw [hq] at hu
      obtain ⟨y, y1, y2, y3⟩ := mv_y (by rw [hX.1]; exact hn) hu
      exact ⟨y, y1, y2, by rw [c]; exact ctB_lt (by rw [pS_eq hn ht hX y1]; exact y2) y1, y3⟩
    · rw [if_neg (nI_ge (by omega) (by omega))] at h
      obtain ⟨y, y1, y2, y3⟩ := ctB_on (p := pS S rm (shC n X)) 80 k (by omega)
      have my : mayX rm X y = true := by rw [← pS_eq hn ht hX y1]; exact y2
      obtain ⟨-, -, -, mv⟩ := mayX_mv y1 my
      have hZ : Cl S n (mvX y X) := cl_mv hX mv
      obtain ⟨z1, z2, z3, -, -⟩ := rk_lt hn hb hZ
      obtain ⟨r17, S16, g17, h⟩ := bnd_i h
      rw [← y3] at g17
      obtain ⟨rfl, rfl⟩ := raf' hw ht hb he hX y1 my b4 g17
      have wT : QW S16 n W := hw.of b4.2 (by rw [b4.1 71 (by decide) (by decide)]) (by rw [b4.1 71 (by decide) (by decide)]) (by rw [b4.1 71 (by decide) (by decide)])
      rw [isr_t wT z3, bnd_r, if_neg (by decide)] at h
      rw [f5] at z3
      replace h := (grd_i h).2
      rw [nI_clamp (n := rkC S n (mvX y X)) (by omega)] at h
      have N' : ∀ v, Nkk S rm n X (k + 1) v → v = mvX y X ∨ Nkk S rm n X k v := fun v hv => by
        obtain ⟨y', a1, a2, a3, a4⟩ := hv
        by_cases d : ctB (pS S rm (shC n X)) y' < k
        · exact Or.inr ⟨y', a1, a2, d, a4⟩
        · left
          rw [a4, ctB_inj (p := pS S rm (shC n X)) (x := y') (y := y) (by rw [pS_eq hn ht hX a1]; exact a2) y2 (by omega)]
      by_cases c4 : S16.1 120 (rkC S n (mvX y X)) = -4
      · have pn : pC S n S16 (mvX y X) < 0 := by rw [pC_y hZ, c4]; decide
        have new : ∀ j, j < t → q j ≠ mvX y X := fun j hj e => by
          have := (b1.2.1 (mvX y X)).mpr ⟨j, hj, e⟩
          omega
        have tl2 : t < fcN n * shN n := by
          have := php (List.range (facN n * shN n)) (t + 1) (fun j => if j = t then rkC S n (mvX y X) else rkC S n (q j)) (fun j hj => by
            show (if j = t then _ else _) ∈ _
            by_cases d : j = t
            · rw [if_pos d]; exact List.mem_range.mpr (rk_lt hn hb hZ).2.2.1
            · rw [if_neg d]; exact List.mem_range.mpr (rk_lt hn hb (b2 j (by omega)).1).2.2.1) (fun i j hi hj e => by
            have e : (if i = t then rkC S n (mvX y X) else rkC S n (q i)) = (if j = t then rkC S n (mvX y X) else rkC S n (q j)) := e
            by_cases d : i = t
            · by_cases d' : j = t
              · omega
              · rw [if_pos d, if_neg d'] at e
                exact absurd (rk_inj hn hb hZ (b2 j (by omega)).1 e).symm (new j (by omega))
            · by_cases d' : j = t
              · rw [if_neg d, if_pos d'] at e
                exact absurd (rk_inj hn hb (b2 i (by omega)).1 hZ e) (new i (by omega))
              · rw [if_neg d, if_neg d'] at e
                exact b3 i j (by omega) (by omega) (rk_inj hn hb (b2 i (by omega)).1 (b2 j (by omega)).1 e))
          rw [List.length_range, f5] at this
          omega
        rw [if_pos c4, b4.2, hw.2.2.2.2.2.2.2.2.2.2.2.2, if_neg (show ¬ Int32.ofNat (fcN W * shN W) ≤ nI t from nI_ge (by omega) (by omega))] at h
        replace h := (grd_i h).2
        replace h := (grd_i h).2
        rw [wr_r] at h
        replace h := (grd_i h).2
        rw [wr_r, nmR, nI_1, f_Potentials_spreadFrom_goal_Plans_rooms_j188.eq_1, nmR, nI_1, nI_clamp (n := t) (by omega), nI_clamp (n := rkC S n X) (by omega)] at h
        have ph := b1.ble (hd + 1) hd (by omega) hht
        have p0 : 0 ≤ pC S n S16 (q hd) := (b1.2.1 (q hd)).mpr ⟨hd, hht, rfl⟩
        rw [hq, pC_y hX] at ph p0
        have vi : S16.1 120 (rkC S n X) = nI (S16.1 120 (rkC S n X)).toInt.toNat := by
          apply Int32.toInt_inj.mp
          rw [nI_ti (by omega)]
          omega
        generalize hU : st (st S16 120 (rkC S n (mvX y X)) (S16.1 120 (rkC S n X) + 1)) 121 t (nI (rkC S n (mvX y X))) = U at h
        have u120 : ∀ j, U.1 120 j = if j = rkC S n (mvX y X) then S16.1 120 (rkC S n X) + 1 else S16.1 120 j := fun j => by rw [← hU, st_row _ 121 _ _ (by decide), st_at, if_pos rfl]
        have u121 : ∀ j, U.1 121 j = if j = t then nI (rkC S n (mvX y X)) else S16.1 121 j := fun j => by rw [← hU, st_at, if_pos rfl, st_row _ 120 _ _ (by decide)]
        have fr : Fq S U := ⟨fun a x y => by rw [← hU, st_row _ _ _ _ y, st_row _ _ _ _ x]; exact b4.1 a x y, by rw [← hU]; exact b4.2⟩
        have vn : (S16.1 120 (rkC S n X) + 1).toInt = (S16.1 120 (rkC S n X)).toInt + 1 := by
          rw [vi, nI_1, nI_ti (by omega), nI_ti (by omega)]
          omega
        have other : ∀ v, Cl S n v → v ≠ mvX y X → U.1 120 (rkC S n v) = S16.1 120 (rkC S n v) := fun v cv hv => by
          rw [u120, if_neg (fun e => hv (rk_inj hn hb cv hZ e))]
        have B' : QB S n rm G U (ups q t (mvX y X)) (t + 1) hd (Nkk S rm n X (k + 1)) := by
          refine ⟨b1.new hht (by rw [hq]; exact mv) pn (fun j hj => ups_n _ _ (by omega)) (ups_k _ _ _) ?_ (fun v hv => ?_) N', fun j hj => ?_, fun i j hi hj e => ?_, fr, fun v cv => ?_⟩
          · rw [pC_y hZ, u120, if_pos rfl, hq, pC_y hX]; exact vn
          · by_cases cv : Cl S n v
            · rw [pC_y cv, pC_y cv, other v cv hv]
            · rw [pC_n cv, pC_n cv]
          · by_cases d : j = t
            · rw [d, ups_k, u121, if_pos rfl]
              exact ⟨hZ, rfl⟩
            · rw [ups_n _ _ d, u121, if_neg d]
              exact b2 j (by omega)
          · by_cases d : i = t
            · by_cases d' : j = t
              · omega
              · rw [d, ups_k, ups_n _ _ d'] at e
                exact absurd e.symm (new j (by omega))
            · by_cases d' : j = t
              · rw [d', ups_k, ups_n _ _ d] at e
                exact absurd e (new i (by omega))
              · rw [ups_n _ _ d, ups_n _ _ d'] at e
                exact b3 i j (by omega) (by omega) e
          · by_cases d : v = mvX y X
            · right
              rw [d, u120, if_pos rfl, vn]
              omega
            · rw [other v cv d]
              exact b5 v cv
        exact sp105 hw ht hb he hX N (k + 1) (t + 1) (ups q t (mvX y X)) U (by omega) (by omega) (by rw [ups_n _ _ (by omega)]; exact hq) B' h
      · rw [if_neg c4, f_Potentials_spreadFrom_goal_Plans_rooms_j188.eq_1, nmR, nI_1] at h
        have pz : 0 ≤ pC S n S16 (mvX y X) := by
          rw [pC_y hZ]
          exact (b5 _ hZ).resolve_left c4
        exact sp105 hw ht hb he hX N (k + 1) t q S16 (by omega) hht hq ⟨b1.old hht pz N', b2, b3, b4, b5⟩ h
theorem sp57 {S V : SS} {n W : Nat} {rm : Nat → Nat} {G : Cf} (hw : QW S n W) (ht : TB S n) (hb : NB S n) (he : EN S rm n S) : ∀ (N hd t : Nat) (q : Nat → Cf) (T : SS), hd ≤ t → QB S n rm G T q t hd (fun _ => False) → f_Potentials_spreadFrom_goal_Plans_rooms_L57 N (nI t) (nI hd) T = some V → ∃ q' t', QB S n rm G V q' t' t' (fun _ => False)
  | 0, hd, t, q, T, _, _, h => by cases h
  | N + 1, hd, t, q, T, hht, hB, h => by
    have hn : n ≤ 5 := by have := hw.1; have := hw.2.1; omega
    have qq := qn hw.1 hw.2.1
    have tl := hB.sz hn hb
    have f5 := fac_fc hn
    rw [f5] at tl
    obtain ⟨b1, b2, b3, b4, b5⟩ := id hB
    rw [f_Potentials_spreadFrom_goal_Plans_rooms_L57.eq_2] at h
    by_cases c : hd = t
    · rw [if_pos (nI_le (by omega) (by omega))] at h
      injection h with h
      subst h c
      exact ⟨q, hd, hB⟩
    · rw [if_neg (nI_ge (by omega) (by omega)), b4.1 71 (by decide) (by decide), hw.2.2.2.1, hw.2.2.2.2.1, nI_mul, if_neg (nI_ge (by omega) (by omega))] at h
      replace h := (grd_i h).2
      obtain ⟨x1, x2⟩ := b2 hd (by omega)
      obtain ⟨k1, k2, k3, k4, k5⟩ := rk_lt hn hb x1
      rw [f5] at k3
      rw [nmR, nI_clamp (n := hd) (by omega), x2] at h
      replace h := (grd_i h).2
      rw [nmR, nI_rem (by omega) (by omega) (by omega), k5] at h
      replace h := (grd_i h).2
      rw [nmR, nI_clamp (n := shC n (q hd)) (by omega), b4.1 116 (by decide) (by decide), he.2.1 _ (by omega)] at h
      obtain ⟨T', q', t', a1, a2, a3⟩ := sp105 hw ht hb he x1 NF 0 t q T (by omega) (by omega) rfl ⟨b1.old (u := q hd) (by omega) ((b1.2.1 _).mpr ⟨hd, by omega, rfl⟩) (fun v hv => by obtain ⟨y, -, -, z, -⟩ := hv; omega), b2, b3, b4, b5⟩ h
      exact sp57 hw ht hb he N (hd + 1) t' q' T' (by omega) a2 a3
/-! ===== spreadFrom as a whole ===== -/
theorem ew_i {x : Option SS} {P : SS → Prop} {U : SS} (h : Ew x P) (e : x = some U) : P U := by
  obtain ⟨V, e', p⟩ := h
  rw [e'] at e
  injection e with e
  exact e ▸ p
theorem ex_i {α : Type} {x : Option (α × SS)} {P : α → SS → Prop} {r : α} {U : SS} (h : Ex2 x P) (e : x = some (r, U)) : P r U := by
  obtain ⟨a, V, e', p⟩ := h
  rw [e'] at e
  obtain ⟨e1, e2⟩ := so_i e
  subst e1 e2
  exact p
theorem gX_WR {S : SS} {o h : Nat} (hW : WR S) (h5 : h ≠ 57) (hh : ∀ i, rg (S.1 h i) 0 10) : WR (gX S o h) := by
  have a := wr_c (k0 := o) (k1 := 57) (a := 0) (d := 0) (n := 40) hW rfl (fun _ _ => trivial) (fun _ => rfl)
  exact wr_c (k0 := h) (k1 := 58) (a := 0) (d := 0) (n := 4) a rfl (fun _ j => by
    show rg ((cp S o 57 0 0 40).1 h j) 0 10
    rw [cpx_row _ _ _ _ _ _ h5]
    exact hh j) (fun _ => rfl)
theorem gX_NN {S : SS} {o h : Nat} (h5 : h ≠ 57) (hh : ∀ i, rg (S.1 h i) 0 10) (h9 : ∀ i, rg (S.1 o i) 0 9) : NN (gX S o h) := fun s i hs hi => by
  have m := gX_m (S := S) (o := o) h5 hs
  obtain ⟨j, hj, h1, h2, h3⟩ := rg_ex (hh s) (by omega)
  rw [hj, nI_clamp h3] at m
  obtain ⟨w, hw, a1, a2, a3⟩ := rg_ex (h9 (10 * s + i)) (by omega)
  exact ⟨w, by omega, by rw [gX_57 (by omega)]; exact hw⟩
theorem gX_DW {S : SS} {o h : Nat} (h5 : h ≠ 57) (hh : ∀ i, rg (S.1 h i) 0 10) (hD : DW (S.1 h) (S.1 o)) : DW ((gX S o h).1 58) ((gX S o h).1 57) := fun s i s' i' hs hs' hi hi' e => by
  rw [gX_58 h5 hs] at hi
  rw [gX_58 h5 hs'] at hi'
  obtain ⟨j, hj, h1, h2, h3⟩ := rg_ex (hh s) (by omega)
  obtain ⟨j', hj', h1', h2', h3'⟩ := rg_ex (hh s') (by omega)
  rw [hj, nI_ti h3] at hi
  rw [hj', nI_ti h3'] at hi'
  rw [gX_57 (by omega), gX_57 (by omega)] at e
  exact hD s i s' i' hs hs' (by rw [hj, nI_ti h3]; exact hi) (by rw [hj', nI_ti h3']; exact hi') e
theorem gX_Bef {S : SS} {o h : Nat} (h5 : h ≠ 57) (hh : ∀ i, rg (S.1 h i) 0 10) (w : Int32) : Bef ((gX S o h).1 58) ((gX S o h).1 57) w 4 0 ↔ Bef (S.1 h) (S.1 o) w 4 0 := by
  constructor
  · rintro ⟨s, i, a, b, c, d⟩
    rw [gX_58 h5 b] at c
    obtain ⟨j, hj, h1, h2, h3⟩ := rg_ex (hh s) (by omega)
    have c' := c
    rw [hj, nI_ti h3] at c'
    rw [gX_57 (by omega)] at d
    exact ⟨s, i, a, b, c, d⟩
  · rintro ⟨s, i, a, b, c, d⟩
    obtain ⟨j, hj, h1, h2, h3⟩ := rg_ex (hh s) (by omega)
    have c' := c
    rw [hj, nI_ti h3] at c'
    exact ⟨s, i, a, b, by rw [gX_58 h5 b]; exact c, by rw [gX_57 (by omega)]; exact d⟩
theorem gX_fl {S : SS} {o h : Nat} (hW : WR S) (h5 : h ≠ 57) (hh : ∀ i, rg (S.1 h i) 0 10) (h9 : ∀ i, rg (S.1 o i) 0 9) (hD : DW (S.1 h) (S.1 o)) : (Flat (cfS (gX S o h))).Nodup ∧ ∀ w, w < 10 → (w ∈ Flat (cfS (gX S o h)) ↔ Bef (S.1 h) (S.1 o) (nI w) 4 0) := by
  have w1 := gX_WR (o := o) hW h5 hh
  have n1 := gX_NN (S := S) h5 hh h9
  refine ⟨fl_nd w1 n1 (gX_DW h5 hh hD), fun w hw => ?_⟩
  rw [← bef_mem w1 n1 hw, gX_Bef h5 hh]
theorem gX_lt {S : SS} {o h : Nat} (h5 : h ≠ 57) (hh : ∀ i, rg (S.1 h i) 0 10) (h9 : ∀ i, rg (S.1 o i) 0 9) {w : Nat} (hw : w ∈ Flat (cfS (gX S o h))) : w < 10 := by
  obtain ⟨s, i, a, b, c, d⟩ := fl_mem (gX_NN (S := S) h5 hh h9) hw
  exact c
theorem gX_cg {S T : SS} {o h : Nat} (h5 : h ≠ 57) (hh : ∀ i, rg (S.1 h i) 0 10) (e1 : T.1 o = S.1 o) (e2 : T.1 h = S.1 h) : cfS (gX T o h) = cfS (gX S o h) := by
  funext s
  unfold cfS
  by_cases c : s < 4
  · rw [if_pos c, if_pos c, gX_m h5 c, gX_m h5 c, e2]
    refine List.map_congr_left (fun i hi => ?_)
    rw [List.mem_range] at hi
    obtain ⟨j, hj, h1, h2, h3⟩ := rg_ex (hh s) (by omega)
    rw [hj, nI_clamp h3] at hi
    unfold wN
    rw [gX_57 (by omega), gX_57 (by omega), e1]
  · rw [if_neg c, if_neg c]
/-! ===== spreadFrom, put together ===== -/
theorem frow {L : List Nat} {F : List (Nat × Nat)} {S T : SS} (h : F1 L F S T) (q : Nat) (e : ∀ b, wm L F q b = false) : T.1 q = S.1 q := funext fun b => h q b (e b)
theorem oHg_tot {S : SS} (hW : WR S) : tot (cfG S) = oHg S 4 := by
  show tot (cfS (gX S 124 125)) = _
  rw [tot_off]
  have m : ∀ s, s < 4 → mN (gX S 124 125) s = hNg S s := fun s hs => gX_m (by decide) hs
  show 0 + mN _ 0 + mN _ 1 + mN _ 2 + mN _ 3 = 0 + hNg S 0 + hNg S 1 + hNg S 2 + hNg S 3
  rw [m 0 (by omega), m 1 (by omega), m 2 (by omega), m 3 (by omega)]
/-- what the class's POTENTIALS are after spreadFrom -/
def SPF (S V : SS) (rm : Nat → Nat) (n W : Nat) : Prop := QW V n W ∧ TB V n ∧ NB V n ∧ EN V rm n V ∧ Cl V n (cfG S) ∧ P4 V n V ∧ Pot (Mv rm) (cfG S) (pC V n V) ∧ ∀ w, w < 10 → (¬ V.1 109 w = -4 ↔ Bef (S.1 125) (S.1 124) (nI w) 4 0)
theorem pC_cg {S T V : SS} {n : Nat} (e : T.1 109 = S.1 109) : pC T n V = pC S n V := by
  funext X
  by_cases c : Cl S n X
  · rw [pC_y c, pC_y (c.cg e), rk_cg e]
  · rw [pC_n c, pC_n (fun q => c (q.cg e.symm))]
set_option maxHeartbeats 1000000 in
theorem spf {S V : SS} {G : Nat} {rm : Nat → Nat} (hW : WR S) (hC : CQ S G) (hT : TT S) (hr : ∀ t, t < 4 → S.1 106 t = nI (rm t) ∧ rm t ≤ 10) (h9 : ∀ i, rg (S.1 124 i) 0 9) (hD : DW (S.1 125) (S.1 124)) (h5 : oHg S 4 ≤ 5) (h : f_Potentials_spreadFrom_goal_Plans_rooms S = some V) : ∃ n W, SPF S V rm n W ∧ WR V ∧ F1 TL TFl S V ∧ ∃ G', CQ V G' := by
  have h0 := h
  rw [f_Potentials_spreadFrom_goal_Plans_rooms.eq_1] at h
  obtain ⟨m, em, m1, m2, m3⟩ := msk2g hW h9 hD
  rw [em, bnd_r] at h
  rw [Nat.add_zero] at m2
  have p5 : pcN 10 m ≤ 5 := by omega
  have nn : nb (nI m) 10 = pcN 10 m := by
    rw [nb_bc m1 p5 10 (by omega)]
    exact bc_pc ⟨m, m1⟩
  obtain ⟨S3, g3, h⟩ := bndv_i h
  have hw5 : ∃ n, n ≤ 5 ∧ S.1 71 5 = nI n := by
    rcases hC.2 with ⟨-, a, -⟩ | ⟨w, W, -, a, -⟩
    · exact ⟨0, by omega, a⟩
    · exact ⟨w, by have := a.1; have := a.2.1; omega, a.2.2.1⟩
  obtain ⟨⟨t1, t2, t3⟩, gd⟩ := twe hw5 hT g3
  have n5 : nb (nI m) 10 ≤ 5 := nb_le _ _
  have hg : G ≤ nb (nI m) 10 → S.2 200 = 1 := fun q => by
    rcases hC.2 with ⟨-, a, -, a7, a0⟩ | ⟨w, W, b1, b2, -⟩
    · refine gd ?_ (fun z => absurd (by rw [a7]; decide) z)
      have := qn (Nat.le_refl (nb (nI m) 10)) n5
      omega
    · have b5 := b2.1
      have q2 := qn (show W ≤ nb (nI m) 10 by omega) n5
      refine gd (by rw [b2.2.2.2.2.2.2.2.2.2.2.2.1]; exact q2.2.2.2.2.2.2.2.2.2.2.2 (by omega)) (fun _ e => ?_)
      rw [b2.2.2.1] at e
      have := nI_inj (by omega) (by omega) e
      omega
  obtain ⟨w3, f3, C3⟩ := ew_i (twx hW hC hg) g3
  have nz : Gn G (nb (nI m) 10) ≠ 0 := by
    unfold Gn
    by_cases c : G ≤ nb (nI m) 10
    · rw [if_pos c]; omega
    · rw [if_neg c]; omega
  obtain ⟨w, W, a1, a2, a3⟩ : ∃ w W, Gn G (nb (nI m) 10) = W + 1 ∧ QW S3 w W ∧ QE S3 w (shN w) := by
    rcases C3.2 with ⟨h, -⟩ | h
    · exact absurd h nz
    · exact h
  have qq := qn a2.1 a2.2.1
  have ew : w = nb (nI m) 10 := nI_inj (by have := a2.1; have := a2.2.1; omega) (by omega) (a2.2.2.1.symm.trans t2)
  rw [← ew] at t1 t2 n5
  have b3 : NB S3 w := by rw [ew]; exact nb_of t3
  have r106 : ∀ t, t < 4 → S3.1 106 t = nI (rm t) ∧ rm t ≤ 10 := fun t ht => by rw [f3 106 t rfl]; exact hr t ht
  obtain ⟨S4, g4, h⟩ := bndv_i h
  have E4 := lex_e a2 a3 r106 g4
  obtain ⟨⟨w4, r4⟩, l4⟩ := ew_i (lex w3 C3.1 a2 a3) g4
  have q4 : QW S4 w W := LF.qw a2 l4
  obtain ⟨S5, g5, h⟩ := bndv_i h
  have l120 : S4.2 120 ≤ 6720 := by rw [q4.2.2.2.2.2.2.2.2.2.2.2.1]; omega
  obtain ⟨v5, v6, v7⟩ := fle l120 g5
  obtain ⟨w5, r5, l5⟩ := ew_i (fix w4 r4 l120) g5
  have q5 : QW S5 w W := q4.of l5.2 (l5.1 71 5 rfl) (l5.1 71 6 rfl) (l5.1 71 7 rfl)
  obtain ⟨r7, S6, g6, h⟩ := bnd_i h
  obtain ⟨w6, l6, r6⟩ := ex_i (rkx_goal w5 q5.qa r5) g6
  have q6 : QW S6 w W := q5.of l6.2 (l6.1 71 5 rfl) (l6.1 71 6 rfl) (l6.1 71 7 rfl)
  have x5 : ∀ q, q ≠ 116 → q ≠ 117 → q ≠ 118 → q ≠ 119 → q ≠ 120 → S5.1 q = S3.1 q := fun q a b c d e => by rw [v6 q e, E4.1.1 q a b c d]
  have T5 : TB S5 w := t1.cg (x5 113 (by decide) (by decide) (by decide) (by decide) (by decide)) (x5 114 (by decide) (by decide) (by decide) (by decide) (by decide)) (x5 115 (by decide) (by decide) (by decide) (by decide) (by decide))
  have x59 := x5 109 (by decide) (by decide) (by decide) (by decide) (by decide)
  have N5 : NB S5 w := b3.cg x59
  have s5 : ∀ q, (q = 124 ∨ q = 125) → S5.1 q = S.1 q := fun q hq => by
    rw [x5 q (by omega) (by omega) (by omega) (by omega) (by omega)]
    rcases hq with rfl | rfl
    · exact frow f3 124 (fun _ => rfl)
    · exact frow f3 125 (fun _ => rfl)
  have hh : ∀ i, rg (S.1 125 i) 0 10 := ro_125 hW
  have cg5 : cfG S5 = cfG S := gX_cg (by decide) hh (s5 124 (Or.inl rfl)) (s5 125 (Or.inr rfl))
  obtain ⟨nd, mb⟩ := gX_fl hW (by decide) hh h9 hD
  have hit9 : ∀ v, v < 10 → (¬ S3.1 109 v = -4 ↔ Bef (S.1 125) (S.1 124) (nI v) 4 0) := fun v hv => by
    rw [← m3 v hv, ← hit_bit m1 p5 hv]
    refine ⟨fun q => Classical.byContradiction fun c => q ((t3 v hv).2 c), fun q => ?_⟩
    rw [(t3 v hv).1 q]
    exact nI_m4 (by have := nb_le (nI m) v; omega)
  have Cg : Cl S5 w (cfG S) := by
    refine ⟨?_, nd, fun v hv => ?_, fun s hs => cfS_far _ hs⟩
    · rw [oHg_tot hW, ew, nn, m2]
    · have v10 := gX_lt (by decide) hh h9 hv
      exact ⟨v10, by rw [x59]; exact (hit9 v v10).mpr ((mb v v10).mp hv)⟩
  obtain ⟨y1, y2⟩ := ro_goal w5 q5 T5 N5 (by rw [s5 124 (Or.inl rfl)]; exact h9) (by rw [cg5]; exact nd) g6
  rw [cg5] at y2
  obtain ⟨rfl, -⟩ : r7 = nI (rkC S5 w (cfG S)) ∧ Cl S5 w (cfG S) := by
    rcases y2 with ⟨-, b⟩ | y2
    · exact absurd Cg b
    · exact y2
  have x69 : S6.1 109 = S5.1 109 := y1 109 (by decide) (by decide)
  have C6 : Cl S6 w (cfG S) := Cg.cg x69
  have T6 : TB S6 w := T5.cg (y1 113 (by decide) (by decide)) (y1 114 (by decide) (by decide)) (y1 115 (by decide) (by decide))
  have N6 : NB S6 w := N5.cg x69
  have E6 : EN S6 rm w S6 := E4.to (by rw [y1 113 (by decide) (by decide), x5 113 (by decide) (by decide) (by decide) (by decide) (by decide)]) (by rw [y1 114 (by decide) (by decide), x5 114 (by decide) (by decide) (by decide) (by decide) (by decide)]) (by rw [y1 116 (by decide) (by decide), v6 116 (by decide)]) (by rw [y1 117 (by decide) (by decide), v6 117 (by decide)]) (by rw [y1 118 (by decide) (by decide), v6 118 (by decide)]) (by rw [y1 119 (by decide) (by decide), v6 119 (by decide)]) (by rw [l6.2, v7, E4.1.2])
  obtain ⟨k1, k2, k3, k4, k5⟩ := rk_lt n5 N6 C6
  rw [← rk_cg (S := S5) (T := S6) x69, isr_t q6 k3, bnd_r, if_neg (by decide)] at h
  have f5 := fac_fc n5
  rw [f5] at k3
  replace h := (grd_i h).2
  rw [wr_r, nI_clamp (n := rkC S6 w (cfG S)) (by omega)] at h
  replace h := (grd_i h).2
  rw [wr_r, show (0 : Int32).toNatClampNeg = 0 from rfl] at h
  have v120 : ∀ X, Cl S6 w X → X ≠ cfG S → (st (st S6 120 (rkC S6 w (cfG S)) 0) 121 0 (nI (rkC S6 w (cfG S)))).1 120 (rkC S6 w X) = -4 := fun X cX hX => by
    rw [st_row _ 121 _ _ (by decide), st_at, if_pos rfl, if_neg (fun e => hX (rk_inj n5 N6 cX C6 e)), y1 120 (by decide) (by decide)]
    refine v5 _ ?_
    have := (rk_lt n5 N6 cX).2.2.1
    rw [f5] at this
    rw [q4.2.2.2.2.2.2.2.2.2.2.2.1]
    omega
  have v0 : (st (st S6 120 (rkC S6 w (cfG S)) 0) 121 0 (nI (rkC S6 w (cfG S)))).1 120 (rkC S6 w (cfG S)) = 0 := by
    rw [st_row _ 121 _ _ (by decide), st_at, if_pos rfl, if_pos rfl]
  generalize hU : st (st S6 120 (rkC S6 w (cfG S)) 0) 121 0 (nI (rkC S6 w (cfG S))) = U at h v120 v0
  have u121 : U.1 121 0 = nI (rkC S6 w (cfG S)) := by rw [← hU, st_at, if_pos rfl, if_pos rfl]
  have uf : Fq S6 U := ⟨fun a x y => by rw [← hU, st_row _ _ _ _ y, st_row _ _ _ _ x], by rw [← hU]; rfl⟩
  have B0 : QB S6 w rm (cfG S) U (fun _ => cfG S) 1 0 (fun _ => False) := by
    refine ⟨Bf.ini rfl ?_ (fun X hX => ?_), fun j hj => ⟨C6, ?_⟩, fun j k hj hk _ => by omega, uf, fun X cX => ?_⟩
    · rw [pC_y C6, v0]; rfl
    · by_cases cX : Cl S6 w X
      · rw [pC_y cX, v120 X cX hX]; decide
      · rw [pC_n cX]; decide
    · have : j = 0 := by omega
      rw [this]; exact u121
    · by_cases e : X = cfG S
      · right; rw [e, v0]; decide
      · left; exact v120 X cX e
  have h' : f_Potentials_spreadFrom_goal_Plans_rooms_L57 NF (nI 1) (nI 0) U = some V := h
  obtain ⟨q', t', B⟩ := sp57 (G := cfG S) q6 T6 N6 E6 NF 0 1 (fun _ => cfG S) U (by omega) B0 h'
  obtain ⟨b1, -, -, b4, b5⟩ := B
  have e9 : V.1 109 = S6.1 109 := b4.1 109 (by decide) (by decide)
  obtain ⟨wV, fV, r, er, CV, w', W', qV⟩ := ew_i (sfx hW hC (fun r hr q => by
    rw [em] at hr
    obtain ⟨e, -⟩ := so_i hr
    subst e
    exact hg q)) h0
  refine ⟨w, W, ⟨q6.of b4.2 (by rw [b4.1 71 (by decide) (by decide)]) (by rw [b4.1 71 (by decide) (by decide)]) (by rw [b4.1 71 (by decide) (by decide)]), T6.cg (b4.1 113 (by decide) (by decide)) (b4.1 114 (by decide) (by decide)) (b4.1 115 (by decide) (by decide)), N6.cg e9, E6.to (b4.1 113 (by decide) (by decide)) (b4.1 114 (by decide) (by decide)) (b4.1 116 (by decide) (by decide)) (b4.1 117 (by decide) (by decide)) (b4.1 118 (by decide) (by decide)) (b4.1 119 (by decide) (by decide)) b4.2, C6.cg e9, fun X cX => ?_, ?_, fun v hv => ?_⟩, wV, fV, _, CV⟩
  · rw [rk_cg e9]
    exact b5 X (cX.cg e9.symm)
  · rw [pC_cg e9]
    exact b1.fin
  · rw [e9, x69, x59]
    exact hit9 v hv
/-! ===== the first MOVE down, and the way that it makes ===== -/
theorem Pot.fit {R : Nat → Nat} {G : Cf} {p : Cf → Int} (h : Pot (Mv R) G p) (hG : Fit R G) : ∀ (k : Nat) (X : Cf), p X = k → Fit R X
  | 0, X, e => by rw [h.2.1 X e]; exact hG
  | k + 1, X, e => by
    obtain ⟨Y, a, b⟩ := h.2.2.2 X (by omega)
    exact a.fit (Pot.fit h hG k Y (by omega))
/-- y is the first MOVE from X that leads to a POTENTIAL that is 1 less -/
def Fst1 (R : Nat → Nat) (p : Cf → Int) (X : Cf) (y : Nat) : Prop := 0 < p X ∧ y < 80 ∧ mayX R X y = true ∧ p (mvX y X) = p X - 1 ∧ ∀ z, z < y → mayX R X z = true → ¬ p (mvX z X) = p X - 1
theorem Fst1.uniq {R : Nat → Nat} {p : Cf → Int} {X : Cf} {y z : Nat} (h : Fst1 R p X y) (k : Fst1 R p X z) : y = z := by
  obtain ⟨-, -, h2, h3, h4⟩ := h
  obtain ⟨-, -, k2, k3, k4⟩ := k
  rcases Nat.lt_trichotomy y z with c | c | c
  · exact absurd h3 (k4 y c h2)
  · exact c
  · exact absurd k3 (h4 z c k2)
theorem Pot.some1 {R : Nat → Nat} {G : Cf} {p : Cf → Int} (h : Pot (Mv R) G p) (hG : Fit R G) {X : Cf} (hX : 0 < p X) (ht : tot X ≤ 5) : ∃ y, y < 80 ∧ mayX R X y = true ∧ p (mvX y X) = p X - 1 := by
  obtain ⟨Y, a, b⟩ := h.2.2.2 X hX
  have f := h.fit hG (p Y).toNat Y (by omega)
  obtain ⟨y, y1, y2, y3⟩ := mv_y ht (mv_sym a f)
  exact ⟨y, y1, y2, by rw [← y3]; exact b⟩
theorem Fst1.ex {R : Nat → Nat} {p : Cf → Int} {X : Cf} (h0 : 0 < p X) : ∀ (k : Nat), k ≤ 80 → (∃ y, y < k ∧ mayX R X y = true ∧ p (mvX y X) = p X - 1) → ∃ y, Fst1 R p X y
  | 0, _, h => by obtain ⟨y, a, -⟩ := h; omega
  | k + 1, hk, h => by
    by_cases c : ∃ y, y < k ∧ mayX R X y = true ∧ p (mvX y X) = p X - 1
    · exact Fst1.ex h0 k (by omega) c
    · obtain ⟨y, a, b, d⟩ := h
      have e : y = k := by
        rcases Nat.lt_or_ge y k with z | z
        · exact absurd ⟨y, z, b, d⟩ c
        · omega
      subst e
      exact ⟨y, h0, by omega, b, d, fun z z1 z2 z3 => c ⟨z, z1, z2, z3⟩⟩
/-- two rows of POTENTIALS that agree where there are any -/
def SameP (p p' : Cf → Int) : Prop := ∀ X, (0 ≤ p X → p' X = p X) ∧ (0 ≤ p' X → p X = p' X)
theorem SameP.of {R : Nat → Nat} {G : Cf} {p p' : Cf → Int} (h : Pot (Mv R) G p) (h' : Pot (Mv R) G p') : SameP p p' := fun X => ⟨fun a => h.eq h' a, fun a => h'.eq h a⟩
theorem Fst1.to {R : Nat → Nat} {p p' : Cf → Int} {X : Cf} {y : Nat} (s : SameP p p') (h : Fst1 R p X y) : Fst1 R p' X y := by
  obtain ⟨h0, h1, h2, h3, h4⟩ := h
  have e := (s X).1 (by omega)
  have e2 := (s (mvX y X)).1 (by omega)
  refine ⟨by omega, h1, h2, by omega, fun z z1 z2 z3 => h4 z z1 z2 ?_⟩
  have := (s (mvX z X)).2 (by omega)
  omega
/-- the way of the MOVES down -/
def Way1 (R : Nat → Nat) (p : Cf → Int) (X0 : Cf) (l : Nat) (Xs : Nat → Cf) (ys : Nat → Nat) : Prop := Xs 0 = X0 ∧ ∀ j, j < l → Fst1 R p (Xs j) (ys j) ∧ Xs (j + 1) = mvX (ys j) (Xs j)
theorem Way1.to {R : Nat → Nat} {p p' : Cf → Int} {X0 : Cf} {l : Nat} {Xs : Nat → Cf} {ys : Nat → Nat} (s : SameP p p') (h : Way1 R p X0 l Xs ys) : Way1 R p' X0 l Xs ys := ⟨h.1, fun j hj => ⟨(h.2 j hj).1.to s, (h.2 j hj).2⟩⟩
theorem Way1.uniq {R : Nat → Nat} {p : Cf → Int} {X0 : Cf} {l : Nat} {Xs Zs : Nat → Cf} {ys zs : Nat → Nat} (h : Way1 R p X0 l Xs ys) (k : Way1 R p X0 l Zs zs) : ∀ j, j ≤ l → Xs j = Zs j ∧ (j < l → ys j = zs j)
  | 0, _ => by
    have e : Xs 0 = Zs 0 := by rw [h.1, k.1]
    refine ⟨e, fun hl => ?_⟩
    have a := (h.2 0 hl).1
    rw [e] at a
    exact a.uniq (k.2 0 hl).1
  | j + 1, hj => by
    obtain ⟨e, e2⟩ := Way1.uniq h k j (by omega)
    have e3 := e2 (by omega)
    have e4 : Xs (j + 1) = Zs (j + 1) := by rw [(h.2 j (by omega)).2, (k.2 j (by omega)).2, e, e3]
    refine ⟨e4, fun hl => ?_⟩
    have a := (h.2 (j + 1) hl).1
    rw [e4] at a
    exact a.uniq (k.2 (j + 1) hl).1
theorem Way1.add {R : Nat → Nat} {p : Cf → Int} {X0 : Cf} {l : Nat} {Xs : Nat → Cf} {ys : Nat → Nat} {y : Nat} (h : Way1 R p X0 l Xs ys) (f : Fst1 R p (Xs l) y) : Way1 R p X0 (l + 1) (ups Xs (l + 1) (mvX y (Xs l))) (ups ys l y) := by
  refine ⟨by rw [ups_n _ _ (by omega)]; exact h.1, fun j hj => ?_⟩
  by_cases c : j = l
  · rw [c, ups_n _ _ (show l ≠ l + 1 by omega), ups_k, ups_k]
    exact ⟨f, rfl⟩
  · rw [ups_n _ _ (show j ≠ l + 1 by omega), ups_n _ _ c, ups_n _ _ (show j + 1 ≠ l + 1 by omega)]
    exact h.2 j (by omega)
/-! ===== the class: of, entryDown ===== -/
def TBL (S : SS) (rm : Nat → Nat) (n W : Nat) : Prop := QW S n W ∧ TB S n ∧ NB S n ∧ EN S rm n S
def TR : List Nat := [71, 109, 113, 114, 115, 116, 117, 118, 119]
theorem TBL.cg {S T : SS} {rm : Nat → Nat} {n W : Nat} (h : TBL S rm n W) (e : ∀ q, q ∈ TR → T.1 q = S.1 q) (e2 : T.2 = S.2) : TBL T rm n W := by
  obtain ⟨h1, h2, h3, h4⟩ := h
  have e71 := e 71 (by decide)
  exact ⟨h1.of e2 (by rw [e71]) (by rw [e71]) (by rw [e71]), h2.cg (e 113 (by decide)) (e 114 (by decide)) (e 115 (by decide)), h3.cg (e 109 (by decide)), h4.to (e 113 (by decide)) (e 114 (by decide)) (e 116 (by decide)) (e 117 (by decide)) (e 118 (by decide)) (e 119 (by decide)) e2⟩
theorem ofe {S : SS} {n W a : Nat} (hw : QW S n W) (ha : a < facN n * shN n) : f_Potentials_of (nI a) S = some (S.1 120 a, S) := by
  have q := qn hw.1 hw.2.1
  have ha' := ha
  rw [fac_fc (by have := hw.1; have := hw.2.1; omega)] at ha'
  rw [f_Potentials_of.eq_1, isr_t hw ha, bnd_r, if_neg (by decide), grT (inb_nI (by rw [hw.2.2.2.2.2.2.2.2.2.2.2.1]; omega) (by rw [hw.2.2.2.2.2.2.2.2.2.2.2.1]; omega)), nI_clamp (by omega)]
theorem ofn {S : SS} {n W : Nat} (hw : QW S n W) : f_Potentials_of (-4) S = some (-4, S) := by
  rw [f_Potentials_of.eq_1, f_Potentials_isRank.eq_1, if_pos (by decide), bnd_r, if_pos rfl]
theorem ed26 {S V : SS} {rm : Nat → Nat} {n W : Nat} {X : Cf} {r : Int32} (hB : TBL S rm n W) (hX : Cl S n X) : ∀ (N k : Nat), k ≤ ctB (pS S rm (shC n X)) 80 → (∀ y, y < 80 → mayX rm X y = true → ctB (pS S rm (shC n X)) y < k → ¬ S.1 120 (rkC S n (mvX y X)) = S.1 120 (rkC S n X) - 1) → f_Potentials_entryDown_L26 N (nI (rkC S n X)) (nI (shC n X)) (nI (feN S rm (shC n X) + k)) S = some (r, V) → V = S ∧ ((r = -4 ∧ ∀ y, y < 80 → mayX rm X y = true → ¬ S.1 120 (rkC S n (mvX y X)) = S.1 120 (rkC S n X) - 1) ∨ ∃ y, y < 80 ∧ mayX rm X y = true ∧ S.1 120 (rkC S n (mvX y X)) = S.1 120 (rkC S n X) - 1 ∧ (∀ z, z < y → mayX rm X z = true → ¬ S.1 120 (rkC S n (mvX z X)) = S.1 120 (rkC S n X) - 1) ∧ r = nI (feN S rm (shC n X) + ctB (pS S rm (shC n X)) y))
  | 0, k, _, _, h => by cases h
  | N + 1, k, hk, hno, h => by
    obtain ⟨hw, ht, hb, he⟩ := id hB
    have hn : n ≤ 5 := by have := hw.1; have := hw.2.1; omega
    have qq := qn hw.1 hw.2.1
    obtain ⟨k1, k2, k3, k4, k5⟩ := rk_lt hn hb hX
    have fl := feN_le S rm (shC n X)
    have cl' := ctB_le (pS S rm (shC n X)) 80
    rw [f_Potentials_entryDown_L26.eq_2] at h
    replace h := (grd_i h).2
    rw [nI_1, nI_clamp (n := shC n X + 1) (by omega), he.2.1 (shC n X + 1) (by omega), feN_s] at h
    by_cases c : k = ctB (pS S rm (shC n X)) 80
    · rw [if_pos (nI_le (by omega) (by omega))] at h
      obtain ⟨a, b⟩ := so_i h
      exact ⟨b, Or.inl ⟨a, fun y y1 y2 => hno y y1 y2 (by rw [c]; exact ctB_lt (by rw [pS_eq hn ht hX y1]; exact y2) y1)⟩⟩
    · rw [if_neg (nI_ge (by omega) (by omega))] at h
      obtain ⟨y, y1, y2, y3⟩ := ctB_on (p := pS S rm (shC n X)) 80 k (by omega)
      have my : mayX rm X y = true := by rw [← pS_eq hn ht hX y1]; exact y2
      obtain ⟨-, -, -, mv⟩ := mayX_mv y1 my
      have hZ : Cl S n (mvX y X) := cl_mv hX mv
      obtain ⟨z1, z2, z3, -, -⟩ := rk_lt hn hb hZ
      obtain ⟨r5, S4, g5, h⟩ := bnd_i h
      rw [← y3] at g5
      obtain ⟨rfl, rfl⟩ := raf hw ht hb he hX y1 my g5
      rw [ofe hw z3, bnd_r, ofe hw k3, bnd_r] at h
      by_cases d : S4.1 120 (rkC S4 n (mvX y X)) = S4.1 120 (rkC S4 n X) - 1
      · rw [if_pos d] at h
        obtain ⟨a, b⟩ := so_i h
        refine ⟨b, Or.inr ⟨y, y1, my, d, fun z w1 w2 => hno z (by omega) w2 ?_, by rw [a, y3]⟩⟩
        rw [← y3]
        exact ctB_lt (by rw [pS_eq hn ht hX (by omega)]; exact w2) w1
      · rw [if_neg d, nmR, nI_1] at h
        refine ed26 hB hX N (k + 1) (by omega) (fun z w1 w2 w3 => ?_) h
        by_cases e : ctB (pS S4 rm (shC n X)) z < k
        · exact hno z w1 w2 e
        · rw [ctB_inj (p := pS S4 rm (shC n X)) (x := z) (y := y) (by rw [pS_eq hn ht hX w1]; exact w2) y2 (by omega)]
          exact d
theorem edn {S V : SS} {rm : Nat → Nat} {n W : Nat} {X : Cf} {r : Int32} (hB : TBL S rm n W) (hX : Cl S n X) (h : f_Potentials_entryDown (nI (rkC S n X)) S = some (r, V)) : V = S ∧ ((r = -4 ∧ ∀ y, y < 80 → mayX rm X y = true → ¬ S.1 120 (rkC S n (mvX y X)) = S.1 120 (rkC S n X) - 1) ∨ ∃ y, y < 80 ∧ mayX rm X y = true ∧ S.1 120 (rkC S n (mvX y X)) = S.1 120 (rkC S n X) - 1 ∧ (∀ z, z < y → mayX rm X z = true → ¬ S.1 120 (rkC S n (mvX z X)) = S.1 120 (rkC S n X) - 1) ∧ r = nI (feN S rm (shC n X) + ctB (pS S rm (shC n X)) y)) := by
  obtain ⟨hw, ht, hb, he⟩ := id hB
  have hn : n ≤ 5 := by have := hw.1; have := hw.2.1; omega
  have qq := qn hw.1 hw.2.1
  obtain ⟨k1, k2, k3, k4, k5⟩ := rk_lt hn hb hX
  have k3' := k3
  rw [fac_fc hn] at k3'
  rw [f_Potentials_entryDown.eq_1, isr_t hw k3, bnd_r, if_neg (by decide)] at h
  replace h := (grd_i h).2
  rw [hw.2.2.2.2.1, nI_rem (by omega) (by omega) (by omega), k5, f_Potentials_entryDown_j18.eq_1] at h
  replace h := (grd_i h).2
  rw [nmR, nI_clamp (by omega), he.2.1 _ (by omega)] at h
  exact ed26 hB hX NF 0 (Nat.zero_le _) (fun y _ _ q => absurd q (Nat.not_lt_zero _)) h
theorem i32_pred {x : Int32} (h : 0 < x.toInt) : (x - 1).toInt = x.toInt - 1 := by
  have b := Int32.toInt_le x
  have m : Int32.maxValue.toInt = 2147483647 := by decide
  have vi : x = nI x.toInt.toNat := by
    apply Int32.toInt_inj.mp
    rw [nI_ti (by omega)]
    omega
  have e : x - 1 = nI (x.toInt.toNat - 1) := by
    have : x - 1 = nI x.toInt.toNat - nI 1 := by rw [← vi]; rfl
    rw [this, nI_sb (by omega) (by omega)]
  rw [e, nI_ti (by omega)]
  omega
/-- the POTENTIAL of a way to stand, and a row below -/
theorem pC_dn {S T : SS} {n : Nat} {X Z : Cf} (hX : Cl S n X) (hZ : Cl S n Z) (h0 : 0 < pC S n T X) : T.1 120 (rkC S n Z) = T.1 120 (rkC S n X) - 1 ↔ pC S n T Z = pC S n T X - 1 := by
  rw [pC_y hX] at h0
  rw [pC_y hX, pC_y hZ, ← i32_pred h0, Int32.toInt_inj]
/-! ===== makeLeast exactly ===== -/
def pkY (y : Nat) : Nat := 64 * (y / 20) + 16 * (y / 5 % 4) + (y % 5 + 1)
def FL (S T : SS) : Prop := (∀ q, q ≠ 107 → q ≠ 108 → q ≠ 70 → T.1 q = S.1 q) ∧ T.2 = S.2
/-- a PLAN of the class, made by LEAST -/
def LST (S V : SS) (rm : Nat → Nat) (n : Nat) (X0 : Cf) (l : Nat) (r : Int32) : Prop := r = nI l ∧ V.1 70 7 = nI l ∧ V.1 70 8 = 1 ∧ FL S V ∧ ∃ Xs ys, Way1 rm (pC S n S) X0 l Xs ys ∧ pC S n S X0 = l ∧ (∀ j, j < l → V.1 107 j = nI (pkY (ys j))) ∧ ∀ j, j ≤ l → Cl S n (Xs j) ∧ V.1 108 j = nI (rkC S n (Xs j))
theorem moe {S : SS} {E : Nat} (h : E < S.2 117) (h8 : S.2 117 ≤ 840) : f_Potentials_moveOf (nI E) S = some (S.1 117 E, S) := by
  rw [f_Potentials_moveOf.eq_1, if_neg (nI_nn (by omega)), if_pos (show nI E < Int32.ofNat (S.2 117) from (nI_ltJ (by omega) (by omega)).mpr h), grT (inb_nI h (by omega)), nI_clamp (by omega)]
set_option maxHeartbeats 1000000 in
theorem ml65 {S V : SS} {rm : Nat → Nat} {n W l : Nat} {X0 : Cf} {r : Int32} (hB : TBL S rm n W) (hl : l ≤ 128) (h0 : pC S n S X0 = l) (hP : ∀ X, Cl S n X → 0 < pC S n S X → ∃ y, y < 80 ∧ mayX rm X y = true ∧ pC S n S (mvX y X) = pC S n S X - 1) : ∀ (N k : Nat) (T : SS) (Xs : Nat → Cf) (ys : Nat → Nat), k ≤ l → FL S T → Way1 rm (pC S n S) X0 k Xs ys → pC S n S (Xs k) = (l : Int) - k → (∀ j, j < k → T.1 107 j = nI (pkY (ys j))) → (∀ j, j ≤ k → Cl S n (Xs j) ∧ T.1 108 j = nI (rkC S n (Xs j))) → f_Plans_makeLeast_L65 N (nI l) (nI k) T = some (r, V) → LST S V rm n X0 l r
  | 0, k, T, Xs, ys, _, _, _, _, _, _, h => by cases h
  | N + 1, k, T, Xs, ys, hk, hF, hY, hp, h7, h8, h => by
    rw [f_Plans_makeLeast_L65.eq_2] at h
    by_cases c : k = l
    · rw [if_pos (nI_le (by omega) (by omega)), wr_r, wr_r] at h
      obtain ⟨a, b⟩ := so_i h
      subst c b
      refine ⟨by rw [a, st_at, if_pos rfl, if_neg (by decide), st_at, if_pos rfl, if_pos rfl], by rw [st_at, if_pos rfl, if_neg (by decide), st_at, if_pos rfl, if_pos rfl], by rw [st_at, if_pos rfl, if_pos rfl], ⟨fun q x y z => by rw [st_row _ _ _ _ z, st_row _ _ _ _ z]; exact hF.1 q x y z, hF.2⟩, Xs, ys, hY, h0, fun j hj => by rw [st_row _ _ _ _ (by decide), st_row _ _ _ _ (by decide)]; exact h7 j hj, fun j hj => by rw [st_row _ _ _ _ (by decide), st_row _ _ _ _ (by decide)]; exact h8 j hj⟩
    · rw [if_neg (nI_ge (by omega) (by omega))] at h
      replace h := (grd_i h).2
      obtain ⟨hX, e8⟩ := h8 k (Nat.le_refl k)
      rw [nI_clamp (n := k) (by omega), e8] at h
      have cg : ∀ U : SS, (∀ q, q ≠ 107 → q ≠ 108 → q ≠ 70 → U.1 q = S.1 q) → U.2 = S.2 → TBL U rm n W := fun U u1 u2 => hB.cg (fun q hq => by
        have : q = 71 ∨ q = 109 ∨ q = 113 ∨ q = 114 ∨ q = 115 ∨ q = 116 ∨ q = 117 ∨ q = 118 ∨ q = 119 := by simpa [TR] using hq
        exact u1 q (by omega) (by omega) (by omega)) u2
      have BT := cg T hF.1 hF.2
      have t9 : T.1 109 = S.1 109 := hF.1 109 (by decide) (by decide) (by decide)
      have t120 : T.1 120 = S.1 120 := hF.1 120 (by decide) (by decide) (by decide)
      have XT : Cl T n (Xs k) := hX.cg t9
      have hn : n ≤ 5 := by have := hB.1.1; have := hB.1.2.1; omega
      have q := qn hB.1.1 hB.1.2.1
      obtain ⟨r11, S10, g11, h⟩ := bnd_i h
      rw [← rk_cg (S := S) (T := T) t9] at g11
      obtain ⟨rfl, d⟩ := edn BT XT g11
      simp only [rk_cg (S := S) (T := S10) t9, t120] at d
      have pp : 0 < pC S n S (Xs k) := by omega
      obtain ⟨y, y1, y2, y3, y4, rfl⟩ : ∃ y, y < 80 ∧ mayX rm (Xs k) y = true ∧ S.1 120 (rkC S n (mvX y (Xs k))) = S.1 120 (rkC S n (Xs k)) - 1 ∧ (∀ z, z < y → mayX rm (Xs k) z = true → ¬ S.1 120 (rkC S n (mvX z (Xs k))) = S.1 120 (rkC S n (Xs k)) - 1) ∧ r11 = nI (feN S10 rm (shC n (Xs k)) + ctB (pS S10 rm (shC n (Xs k))) y) := by
        rcases d with ⟨-, d⟩ | d
        · obtain ⟨y, y1, y2, y3⟩ := hP _ hX pp
          exact absurd ((pC_dn hX (cl_mv hX (mayX_mv y1 y2).2.2.2) pp).mpr y3) (d y y1 y2)
        · exact d
      have hZ : Cl S n (mvX y (Xs k)) := cl_mv hX (mayX_mv y1 y2).2.2.2
      have F1' : Fst1 rm (pC S n S) (Xs k) y := ⟨pp, y1, y2, (pC_dn hX hZ pp).mp y3, fun z z1 z2 z3 => y4 z z1 z2 ((pC_dn hX (cl_mv hX (mayX_mv (by omega) z2).2.2.2) pp).mpr z3)⟩
      obtain ⟨hw, ht, hb, he⟩ := id BT
      obtain ⟨k1, k2, k3, k4, k5⟩ := rk_lt hn hb XT
      obtain ⟨e7, -, -, eb⟩ := he.2.2 (shC n (Xs k)) k1 y y1 (by rw [pS_eq hn ht XT y1]; exact y2)
      have l7 : S10.2 117 ≤ 840 := by rw [hw.2.2.2.2.2.2.2.2.1]; omega
      rw [moe eb l7, bnd_r, e7] at h
      replace h := (grd_i h).2
      rw [wr_r] at h
      replace h := (grd_i h).2
      obtain ⟨r16, S15, g16, h⟩ := bnd_i h
      have B4 := cg (st S10 107 k (nI (pkY y))) (fun q a b c => by rw [st_row _ _ _ _ a]; exact hF.1 q a b c) hF.2
      have f9 : (st S10 107 k (nI (pkY y))).1 109 = S.1 109 := by rw [st_row _ _ _ _ (by decide)]; exact t9
      have f4 : (st S10 107 k (nI (pkY y))).1 114 = S10.1 114 := by rw [st_row _ _ _ _ (by decide)]
      have fc := fe_cg (rm := rm) f4
      have g16' : f_Potentials_rankAfter (nI (rkC (st S10 107 k (nI (pkY y))) n (Xs k))) (nI (feN (st S10 107 k (nI (pkY y))) rm (shC n (Xs k)) + ctB (pS (st S10 107 k (nI (pkY y))) rm (shC n (Xs k))) y)) (st S10 107 k (nI (pkY y))) = some (r16, S15) := by
        rw [rk_cg f9, fc.1, fc.2]
        rw [st_row _ _ _ _ (by decide), e8] at g16
        exact g16
      obtain ⟨e15, e16⟩ := raf B4.1 B4.2.1 B4.2.2.1 B4.2.2.2 (hX.cg f9) y1 y2 g16'
      subst e15
      rw [rk_cg f9] at e16
      subst e16
      replace h := (grd_i h).2
      rw [wr_r, nmR, nI_1, nI_clamp (n := k + 1) (by omega)] at h
      refine ml65 hB hl h0 hP N (k + 1) (st (st S10 107 k (nI (pkY y))) 108 (k + 1) (nI (rkC S n (mvX y (Xs k))))) _ _ (by omega) ⟨fun q a b c => by rw [st_row _ _ _ _ b, st_row _ _ _ _ a]; exact hF.1 q a b c, hF.2⟩ (hY.add F1') (by rw [ups_k, F1'.2.2.2.1]; omega) (fun j hj => ?_) (fun j hj => ?_) h
      · rw [st_row _ 108 _ _ (by decide), st_at, if_pos rfl]
        by_cases cj : j = k
        · rw [if_pos cj, cj, ups_k]
        · rw [if_neg cj, ups_n _ _ cj]; exact h7 j (by omega)
      · rw [st_at, if_pos rfl, st_row _ 107 _ _ (by decide)]
        by_cases cj : j = k + 1
        · rw [if_pos cj, cj, ups_k]; exact ⟨hZ, rfl⟩
        · rw [if_neg cj, ups_n _ _ cj]; exact h8 j (by omega)
theorem nd_len {l l' : List Nat} (h : l.Nodup) (h' : l'.Nodup) (e : ∀ w, w ∈ l ↔ w ∈ l') : l.length = l'.length := by
  refine List.Perm.length_eq (List.perm_iff_count.mpr (fun w => ?_))
  have a := List.nodup_iff_count.mp h w
  have b := List.nodup_iff_count.mp h' w
  have c : 0 < l.count w ↔ 0 < l'.count w := by rw [List.count_pos_iff, List.count_pos_iff]; exact e w
  omega
theorem TT.cg {S T : SS} (h : TT S) (e : ∀ q, q ∈ [71, 113, 114, 115] → T.1 q = S.1 q) : TT T := fun n n5 e5 e7 => by
  rw [e 71 (by decide)] at e5 e7
  exact (h n n5 e5 e7).cg (e 113 (by decide)) (e 114 (by decide)) (e 115 (by decide))
/-- what makeLeast does -/
def MKL (S V : SS) (rm : Nat → Nat) (r : Int32) : Prop := ∃ S2 S3 n W, SPF S S2 rm n W ∧ Cl S2 n (cfT S) ∧ F1 TL TFl (Dp S) S2 ∧ (∀ q, q ≠ 110 → q ≠ 112 → S3.1 q = S2.1 q) ∧ S3.2 = S2.2 ∧ ((r = -4 ∧ (pC S2 n S2 (cfT S) < 0 ∨ 128 < pC S2 n S2 (cfT S)) ∧ V = S3) ∨ ∃ l, LST S3 V rm n (cfT S) l r)
set_option maxHeartbeats 1000000 in
theorem mkl {S V : SS} {G : Nat} {rm : Nat → Nat} {r : Int32} (hW : WR S) (hC : CQ S G) (hT : TT S) (hr : ∀ t, t < 4 → S.1 106 t = nI (rm t) ∧ rm t ≤ 10) (h9 : ∀ i, rg (S.1 124 i) 0 9) (hD : DW (S.1 125) (S.1 124)) (h9' : ∀ i, rg (S.1 122 i) 0 9) (hD' : DW (S.1 123) (S.1 122)) (h5 : oHg S 4 ≤ 5) (hs : ∀ w, w < 10 → (Bef (S.1 123) (S.1 122) (nI w) 4 0 ↔ Bef (S.1 125) (S.1 124) (nI w) 4 0)) (hfit : Fit rm (cfG S)) (h : f_Plans_makeLeast S = some (r, V)) : MKL S V rm r := by
  rw [f_Plans_makeLeast.eq_1] at h
  obtain ⟨S1, g1, h⟩ := bndv_i h
  have e1 : S1 = Dp S := by
    rw [f_Plans_drop.eq_1, wr_r, wr_r] at g1
    injection g1 with g1
    exact g1.symm
  subst e1
  have dr : ∀ q, q ≠ 70 → (Dp S).1 q = S.1 q := fun q hq => by
    unfold Dp
    rw [st_row _ _ _ _ hq, st_row _ _ _ _ hq]
  have wD : WR (Dp S) := WR.st (k := 70) (i := 7) (WR.st (k := 70) (i := 8) hW trivial rfl rfl) (rgl 0 0 128 rfl) rfl rfl
  have fD : Fr [] [(70, 7), (70, 8)] S (Dp S) := ⟨fun a b q => by
    unfold Dp
    rw [st_at, st_at]
    by_cases c : a = 70
    · subst c
      rw [if_pos rfl, if_pos rfl]
      by_cases c7 : b = 7
      · subst c7; cases q
      · by_cases c8 : b = 8
        · subst c8; cases q
        · rw [if_neg c7, if_neg c8]
    · rw [if_neg c, if_neg c], rfl⟩
  have cD : CQ (Dp S) G := hC.fr fD (fun k hk i => by
    simp only [List.mem_cons, List.mem_nil_iff, or_false] at hk
    rcases hk with rfl | rfl | rfl | rfl | rfl | rfl <;> rfl) (fun i => rfl) ⟨rfl, rfl, rfl⟩
  obtain ⟨S2, g2, h⟩ := bndv_i h
  have hh : ∀ i, rg (S.1 125 i) 0 10 := ro_125 hW
  have hh' : ∀ i, rg (S.1 123 i) 0 10 := ro_123 hW
  obtain ⟨n, W, sp, w2, f2, G', c2⟩ := spf (S := Dp S) (rm := rm) wD cD (hT.cg (fun q hq => dr q (by
      have : q = 71 ∨ q = 113 ∨ q = 114 ∨ q = 115 := by simpa using hq
      omega))) (fun t ht => by rw [dr 106 (by decide)]; exact hr t ht) (by rw [dr 124 (by decide)]; exact h9) (by rw [dr 125 (by decide), dr 124 (by decide)]; exact hD) h5 g2
  have cg : cfG (Dp S) = cfG S := gX_cg (by decide) hh (dr 124 (by decide)) (dr 125 (by decide))
  have sp' : SPF S S2 rm n W := by
    unfold SPF at sp ⊢
    rw [cg, dr 125 (by decide), dr 124 (by decide)] at sp
    exact sp
  obtain ⟨p1, p2, p3, p4, p5, p6, p7, p8⟩ := id sp'
  have hn : n ≤ 5 := by have := p1.1; have := p1.2.1; omega
  obtain ⟨r4, S3, g4, h⟩ := bnd_i h
  have r22 : S2.1 122 = S.1 122 := by rw [frow f2 122 (fun _ => rfl), dr 122 (by decide)]
  have r23 : S2.1 123 = S.1 123 := by rw [frow f2 123 (fun _ => rfl), dr 123 (by decide)]
  have ct : cfT S2 = cfT S := gX_cg (by decide) hh' r22 r23
  obtain ⟨nd, mb⟩ := gX_fl hW (by decide) hh' h9' hD'
  obtain ⟨ndg, mbg⟩ := gX_fl hW (by decide) hh h9 hD
  obtain ⟨w3, f3, r3⟩ := ex_i (rkx_start w2 p1.qa c2.1) g4
  obtain ⟨y1, y2⟩ := ro_start w2 p1 p2 p3 (by rw [r22]; exact h9') (by rw [ct]; exact nd) g4
  rw [ct] at y2
  have C2 : Cl S2 n (cfT S) := by
    refine ⟨?_, nd, fun v hv => ?_, fun s hs => cfS_far _ hs⟩
    · have t := p5.1
      rw [← flat_len] at t ⊢
      rw [← t]
      refine nd_len nd ndg (fun w => ⟨fun q => ?_, fun q => ?_⟩)
      · have v10 := gX_lt (by decide) hh' h9' q
        exact (mbg w v10).mpr ((hs w v10).mp ((mb w v10).mp q))
      · have v10 := gX_lt (by decide) hh h9 q
        exact (mb w v10).mpr ((hs w v10).mpr ((mbg w v10).mp q))
    · have v10 := gX_lt (by decide) hh' h9' hv
      exact ⟨v10, (p8 v v10).mpr ((hs v v10).mp ((mb v v10).mp hv))⟩
  obtain ⟨rfl, -⟩ : r4 = nI (rkC S2 n (cfT S)) ∧ Cl S2 n (cfT S) := by
    rcases y2 with ⟨-, b⟩ | y2
    · exact absurd C2 b
    · exact y2
  have x9 : S3.1 109 = S2.1 109 := y1 109 (by decide) (by decide)
  have x120 : S3.1 120 = S2.1 120 := y1 120 (by decide) (by decide)
  have q3 : QW S3 n W := p1.of f3.2 (f3.1 71 5 rfl) (f3.1 71 6 rfl) (f3.1 71 7 rfl)
  have k3 := (rk_lt hn p3 C2).2.2.1
  rw [ofe q3 k3, bnd_r, x120] at h
  have pe : pC S3 n S3 = pC S2 n S2 := by
    rw [pC_cg x9]
    funext X
    by_cases c : Cl S2 n X
    · rw [pC_y c, pC_y c, x120]
    · rw [pC_n c, pC_n c]
  have py : pC S2 n S2 (cfT S) = (S2.1 120 (rkC S2 n (cfT S))).toInt := pC_y C2
  refine ⟨S2, S3, n, W, sp', C2, f2, y1, f3.2, ?_⟩
  by_cases c4 : S2.1 120 (rkC S2 n (cfT S)) = -4
  · rw [if_pos c4] at h
    obtain ⟨a, b⟩ := so_i h
    exact Or.inl ⟨a, Or.inl (by rw [py, c4]; decide), b⟩
  · rw [if_neg c4] at h
    have ge := (p6 _ C2).resolve_left c4
    have vi : S2.1 120 (rkC S2 n (cfT S)) = nI (S2.1 120 (rkC S2 n (cfT S))).toInt.toNat := by
      have b := Int32.toInt_le (S2.1 120 (rkC S2 n (cfT S)))
      have m : Int32.maxValue.toInt = 2147483647 := by decide
      apply Int32.toInt_inj.mp
      rw [nI_ti (by omega)]
      omega
    have lb : (S2.1 120 (rkC S2 n (cfT S))).toInt.toNat < 2 ^ 31 := by
      have b := Int32.toInt_le (S2.1 120 (rkC S2 n (cfT S)))
      have m : Int32.maxValue.toInt = 2147483647 := by decide
      omega
    rw [vi] at h
    have py2 : pC S2 n S2 (cfT S) = ((S2.1 120 (rkC S2 n (cfT S))).toInt.toNat : Int) := by rw [py]; omega
    generalize (S2.1 120 (rkC S2 n (cfT S))).toInt.toNat = l at h lb py2
    by_cases c128 : l ≤ 128
    · have le : nI l ≤ (128 : Int32) := nI_le (b := 128) c128 (by omega)
      rw [if_pos le] at h
      replace h := (grd_i h).2
      rw [wr_r, show (0 : Int32).toNatClampNeg = 0 from rfl] at h
      right
      have B3 : TBL S3 rm n W := TBL.cg ⟨p1, p2, p3, p4⟩ (fun q hq => y1 q (by
        have : q = 71 ∨ q = 109 ∨ q = 113 ∨ q = 114 ∨ q = 115 ∨ q = 116 ∨ q = 117 ∨ q = 118 ∨ q = 119 := by simpa [TR] using hq
        omega) (by
        have : q = 71 ∨ q = 109 ∨ q = 113 ∨ q = 114 ∨ q = 115 ∨ q = 116 ∨ q = 117 ∨ q = 118 ∨ q = 119 := by simpa [TR] using hq
        omega)) f3.2
      have h' : f_Plans_makeLeast_L65 NF (nI l) (nI 0) (st S3 108 0 (nI (rkC S2 n (cfT S)))) = some (r, V) := h
      refine ⟨l, ml65 B3 c128 (by rw [pe]; exact py2) (fun X cX pX => ?_) NF 0 _ (fun _ => cfT S) (fun _ => 0) (by omega) ⟨fun q a b c => st_row _ _ _ _ b, rfl⟩ ⟨rfl, fun j hj => absurd hj (Nat.not_lt_zero _)⟩ (by rw [pe]; show pC S2 n S2 (cfT S) = _; rw [py2]; omega) (fun j hj => absurd hj (Nat.not_lt_zero _)) (fun j hj => ?_) h'⟩
      · rw [pe] at pX ⊢
        exact p7.some1 hfit pX (by rw [cX.1]; exact hn)
      · have : j = 0 := by omega
        subst this
        refine ⟨C2.cg x9, ?_⟩
        rw [st_at, if_pos rfl, if_pos rfl, rk_cg x9]
    · rw [if_neg (fun z : nI l ≤ (128 : Int32) => by
        have := (n_leJ (b := 128) lb (by omega)).mp z
        omega)] at h
      obtain ⟨a, b⟩ := so_i h
      exact Or.inl ⟨a, Or.inr (by rw [py2]; omega), b⟩
/-! ===== the reference: wander exactly ===== -/
theorem mvn_may {R : Nat → Nat} {X Z : Cf} {x : Nat} (h : Mvn R x X Z) : mayX R X x = true ∧ Z = mvX x X := by
  obtain ⟨a, b, c, d⟩ := h
  refine ⟨?_, d⟩
  unfold mayX mayB
  rw [Bool.and_eq_true, Bool.and_eq_true, Bool.not_eq_true', Nat.ble_eq, Nat.ble_eq]
  refine ⟨⟨?_, b⟩, c⟩
  cases q : Nat.beq (x / 20) (x / 5 % 4)
  · rfl
  · exact absurd (Nat.eq_of_beq_eq_true q) a
theorem may_mvn {R : Nat → Nat} {X : Cf} {x : Nat} (hx : x < 80) (h : mayX R X x = true) : Mvn R x X (mvX x X) := by
  obtain ⟨a, b, c, -⟩ := mayX_mv hx h
  exact ⟨a, b, c, rfl⟩
theorem pR_dn {B : SS} {n : Nat} {X Z : Cf} (hX : Cn B n X) (hZ : Cn B n Z) (h0 : 0 < pR B n X) : B.1 55 (cdX B n Z) = B.1 55 (cdX B n X) - 1 ↔ pR B n Z = pR B n X - 1 := by
  rw [pR_y hX] at h0
  rw [pR_y hX, pR_y hZ, ← i32_pred h0, Int32.toInt_inj]
set_option maxHeartbeats 1000000 in
theorem wn25 {B V : SS} {K : Int32 → SS → Option SS} {n m : Nat} {X : Cf} (hp : PW B n) (hr : ∀ s, rmN B s ≤ 10) (hX : Cn B n X) (hm : m + 1 < 400) : ∀ (N x : Nat) (T : SS), WR T → WF B T → T.1 0 77 = nI m → (∀ z, z < x → mayX (rmN B) X z = true → ¬ B.1 55 (cdX B n (mvX z X)) = B.1 55 (cdX B n X) - 1) → (∃ y, x ≤ y ∧ y < 80 ∧ mayX (rmN B) X y = true ∧ B.1 55 (cdX B n (mvX y X)) = B.1 55 (cdX B n X) - 1) → f_M_wander_L25 K N (nI (cdX B n X)) (nI x) T = some V → ∃ y T', y < 80 ∧ mayX (rmN B) X y = true ∧ B.1 55 (cdX B n (mvX y X)) = B.1 55 (cdX B n X) - 1 ∧ (∀ z, z < y → mayX (rmN B) X z = true → ¬ B.1 55 (cdX B n (mvX z X)) = B.1 55 (cdX B n X) - 1) ∧ WR T' ∧ WF B T' ∧ T'.1 0 77 = nI (m + 1) ∧ (∀ j, T'.1 51 j = if j = m then nI (y / 20) else T.1 51 j) ∧ (∀ j, T'.1 52 j = if j = m then nI (y / 5 % 4) else T.1 52 j) ∧ (∀ j, T'.1 53 j = if j = m then nI (y % 5 + 1) else T.1 53 j) ∧ (∀ j, T'.1 56 j = if j = m + 1 then nI (cdX B n (mvX y X)) else T.1 56 j) ∧ K (nI (cdX B n (mvX y X))) T' = some V
  | 0, x, T, _, _, _, _, _, h => by cases h
  | N + 1, x, T, hW, hF, h77, hno, hy, h => by
    obtain ⟨y, y1, y2, y3, y4⟩ := hy
    have hx : x < 80 := by omega
    rw [f_M_wander_L25.eq_2, x_20 hx, x_4 hx, x_5 hx] at h
    obtain ⟨r4, S3, g4, h⟩ := bnd_i h
    obtain ⟨w1, g1, h1⟩ := ex_i (hfx hp hr hX hW hF.sm hF.rm hx) g4
    have k55 : ∀ j, T.1 55 j = B.1 55 j := fun j => hF.1 55 j rfl
    have F1 : WF B S3 := Fr.tr hF g1 rfl
    have t77 : S3.1 0 77 = nI m := (g1.1 0 77 rfl).trans h77
    rcases h1 with ⟨r0, h1⟩ | ⟨r1, n1, Z, z1, z2, z3⟩
    · rw [if_pos r0, nmR, nI_1] at h
      have nox : mayX (rmN B) X x = true → ¬ B.1 55 (cdX B n (mvX x X)) = B.1 55 (cdX B n X) - 1 := fun q e => by
        have := h1 _ (may_mvn hx q)
        rw [k55, k55] at this
        exact this e
      obtain ⟨y', T', a1, a2, a3, a4, a5, a6, a7, a8, a9, a10, a11, a12⟩ := wn25 hp hr hX hm N (x + 1) S3 w1 F1 t77 (fun z z1 z2 => by
        by_cases c : z = x
        · subst c; exact nox z2
        · exact hno z (by omega) z2) ⟨y, by
          rcases Nat.lt_or_ge x y with c | c
          · omega
          · have : y = x := by omega
            subst this
            exact absurd y4 (nox y3), y2, y3, y4⟩ h
      exact ⟨y', T', a1, a2, a3, a4, a5, a6, a7, fun j => by rw [a8, g1.1 51 j rfl], fun j => by rw [a9, g1.1 52 j rfl], fun j => by rw [a10, g1.1 53 j rfl], fun j => by rw [a11, g1.1 56 j rfl], a12⟩
    · rw [if_neg (by rw [r1]; decide)] at h
      obtain ⟨my, rfl⟩ := mvn_may z1
      have cZ : Cn B n (mvX x X) := cn_mv hr hX (mvn_mv hx z1)
      rw [k55, k55] at z3
      rw [t77] at h
      replace h := (grd_i h).2
      rw [wr_r, nI_clamp (n := m) (by omega)] at h
      generalize e2 : st S3 51 m (nI (x / 20)) = T2 at h
      have w2 := wo_51 w1 (rg_nI (j := x / 20) (by omega) (by omega) (by omega)) e2.symm
      have q2 : ∀ a b, (a ≠ 51) → T2.1 a b = S3.1 a b := fun a b c => by rw [← e2, st_row _ _ _ _ c]
      have m2 : T2.2 = S3.2 := by rw [← e2]; rfl
      rw [q2 0 77 (by decide), t77] at h
      replace h := (grd_i h).2
      rw [wr_r, nI_clamp (n := m) (by omega)] at h
      generalize e3 : st T2 52 m (nI (x / 5 % 4)) = T3 at h
      have w3 := wo_52 w2 (rg_nI (j := x / 5 % 4) (by omega) (by omega) (by omega)) e3.symm
      have q3 : ∀ a b, (a ≠ 52) → T3.1 a b = T2.1 a b := fun a b c => by rw [← e3, st_row _ _ _ _ c]
      have m3 : T3.2 = T2.2 := by rw [← e3]; rfl
      rw [q3 0 77 (by decide), q2 0 77 (by decide), t77] at h
      replace h := (grd_i h).2
      rw [wr_r, nI_clamp (n := m) (by omega)] at h
      generalize e4 : st T3 53 m (nI (x % 5 + 1)) = T4 at h
      have w4 := WR.st (k := 53) w3 trivial rfl e4.symm
      have q4 : ∀ a b, (a ≠ 53) → T4.1 a b = T3.1 a b := fun a b c => by rw [← e4, st_row _ _ _ _ c]
      have m4 : T4.2 = T3.2 := by rw [← e4]; rfl
      have G4 : Fr [51, 52, 53] [] S3 T4 := ⟨fun a b q => by
        have n1 : a ≠ 51 := fun e => by subst e; cases q
        have n2 : a ≠ 52 := fun e => by subst e; cases q
        have n3 : a ≠ 53 := fun e => by subst e; cases q
        rw [q4 a b n3, q3 a b n2, q2 a b n1], by rw [m4, m3, m2]⟩
      have F4 : WF B T4 := Fr.tr F1 G4 rfl
      have a57 : ∀ i, T4.1 57 i = S3.1 57 i := fun i => G4.1 57 i rfl
      have a58 : ∀ i, T4.1 58 i = S3.1 58 i := fun i => G4.1 58 i rfl
      obtain ⟨r5, T5, g5', h⟩ := bnd_i h
      obtain ⟨w5, g5, e5⟩ := ex_i (cdx' hp cZ.1 F4.sm w4 (nn_cg n1 a57 a58) ((cf_cg a57 a58).trans z2)) g5'
      subst e5
      have hv := (cd_v hp cZ.1).2
      have t5 : T5.1 0 77 = nI m := by rw [g5.1 0 77 rfl, G4.1 0 77 rfl, t77]
      rw [wr_r, t5, nI_1] at h
      generalize e6 : st T5 0 77 (nI (m + 1)) = T6 at h
      have w6 := wo_0_77 w5 (rg_nI (j := m + 1) (by omega) (by omega) (by omega)) e6.symm
      have t6 : T6.1 0 77 = nI (m + 1) := by rw [← e6, st_at, if_pos rfl, if_pos rfl]
      have q6 : ∀ a b, (a ≠ 0) → T6.1 a b = T5.1 a b := fun a b c => by rw [← e6, st_row _ _ _ _ c]
      rw [t6] at h
      replace h := (grd_i h).2
      rw [wr_r, nI_clamp (n := m + 1) (by omega)] at h
      generalize e7 : st T6 56 (m + 1) (nI (cdX B n (mvX x X))) = T7 at h
      have w7 := wo_56 w6 (rg_nI (j := cdX B n (mvX x X)) (by omega) (by omega) (by omega)) e7.symm
      have q7 : ∀ a b, (a ≠ 56) → T7.1 a b = T6.1 a b := fun a b c => by rw [← e7, st_row _ _ _ _ c]
      have g6 : Fr [] [(0, 77)] T5 T6 := ⟨fun a b q => by
        rw [← e6, st_at]
        by_cases c : a = 0
        · subst c
          rw [if_pos rfl]
          by_cases d : b = 77
          · subst d; cases q
          · rw [if_neg d]
        · rw [if_neg c], by rw [← e6]; rfl⟩
      have g7 : Fr [56] [] T6 T7 := ⟨fun a b q => q7 a b (fun e => by subst e; cases q), by rw [← e7]; rfl⟩
      refine ⟨x, T7, hx, my, z3, hno, w7, Fr.tr (Fr.tr (Fr.tr F4 g5 rfl) g6 rfl) g7 rfl, by rw [q7 0 77 (by decide), t6], fun j => ?_, fun j => ?_, fun j => ?_, fun j => ?_, h⟩
      · rw [q7 51 j (by decide), q6 51 j (by decide), g5.1 51 j rfl, q4 51 j (by decide), q3 51 j (by decide), ← e2, st_at, if_pos rfl, g1.1 51 j rfl]
      · rw [q7 52 j (by decide), q6 52 j (by decide), g5.1 52 j rfl, q4 52 j (by decide), ← e3, st_at, if_pos rfl, q2 52 j (by decide), g1.1 52 j rfl]
      · rw [q7 53 j (by decide), q6 53 j (by decide), g5.1 53 j rfl, ← e4, st_at, if_pos rfl, q3 53 j (by decide), q2 53 j (by decide), g1.1 53 j rfl]
      · rw [← e7, st_at, if_pos rfl, q6 56 j (by decide), g5.1 56 j rfl, G4.1 56 j rfl, g1.1 56 j rfl]
/-- a PLAN of the reference, made by LEAST -/
def RST (B V : SS) (n : Nat) (X0 : Cf) (l : Nat) : Prop := V.1 0 77 = nI l ∧ WR V ∧ WF B V ∧ ∃ Xs ys, Way1 (rmN B) (pR B n) X0 l Xs ys ∧ (∀ j, j < l → V.1 51 j = nI (ys j / 20) ∧ V.1 52 j = nI (ys j / 5 % 4) ∧ V.1 53 j = nI (ys j % 5 + 1)) ∧ ∀ j, j ≤ l → Cn B n (Xs j) ∧ V.1 56 j = nI (cdX B n (Xs j))
theorem wn14 {B V : SS} {n l : Nat} {G X0 : Cf} (hp : PW B n) (hr : ∀ s, rmN B s ≤ 10) (hP : Pot (Mv (rmN B)) G (pR B n)) (hG : Fit (rmN B) G) (hl : l < 300) : ∀ (N m : Nat) (T : SS) (Xs : Nat → Cf) (ys : Nat → Nat), m ≤ l → WR T → WF B T → T.1 0 77 = nI m → Way1 (rmN B) (pR B n) X0 m Xs ys → pR B n (Xs m) = (l : Int) - m → (∀ j, j < m → T.1 51 j = nI (ys j / 20) ∧ T.1 52 j = nI (ys j / 5 % 4) ∧ T.1 53 j = nI (ys j % 5 + 1)) → (∀ j, j ≤ m → Cn B n (Xs j) ∧ T.1 56 j = nI (cdX B n (Xs j))) → f_M_wander_L14 N (nI (cdX B n (Xs m))) T = some V → RST B V n X0 l
  | 0, m, T, Xs, ys, _, _, _, _, _, _, _, _, h => by cases h
  | N + 1, m, T, Xs, ys, hm, hW, hF, h77, hY, hpm, h5, h6, h => by
    obtain ⟨hX, e6⟩ := h6 m (Nat.le_refl m)
    have hv := (cd_v hp hX.1).2
    rw [f_M_wander_L14.eq_2] at h
    replace h := (grd_i h).2
    rw [nI_clamp (n := cdX B n (Xs m)) (by omega), hF.1 55 _ rfl] at h
    have py := pR_y hX
    have i0 : (0 : Int32).toInt = 0 := by decide
    by_cases c : m = l
    · subst c
      rw [if_pos (by rw [Int32.le_iff_toInt_le, ← py, i0]; omega)] at h
      injection h with h
      subst h
      exact ⟨h77, hW, hF, Xs, ys, hY, h5, h6⟩
    · have pp : 0 < pR B n (Xs m) := by omega
      rw [if_neg (by rw [Int32.le_iff_toInt_le, ← py, i0]; omega)] at h
      have to5 : tot (Xs m) ≤ 5 := by rw [hX.1.1]; exact hp.1.2.1
      obtain ⟨y0, a1, a2, a3⟩ := hP.some1 hG pp to5
      have cmv : ∀ z, z < 80 → mayX (rmN B) (Xs m) z = true → Cn B n (mvX z (Xs m)) := fun z z1 z2 => cn_mv hr hX (mayX_mv z1 z2).2.2.2
      obtain ⟨y, T', b1, b2, b3, b4, b5, b6, b7, b8, b9, b10, b11, b12⟩ := wn25 hp hr hX (by omega) NF 0 T hW hF h77 (fun z hz => absurd hz (Nat.not_lt_zero _)) ⟨y0, by omega, a1, a2, (pR_dn hX (cmv y0 a1 a2) pp).mpr a3⟩ h
      have F1' : Fst1 (rmN B) (pR B n) (Xs m) y := ⟨pp, b1, b2, (pR_dn hX (cmv y b1 b2) pp).mp b3, fun z z1 z2 z3 => b4 z z1 z2 ((pR_dn hX (cmv z (by omega) z2) pp).mpr z3)⟩
      refine wn14 hp hr hP hG hl N (m + 1) T' (ups Xs (m + 1) (mvX y (Xs m))) (ups ys m y) (by omega) b5 b6 b7 (hY.add F1') (by rw [ups_k, F1'.2.2.2.1]; omega) (fun j hj => ?_) (fun j hj => ?_) (by rw [ups_k]; exact b12)
      · rw [b8, b9, b10]
        by_cases cj : j = m
        · rw [if_pos cj, if_pos cj, if_pos cj, cj, ups_k]
          exact ⟨rfl, rfl, rfl⟩
        · rw [if_neg cj, if_neg cj, if_neg cj, ups_n _ _ cj]
          exact h5 j (by omega)
      · rw [b11]
        by_cases cj : j = m + 1
        · rw [if_pos cj, cj, ups_k]
          exact ⟨cmv y b1 b2, rfl⟩
        · rw [if_neg cj, ups_n _ _ cj]
          exact h6 j (by omega)
theorem wne {S V : SS} {n l : Nat} {G X : Cf} (hW : WR S) (hp : PW S n) (hr : ∀ s, rmN S s ≤ 10) (hP : Pot (Mv (rmN S)) G (pR S n)) (hG : Fit (rmN S) G) (hl : l < 300) (hX : Cn S n X) (h0 : pR S n X = l) (h : f_M_wander (nI (cdX S n X)) S = some V) : RST S V n X l := by
  have hv := (cd_v hp hX.1).2
  rw [f_M_wander.eq_1, wr_r] at h
  replace h := (grd_i h).2
  rw [wr_r, show (0 : Int32).toNatClampNeg = 0 from rfl] at h
  generalize e1 : st S 0 77 0 = T1 at h
  have w1 := wo_0_77 hW (rgl 0 0 399 rfl) e1.symm
  generalize e2 : st T1 56 0 (nI (cdX S n X)) = T2 at h
  have w2 := wo_56 w1 (rg_nI (j := cdX S n X) (by omega) (by omega) (by omega)) e2.symm
  have t2 : T2.1 0 77 = nI 0 := by rw [← e2, st_row _ _ _ _ (by decide), ← e1, st_at, if_pos rfl, if_pos rfl]; rfl
  have t6 : T2.1 56 0 = nI (cdX S n X) := by rw [← e2, st_at, if_pos rfl, if_pos rfl]
  have F2 : WF S T2 := ⟨fun a b q => by
    rw [← e2, st_at]
    have n6 : a ≠ 56 := fun e => by subst e; cases q
    rw [if_neg n6, ← e1, st_at]
    by_cases c : a = 0
    · subst c
      rw [if_pos rfl]
      by_cases d : b = 77
      · subst d; cases q
      · rw [if_neg d]
    · rw [if_neg c], by rw [← e2, ← e1]; rfl⟩
  exact wn14 hp hr hP hG hl NF 0 T2 (fun _ => X) (fun _ => 0) (by omega) w2 F2 t2 ⟨rfl, fun j hj => absurd hj (Nat.not_lt_zero _)⟩ (by show pR S n X = _; rw [h0]; omega) (fun j hj => absurd hj (Nat.not_lt_zero _)) (fun j hj => by
    have : j = 0 := by omega
    subst this
    exact ⟨hX, t6⟩) h
/-! ===== the reference: plan by LEAST exactly ===== -/
set_option maxHeartbeats 1000000 in
theorem mexG {S : SS} (hW : WR S) (hP : PL S) (h5 : ∀ (n : Nat) (g : Nat → Nat), (∀ j, j < n → g j < 10 ∧ Bef (S.1 49) (S.1 50) (nI (g j)) 4 0) → (∀ i j, i < n → j < n → g i = g j → i = j) → n ≤ 5) : Ew (f_M_measure S) (fun U => WR U ∧ Fr [54, 55, 57, 58, 59, 60] [(0, 81)] S U ∧ ∃ n G, ME S U n G ∧ ∃ T, tkP S T 1 ∧ G = cfS T) := by
  refine v_eq (f_M_measure.eq_1 _) ?_
  refine v_wrO (fun T0 e0 g0 v0 => ?_)
  have w0 := wo_0_81 hW (rgl 0 0 10 rfl) e0
  have k49 : T0.1 49 = S.1 49 := funext fun i => g0.1 49 i rfl
  have k50 : T0.1 50 = S.1 50 := funext fun i => g0.1 50 i rfl
  refine me_L7 (S := T0) (fun U N wU gU hR => ?_) NF 0 T0 w0 Fr.rf ⟨0, fun _ => 0, by omega, v0, fun j hj => by omega, fun i j hi hj => by omega, fun w hw => by omega⟩ (by omega) (by have : NF = 100000 := rfl; omega)
  obtain ⟨n, g, hn, h81, hg, hlt, hall⟩ := hR
  rw [k49, k50] at hg hall
  have ginj : ∀ i j, i < n → j < n → g i = g j → i = j := fun i j hi hj e => by
    rcases Nat.lt_trichotomy i j with c | c | c
    · have := hlt i j c hj; omega
    · exact c
    · have := hlt j i c hi; omega
  have n5 := h5 n g (fun j hj => ⟨(hg j hj).1, (hg j hj).2.2⟩) ginj
  refine v_eq (f_M_measure_L7.eq_2 _ _ _) ?_
  refine v_t (nI_le (a := 10) (by omega) (by omega)) ?_
  refine me_L56 (S := U) (fun B N' wB gB hB => ?_) NF 0 U wU Fr.rf (fun i hi => by omega) (by omega) (by have : NF = 100000 := rfl; omega)
  have pB : PW B n := by
    refine ⟨⟨(gB.1 0 81 rfl).trans h81, n5, fun i j hi hj e => ?_⟩, fun r hr => ⟨g r, (hg r hr).1, (gB.1 54 r rfl).trans (hg r hr).2.1⟩⟩
    rw [gB.1 54 i rfl, gB.1 54 j rfl, (hg i hi).2.1, (hg j hj).2.1] at e
    refine ginj i j hi hj ?_
    have a := congrArg Int32.toInt e
    rw [nI_ti (by have := (hg i hi).1; omega), nI_ti (by have := (hg j hj).1; omega)] at a
    omega
  have rB : ∀ s, rmN B s ≤ 10 := fun s => (rmN_le wB s).1
  have FS : Fr [54, 55, 57, 58, 59, 60] [(0, 81)] S B := Fr.tr (Fr.tr (Fr.tr Fr.rf g0 rfl) gU rfl) gB rfl
  refine v_eq (f_M_measure_L56.eq_2 _ _ _) ?_
  refine v_t (nI_le (a := 25920) (by omega) (by omega)) ?_
  refine v_cV (tkx (x1 := 1) wB) (fun T h1 => ?_)
  obtain ⟨wT, gT, hT⟩ := h1
  have hT : tkP B T 1 := hT
  have nT := tk_NN wB hT
  have b49 : B.1 (tkM 1) = S.1 49 := funext fun i => FS.1 49 i rfl
  have b50 : B.1 (tkO 1) = S.1 50 := funext fun i => FS.1 50 i rfl
  have PB : PL B := hP.of (fun k hk i => by
    simp only [List.mem_cons, List.mem_nil_iff, or_false] at hk
    rcases hk with rfl | rfl | rfl | rfl | rfl <;> exact FS.1 _ i rfl)
  have dT : DW (T.1 58) (T.1 57) := tk_DW wT hT (by rw [b49, b50]; exact hP.2.2)
  have bT : ∀ w, Bef (T.1 58) (T.1 57) w 4 0 ↔ Bef (S.1 49) (S.1 50) w 4 0 := fun w => by rw [tk_Bef wT hT w, b49, b50]
  have cT : CX B n (cfS T) := cx_of wT nT dT (g := g) (fun j hj => ⟨(hg j hj).1, (gB.1 54 j rfl).trans (hg j hj).2.1, (bT _).mpr (hg j hj).2.2⟩) ginj (fun w hw k => hall w hw ((bT _).mp k))
  have sT : Sm B T := ⟨gT.1 0 81 rfl, fun j => gT.1 54 j rfl⟩
  have cG : Cn B n (cfS T) := ⟨cT, tk_Fit wB wT PB hT, T, wT, nT, rfl, sT⟩
  refine v_cE (cdx' pB cT sT wT nT rfl) (fun r T3 h3 => ?_)
  obtain ⟨w3, g3, e3⟩ := h3
  subst e3
  have hv := (cd_v pB cT).2
  refine v_grd rfl ?_
  rw [show (0 : Int32).toNatClampNeg = 0 by decide]
  refine v_wrA (fun T4 e4 g4 v4 => ?_)
  have w4 := wo_60 w3 (rg_nI (j := cdX B n (cfS T)) (by omega) (by omega) (by omega)) e4
  refine v_grd rfl ?_
  rw [v4]
  refine v_grd (inb_nI hv (by omega)) ?_
  rw [nI_clamp (n := cdX B n (cfS T)) (by omega)]
  refine v_wrA (fun T5 e5 g5 v5 => ?_)
  have w5 := WR.st (k := 55) w4 trivial rfl e5
  have F5 : MF B T5 := Fr.tr (Fr.tr (Fr.tr (Fr.tr Fr.rf gT rfl) g3 rfl) g4 rfl) g5 rfl
  have k55 : ∀ i, T4.1 55 i = B.1 55 i := fun i => by rw [g4.1 55 i rfl, g3.1 55 i rfl, gT.1 55 i rfl]
  have bi : BI B n (cfS T) T5 (fun _ => cfS T) (fun _ => 0) 1 0 := by
    refine ⟨fun i hi => cG, fun i hi => ?_, fun i hi => v5, fun i j hi hj _ => by omega, fun c hc q => ?_, by omega, rfl, rfl, fun i hi => ⟨Nat.zero_le _, fun z => absurd z (by omega)⟩, fun i j _ _ => Nat.le_refl _, fun j hj _ => Nat.zero_le _, fun i hi => by omega, fun j hj hp => absurd hp (Nat.lt_irrefl 0), fun i hi => ⟨0, rfl⟩⟩
    · have : i = 0 := by omega
      subst this
      rw [g5.1 60 0 rfl]; exact v4
    · rw [e5, st_at, if_pos rfl, if_neg (Ne.symm (q 0 (by omega))), k55]
      exact hB c hc
  refine v_mono (me_L107 pB rB NF 0 T5 _ _ 1 w5 F5 bi (by omega) (by have : NF = 100000 := rfl; omega)) (fun V hV => ?_)
  obtain ⟨wV, FV, Ys, pt, sz, hb⟩ := hV
  have sV := FV.sm
  refine ⟨wV, Fr.tr FS FV rfl, n, cfS T, ⟨sV.pw pB, ⟨g, fun j hj => ⟨(hg j hj).1, ?_, (hg j hj).2.2⟩, ginj, hall⟩, cG.rb sV FV.rm, Ys, pt, sz, hb.rb sV FV.rm⟩, T, ?_, rfl⟩
  · rw [sV.2, gB.1 54 j rfl]
    exact (hg j hj).2.1
  · intro s hs
    have q := hT s hs
    rw [b49, b50] at q
    exact q
theorem tk_cf {S T : SS} {x : Int32} (h7 : tkM x ≠ 57) (hh : ∀ i, rg (S.1 (tkM x) i) 0 10) (h : tkP S T x) : cfS T = cfS (gX S (tkO x) (tkM x)) := by
  funext s
  unfold cfS
  by_cases c : s < 4
  · obtain ⟨h1, h2⟩ := h s c
    have m : mN T s = (S.1 (tkM x) s).toNatClampNeg := by unfold mN; rw [h1]
    rw [if_pos c, if_pos c, gX_m h7 c, m]
    refine List.map_congr_left (fun i hi => ?_)
    rw [List.mem_range] at hi
    have e := h2 i hi
    obtain ⟨j, hj, a1, a2, a3⟩ := rg_ex (hh s) (by omega)
    rw [hj, nI_clamp a3] at hi
    unfold wN
    rw [gX_57 (by omega), e]
  · rw [if_neg c, if_neg c]
def cfr (S : SS) : Cf := cfS (gX S 50 49)
def cfq (S : SS) : Cf := cfS (gX S 48 47)
/-- what plan by LEAST leaves in the reference -/
def PR0 (S V : SS) (r : Int32) : Prop := ∃ B n Ys pt sz, PW B n ∧ BI B n (cfr S) B Ys pt sz sz ∧ RG S B n ∧ Cn B n (cfr S) ∧ Cw B n (cfq S) ∧ CX B n (cfq S) ∧ (∀ s, rmN B s = rmN S s) ∧ Fr [51, 52, 53, 54, 55, 56, 57, 58, 59, 60] [(0, 76), (0, 77), (0, 81)] S B ∧ ((r = -4 ∧ V.1 0 76 = -4 ∧ pR B n (cfq S) < 0) ∨ ∃ l V', l ≤ 50 ∧ RST B V' n (cfq S) l ∧ pR B n (cfq S) = l ∧ r = nI l ∧ V = st V' 0 76 0)
set_option maxHeartbeats 1000000 in
theorem plr0 {S V : SS} {r : Int32} (hW : WR S) (hP : PL S) (hR : RM S) (hs : SameW S) (h5 : StN S ≤ 5) (h : f_M_plan_j33 0 S = some (r, V)) : PR0 S V r := by
  rw [f_M_plan_j33.eq_1, wr_r, if_neg (by decide)] at h
  generalize e1 : st S 0 76 (-4) = S1 at h
  have w1 := WR.st (k := 0) (i := 76) hW trivial rfl e1.symm
  have g1 : Fr [] [(0, 76)] S S1 := ⟨fun a b q => by
    rw [← e1, st_at]
    by_cases c : a = 0
    · subst c
      rw [if_pos rfl]
      by_cases d : b = 76
      · subst d; cases q
      · rw [if_neg d]
    · rw [if_neg c], by rw [← e1]; rfl⟩
  have v1 : S1.1 0 76 = -4 := by rw [← e1, st_at, if_pos rfl, if_pos rfl]
  have rw1 : ∀ k, k ≠ 0 → S1.1 k = S.1 k := fun k hk => by rw [← e1, st_row _ _ _ _ hk]
  have P1 : PL S1 := hP.of (fun k hk i => by
    have : k = 46 ∨ k = 47 ∨ k = 48 ∨ k = 49 ∨ k = 50 := by simpa using hk
    rw [rw1 k (by omega)])
  have j47 := rw1 47 (by decide)
  have j48 := rw1 48 (by decide)
  have j49 := rw1 49 (by decide)
  have j50 := rw1 50 (by decide)
  have s1 : SameW S1 := fun w hw => by rw [j47, j48, j49, j50]; exact hs w hw
  have t1 : StN S1 ≤ 5 := by unfold StN; rw [j47]; exact h5
  obtain ⟨U, gU', h⟩ := bndv_i h
  obtain ⟨wU, gU, n, G, ⟨pU, rU, cG, Ys, pt, sz, hB⟩, TG, tG, eG⟩ := ew_i (mexG w1 P1 (fun n g a b => Nat.le_trans (h5_of w1 s1 n g a b) t1)) gU'
  have eG' : G = cfr S := by
    rw [eG, tk_cf (S := S1) (x := 1) (by decide) (fun i => ro_49 w1 i) tG]
    show cfS (gX S1 50 49) = cfS (gX S 50 49)
    exact gX_cg (by decide) (fun i => ro_49 hW i) j50 j49
  subst eG'
  obtain ⟨T2, g2', h⟩ := bndv_i h
  obtain ⟨w2, g2, h2⟩ := ew_i (tkx (x1 := 0) wU) g2'
  have h2 : tkP U T2 0 := h2
  have c2 := start_cx wU P1 s1 rU (fun i => gU.1 47 i rfl) (fun i => gU.1 48 i rfl) w2 h2
  have e2 : cfS T2 = cfq S := by
    rw [tk_cf (S := U) (x := 0) (by decide) (fun i => ro_47 wU i) h2]
    show cfS (gX U 48 47) = cfS (gX S 48 47)
    refine gX_cg (by decide) (fun i => ro_47 hW i) ?_ ?_
    · rw [show U.1 48 = S1.1 48 from funext fun i => gU.1 48 i rfl, j48]
    · rw [show U.1 47 = S1.1 47 from funext fun i => gU.1 47 i rfl, j47]
  have sm2 : Sm U T2 := ⟨g2.1 0 81 rfl, fun j => g2.1 54 j rfl⟩
  have n2 := tk_NN wU h2
  obtain ⟨r7, T3, g3', h⟩ := bnd_i h
  obtain ⟨w3, g3, e3⟩ := ex_i (cdx' pU c2 sm2 w2 n2 rfl) g3'
  subst e3
  have hv := (cd_v pU c2).2
  rw [wr_r] at h
  generalize e4 : st T3 0 77 0 = T4 at h
  have w4 := wo_0_77 w3 (rgl 0 0 399 rfl) e4.symm
  have g4 : Fr [] [(0, 77)] T3 T4 := ⟨fun a b q => by
    rw [← e4, st_at]
    by_cases c : a = 0
    · subst c
      rw [if_pos rfl]
      by_cases d : b = 77
      · subst d; cases q
      · rw [if_neg d]
    · rw [if_neg c], by rw [← e4]; rfl⟩
  replace h := (grd_i h).2
  rw [nI_clamp (n := cdX U n (cfS T2)) (by omega)] at h
  have k55 : ∀ i, T4.1 55 i = U.1 55 i := fun i => by rw [g4.1 55 i rfl, g3.1 55 i rfl, g2.1 55 i rfl]
  have F4 : Fr [51, 52, 53, 54, 55, 56, 57, 58, 59, 60] [(0, 76), (0, 77), (0, 81)] S T4 := Fr.tr (Fr.tr (Fr.tr (Fr.tr (Fr.tr Fr.rf g1 rfl) gU rfl) g2 rfl) g3 rfl) g4 rfl
  have sm4 : Sm U T4 := ⟨by rw [g4.1 0 81 rfl, g3.1 0 81 rfl, g2.1 0 81 rfl], fun j => by rw [g4.1 54 j rfl, g3.1 54 j rfl, g2.1 54 j rfl]⟩
  have rm4 : ∀ s, rmN T4 s = rmN U s := fun s => by unfold rmN; rw [g4.1 46 s rfl, g3.1 46 s rfl, g2.1 46 s rfl]
  have rmS : ∀ s, rmN T4 s = rmN S s := fun s => by unfold rmN; rw [F4.1 46 s rfl]
  have B4 : BI T4 n (cfr S) T4 Ys pt sz sz := (hB.rb sm4 rm4).cg (fun i => by rw [g4.1 60 i rfl, g3.1 60 i rfl, g2.1 60 i rfl]) k55
  have p4 := sm4.pw pU
  have c4 : Cn T4 n (cfr S) := cG.rb sm4 rm4
  have rg4 : RG S T4 n := by
    obtain ⟨g, a, b, c⟩ := rU
    rw [j49, j50] at a c
    exact ⟨g, fun j hj => ⟨(a j hj).1, by rw [sm4.2]; exact (a j hj).2.1, (a j hj).2.2⟩, b, c⟩
  rw [e2] at c2 hv h
  have cx4 : CX T4 n (cfq S) := sm4.cx c2
  have cw4 : Cw T4 n (cfq S) := (show Cw U n (cfq S) from ⟨c2, T2, w2, n2, e2, sm2⟩).rb sm4
  refine ⟨T4, n, Ys, pt, sz, p4, B4, rg4, c4, cw4, cx4, rmS, F4, ?_⟩
  have P4' := pot_R p4 B4
  rw [← sm4.cd] at h hv
  have i0 : (0 : Int32).toInt = 0 := by decide
  by_cases q : 0 ≤ T4.1 55 (cdX T4 n (cfq S))
  · rw [if_pos q] at h
    have hex : ∃ i, i < sz ∧ cdX T4 n (Ys i) = cdX T4 n (cfq S) := by
      apply Classical.byContradiction
      intro no
      have := B4.out _ hv (fun i hi e => no ⟨i, hi, e⟩)
      rw [this] at q
      exact absurd q (by decide)
    obtain ⟨i, hi, ei⟩ := hex
    have e : Ys i = cfq S := by
      have a := dcw p4 (B4.cf i hi).w Sm.rf w4
      have b := dcw p4 cw4 Sm.rf w4
      rw [ei] at a
      obtain ⟨V1, d1, -, -, -, d2⟩ := a
      obtain ⟨V2, d3, -, -, -, d4⟩ := b
      rw [d1] at d3
      injection d3 with d3
      rw [← d2, ← d4, d3]
    have cn : Cn T4 n (cfq S) := by rw [← e]; exact B4.cf i hi
    have p50 := B4.p50 p4 (fun s hs => by rw [rmS]; exact hR s hs) hi
    have pe : pR T4 n (cfq S) = (pt i : Int) := by rw [← e]; exact pR_at B4 (B4.szl p4) hi
    obtain ⟨V', gV, h⟩ := bndv_i h
    have ws := wne w4 p4 (fun s => (rmN_le w4 s).1) P4' c4.2.1 (by omega) cn pe gV
    rw [wr_r] at h
    obtain ⟨a, b⟩ := so_i h
    refine Or.inr ⟨pt i, V', p50, ws, pe, ?_, b⟩
    rw [a, st_at, if_pos rfl, if_neg (by decide), ws.1]
  · rw [if_neg q] at h
    obtain ⟨a, b⟩ := so_i h
    refine Or.inl ⟨a, ?_, ?_⟩
    · rw [b, g4.1 0 76 rfl, g3.1 0 76 rfl, g2.1 0 76 rfl, gU.1 0 76 rfl]
      exact v1
    · by_cases cn : Cn T4 n (cfq S)
      · rw [pR_y cn]
        rw [Int32.le_iff_toInt_le, i0] at q
        omega
      · rw [pR_n cn]; decide
/-! ===== ways to stand on both sides ===== -/
theorem row57 {S : SS} (hW : WR S) (f : Nat → Int32) : ∀ m, ∃ V, WR V ∧ (∀ q, q ≠ 57 → V.1 q = S.1 q) ∧ ∀ i, i < m → V.1 57 i = f i
  | 0 => ⟨S, hW, fun _ _ => rfl, fun i hi => absurd hi (Nat.not_lt_zero _)⟩
  | m + 1 => by
    obtain ⟨V, h1, h2, h3⟩ := row57 hW f m
    refine ⟨st V 57 m (f m), WR.st (k := 57) h1 trivial rfl rfl, fun q hq => by rw [st_row _ _ _ _ hq]; exact h2 q hq, fun i hi => ?_⟩
    rw [st_at, if_pos rfl]
    by_cases c : i = m
    · rw [if_pos c, c]
    · rw [if_neg c]; exact h3 i (by omega)
theorem row58 {S : SS} (hW : WR S) (f : Nat → Int32) (hf : ∀ i, rg (f i) 0 10) : ∀ m, ∃ V, WR V ∧ (∀ q, q ≠ 58 → V.1 q = S.1 q) ∧ ∀ i, i < m → V.1 58 i = f i
  | 0 => ⟨S, hW, fun _ _ => rfl, fun i hi => absurd hi (Nat.not_lt_zero _)⟩
  | m + 1 => by
    obtain ⟨V, h1, h2, h3⟩ := row58 hW f hf m
    refine ⟨st V 58 m (f m), WR.st (k := 58) h1 (hf m) rfl rfl, fun q hq => by rw [st_row _ _ _ _ hq]; exact h2 q hq, fun i hi => ?_⟩
    rw [st_at, if_pos rfl]
    by_cases c : i = m
    · rw [if_pos c, c]
    · rw [if_neg c]; exact h3 i (by omega)
theorem fl_sub {X : Cf} {s w : Nat} (hs : s < 4) (h : w ∈ X s) : w ∈ Flat X := by
  unfold Flat
  rcases (show s = 0 ∨ s = 1 ∨ s = 2 ∨ s = 3 by omega) with rfl | rfl | rfl | rfl <;> simp [h]
theorem len_tot {X : Cf} {s : Nat} (hs : s < 4) : (X s).length ≤ tot X := by
  unfold tot
  rcases (show s = 0 ∨ s = 1 ∨ s = 2 ∨ s = 3 by omega) with rfl | rfl | rfl | rfl <;> omega
theorem cw_of {S : SS} {n : Nat} {X : Cf} (hW : WR S) (hn : n ≤ 5) (h : CX S n X) (far : ∀ s, 4 ≤ s → X s = []) : Cw S n X := by
  obtain ⟨V1, a1, a2, a3⟩ := row57 hW (fun i => nI ((X (i / 10)).getD (i % 10) 0)) 40
  have len : ∀ s, s < 4 → (X s).length ≤ 5 := fun s hs => by
    have := len_tot (X := X) hs
    rw [h.1] at this
    omega
  obtain ⟨V, b1, b2, b3⟩ := row58 a1 (fun s => if s < 4 then nI (X s).length else 0) (fun i => by
    show rg (if i < 4 then nI (X i).length else 0) 0 10
    by_cases c : i < 4
    · rw [if_pos c]
      have := len i c
      exact rg_nI (by omega) (by omega) (by omega)
    · rw [if_neg c]; exact rgl 0 0 10 rfl) 4
  have wl : ∀ w, w ∈ Flat X → w < 10 := fun w hw => (h.2.2 w (List.count_pos_iff.mpr hw)).1
  have m : ∀ s, s < 4 → mN V s = (X s).length := fun s hs => by
    unfold mN
    rw [b3 s hs]
    show (if s < 4 then nI (X s).length else 0).toNatClampNeg = _
    rw [if_pos hs, nI_clamp (by have := len s hs; omega)]
  have at' : ∀ s i, s < 4 → i < (X s).length → V.1 57 (10 * s + i) = nI ((X s).getD i 0) := fun s i hs hi => by
    have := len s hs
    rw [b2 57 (by decide), a3 (10 * s + i) (by omega), show (10 * s + i) / 10 = s by omega, show (10 * s + i) % 10 = i by omega]
  have inn : ∀ s i, s < 4 → i < (X s).length → (X s).getD i 0 < 10 := fun s i hs hi => by
    refine wl _ (fl_sub hs ?_)
    rw [List.getD_eq_getElem?_getD, List.getElem?_eq_getElem hi]
    exact List.getElem_mem hi
  refine ⟨h, V, b1, fun s i hs hi => ?_, ?_, ?_, fun j => ?_⟩
  · rw [m s hs] at hi
    exact ⟨(X s).getD i 0, inn s i hs hi, at' s i hs hi⟩
  · funext s
    unfold cfS
    by_cases c : s < 4
    · rw [if_pos c, m s c]
      refine List.ext_getElem (by rw [List.length_map, List.length_range]) (fun i h1 h2 => ?_)
      rw [List.getElem_map, List.getElem_range]
      unfold wN
      have := inn s i c h2
      rw [at' s i c h2, nI_clamp (by omega), List.getD_eq_getElem?_getD, List.getElem?_eq_getElem h2]
      rfl
    · rw [if_neg c, far s (by omega)]
  · rw [b2 0 (by decide), a2 0 (by decide)]
  · rw [b2 54 (by decide), a2 54 (by decide)]
theorem cdw_inj {S : SS} {n : Nat} {X Y : Cf} (hW : WR S) (hp : PW S n) (h : Cw S n X) (k : Cw S n Y) (e : cdX S n X = cdX S n Y) : X = Y := by
  have a := dcw hp h Sm.rf hW
  have b := dcw hp k Sm.rf hW
  rw [e] at a
  obtain ⟨V1, d1, -, -, -, d2⟩ := a
  obtain ⟨V2, d3, -, -, -, d4⟩ := b
  rw [d1] at d3
  injection d3 with d3
  rw [← d2, ← d4, d3]
/-- the same WAGONS are numbered -/
def SN (S : SS) (n : Nat) : Prop := ∀ w, w < 10 → (¬ S.1 109 w = -4 ↔ ∃ r, r < n ∧ S.1 54 r = nI w)
theorem cx_cl {S : SS} {n : Nat} {X : Cf} (hs : SN S n) (h : Cl S n X) : CX S n X := by
  refine ⟨h.1, fun w => List.nodup_iff_count.mp h.2.1 w, fun w hw => ?_⟩
  obtain ⟨a, b⟩ := h.2.2.1 w (List.count_pos_iff.mp hw)
  exact ⟨a, (hs w a).mp b⟩
theorem cl_cx {S : SS} {n : Nat} {X : Cf} (hs : SN S n) (h : Cw S n X) : Cl S n X := by
  obtain ⟨⟨h1, h2, h3⟩, V, -, -, e, -⟩ := h
  refine ⟨h1, List.nodup_iff_count.mpr h2, fun w hw => ?_, fun s hs => by rw [← e]; exact cfS_far _ hs⟩
  obtain ⟨a, b⟩ := h3 w (List.count_pos_iff.mpr hw)
  exact ⟨a, (hs w a).mpr b⟩
/-- the POTENTIALS of both sides are alike -/
def AL (S : SS) (n : Nat) : Prop := ∀ X, Cl S n X → (S.1 120 (rkC S n X) = -4 ∧ S.1 55 (cdX S n X) = -1) ∨ ∃ v, v < 2 ^ 31 ∧ S.1 120 (rkC S n X) = nI v ∧ S.1 55 (cdX S n X) = nI v
theorem i32_n {x : Int32} (h : 0 ≤ x.toInt) : ∃ v, v < 2 ^ 31 ∧ x = nI v ∧ x.toInt = v := by
  have b := Int32.toInt_le x
  have m : Int32.maxValue.toInt = 2147483647 := by decide
  refine ⟨x.toInt.toNat, by omega, ?_, by omega⟩
  apply Int32.toInt_inj.mp
  rw [nI_ti (by omega)]
  omega
theorem al_of {S T B : SS} {n sz : Nat} {G : Cf} {Ys : Nat → Cf} {pt : Nat → Nat} (hW : WR S) (hn : n ≤ 5) (hp : PW S n) (hs : SN S n) (e9 : S.1 109 = T.1 109) (e120 : S.1 120 = T.1 120) (h4 : P4 T n T) (sm : Sm S B) (hb : BI B n G B Ys pt sz sz) (e55 : ∀ i, B.1 55 i = S.1 55 i) (sp : SameP (pC T n T) (pR B n)) : AL S n := fun X hX => by
  have hX' : Cl T n X := hX.cg e9.symm
  have cw : Cw S n X := cw_of hW hn (cx_cl hs hX) hX.2.2.2
  have pB := sm.pw hp
  have cwB := cw.rb sm
  rw [rk_cg e9, e120]
  have v := (cd_v hp cw.1).2
  by_cases c : 0 ≤ pC T n T X
  · right
    have e := (sp X).1 c
    have cn : Cn B n X := Classical.byContradiction fun q => by rw [pR_n q] at e; omega
    rw [pC_y hX', pR_y cn] at e
    rw [pC_y hX'] at c
    obtain ⟨v, v1, v2, v3⟩ := i32_n c
    refine ⟨v, v1, v2, ?_⟩
    rw [← e55, ← sm.cd, ← v2]
    exact Int32.toInt_inj.mp e
  · left
    refine ⟨(h4 X hX').resolve_right (fun q => c (by rw [pC_y hX']; exact q)), ?_⟩
    rw [← e55, ← sm.cd]
    refine hb.out _ (cd_v pB cwB.1).2 (fun i hi e => c ?_)
    have ex : Ys i = X := by
      obtain ⟨V, wV, nV, eV, sV⟩ := cwB.2
      exact cdw_inj wV (sV.pw pB) ((hb.cf i hi).w.rb sV) (cwB.rb sV) (by rw [sV.cd, sV.cd]; exact e)
    have := pR_at hb (hb.szl pB) hi
    rw [ex] at this
    have q := (sp X).2 (by omega)
    omega
/-! ===== the relation between calls ===== -/
theorem gX_cg2 {S T : SS} {o h o' h' : Nat} (h5 : h ≠ 57) (h5' : h' ≠ 57) (hh : ∀ i, rg (S.1 h i) 0 10) (e1 : T.1 o' = S.1 o) (e2 : T.1 h' = S.1 h) : cfS (gX T o' h') = cfS (gX S o h) := by
  funext s
  unfold cfS
  by_cases c : s < 4
  · rw [if_pos c, if_pos c, gX_m h5' c, gX_m h5 c, e2]
    refine List.map_congr_left (fun i hi => ?_)
    rw [List.mem_range] at hi
    obtain ⟨j, hj, h1, h2, h3⟩ := rg_ex (hh s) (by omega)
    rw [hj, nI_clamp h3] at hi
    unfold wN
    rw [gX_57 (by omega), gX_57 (by omega), e1]
  · rw [if_neg c, if_neg c]
theorem Way1.pot {R : Nat → Nat} {p : Cf → Int} {X0 : Cf} {l m : Nat} {Xs : Nat → Cf} {ys : Nat → Nat} (h : Way1 R p X0 l Xs ys) (h0 : p X0 = m) : ∀ j, j ≤ l → p (Xs j) = (m : Int) - j
  | 0, _ => by rw [h.1, h0]; omega
  | j + 1, hj => by
    have a := Way1.pot h h0 j (by omega)
    obtain ⟨f, e⟩ := h.2 j (by omega)
    rw [e, f.2.2.2.1, a]
    omega
/-- MOVES alike -/
def PkA (S : SS) (l : Nat) : Prop := S.1 70 7 = nI l ∧ S.1 0 77 = nI l ∧ l ≤ 128 ∧ ∀ j, j < l → ∃ f t m, f < 4 ∧ t < 4 ∧ f ≠ t ∧ 1 ≤ m ∧ m ≤ 10 ∧ S.1 107 j = nI (64 * f + 16 * t + m) ∧ S.1 51 j = nI f ∧ S.1 52 j = nI t ∧ S.1 53 j = nI m
/-- POTENTIALS alike, and the ways to stand behind the MOVES -/
def LsA (S : SS) (l : Nat) : Prop := ∃ n, n ≤ 5 ∧ S.1 71 5 = nI n ∧ ¬ S.1 71 7 ≤ 0 ∧ NB S n ∧ PW S n ∧ SN S n ∧ AL S n ∧ ∀ j, j ≤ l → ∃ X, Cl S n X ∧ S.1 108 j = nI (rkC S n X) ∧ S.1 56 j = nI (cdX S n X) ∧ ¬ S.1 120 (rkC S n X) = -4
def PZ (S : SS) : Prop := TT S ∧ ((S.1 70 8 = 0 ∧ S.1 70 7 = 0 ∧ S.1 0 76 = -4) ∨ (S.1 70 8 = 2 ∧ S.1 0 76 = 1 ∧ ∃ l, PkA S l) ∨ (S.1 70 8 = 1 ∧ S.1 0 76 = 0 ∧ ∃ l, PkA S l ∧ LsA S l))
def PZL : List Nat := [51, 52, 53, 54, 55, 56, 70, 71, 107, 108, 109, 113, 114, 115, 120]
theorem AL.cg {S U : SS} {n : Nat} (h : AL S n) (e9 : U.1 109 = S.1 109) (e120 : U.1 120 = S.1 120) (e55 : U.1 55 = S.1 55) (sm : Sm S U) : AL U n := fun X hX => by
  rw [rk_cg e9, e120, e55, sm.cd]
  exact h X (hX.cg e9.symm)
theorem PkA.cg {S U : SS} {l : Nat} (h : PkA S l) (e : ∀ q, q ∈ [51, 52, 53, 70, 107] → U.1 q = S.1 q) (e77 : U.1 0 77 = S.1 0 77) : PkA U l := by
  obtain ⟨h1, h2, h3, h4⟩ := h
  refine ⟨by rw [e 70 (by decide)]; exact h1, by rw [e77]; exact h2, h3, fun j hj => ?_⟩
  rw [e 51 (by decide), e 52 (by decide), e 53 (by decide), e 107 (by decide)]
  exact h4 j hj
theorem LsA.cg {S U : SS} {l : Nat} (h : LsA S l) (e : ∀ q, q ∈ PZL → U.1 q = S.1 q) (e81 : U.1 0 81 = S.1 0 81) : LsA U l := by
  obtain ⟨n, h1, h2, h3, h4, h5, h6, h7, h8⟩ := h
  have sm : Sm S U := ⟨e81, fun j => by rw [e 54 (by decide)]⟩
  have e9 := e 109 (by decide)
  refine ⟨n, h1, by rw [e 71 (by decide)]; exact h2, by rw [e 71 (by decide)]; exact h3, h4.cg e9, sm.pw h5, ?_, h7.cg e9 (e 120 (by decide)) (e 55 (by decide)) sm, fun j hj => ?_⟩
  · unfold SN
    rw [e9, e 54 (by decide)]
    exact h6
  · obtain ⟨X, a, b, c, d⟩ := h8 j hj
    exact ⟨X, a.cg e9, by rw [e 108 (by decide), rk_cg e9]; exact b, by rw [e 56 (by decide), sm.cd]; exact c, by rw [e 120 (by decide), rk_cg e9]; exact d⟩
theorem PZ.cg {S U : SS} (h : PZ S) (e : ∀ q, q ∈ PZL → U.1 q = S.1 q) (e76 : U.1 0 76 = S.1 0 76) (e77 : U.1 0 77 = S.1 0 77) (e81 : U.1 0 81 = S.1 0 81) : PZ U := by
  have ek : ∀ q, q ∈ [51, 52, 53, 70, 107] → U.1 q = S.1 q := fun q hq => e q (by
    have : q = 51 ∨ q = 52 ∨ q = 53 ∨ q = 70 ∨ q = 107 := by simpa using hq
    rcases this with rfl | rfl | rfl | rfl | rfl <;> decide)
  refine ⟨h.1.cg (fun q hq => e q (by
    have : q = 71 ∨ q = 113 ∨ q = 114 ∨ q = 115 := by simpa using hq
    rcases this with rfl | rfl | rfl | rfl <;> decide)), ?_⟩
  rw [e 70 (by decide), e76]
  rcases h.2 with h | ⟨a, b, l, c⟩ | ⟨a, b, l, c, d⟩
  · exact Or.inl h
  · exact Or.inr (Or.inl ⟨a, b, l, c.cg ek e77⟩)
  · exact Or.inr (Or.inr ⟨a, b, l, c.cg ek e77, d.cg e e81⟩)
theorem CQ.qw {S : SS} {G n : Nat} (h : CQ S G) (hn : n ≤ 5) (h5 : S.1 71 5 = nI n) (h7 : ¬ S.1 71 7 ≤ 0) : ∃ W, QW S n W ∧ QE S n (shN n) := by
  rcases h.2 with ⟨-, -, -, a, -⟩ | ⟨w, W, -, a, b⟩
  · exact absurd (by rw [a]; decide) h7
  · have := a.1
    have := a.2.1
    have e : w = n := nI_inj (by omega) (by omega) (a.2.2.1.symm.trans h5)
    subst e
    exact ⟨W, a, b⟩
theorem qw7 {S : SS} {n W : Nat} (h : QW S n W) : ¬ S.1 71 7 ≤ 0 := by
  have q := qn h.1 h.2.1
  rw [h.2.2.2.2.1, show (0 : Int32) = nI 0 from rfl]
  exact nI_ge (by omega) (by omega)
/-- START, GOAL and ROOM alike -/
def A5 (S : SS) : Prop := S.1 106 = S.1 46 ∧ S.1 122 = S.1 48 ∧ S.1 123 = S.1 47 ∧ S.1 124 = S.1 50 ∧ S.1 125 = S.1 49
set_option maxHeartbeats 1000000 in
theorem least_eq {S S1 S2 : SS} {r1 r2 : Int32} {G : Nat} (hW : WR S) (hC : CQ S G) (hP : PL S) (hR : RM S) (hA : A5 S) (hT : TT S) (hs : SameW S) (h5 : StN S ≤ 5) (w1 : WR S1) (g1 : F1 YL MFl S S1) (e1 : f_Plans_makeLeast S = some (r1, S1)) (e2 : f_M_plan_j33 0 S1 = some (r2, S2)) (w2 : WR S2) : r1 = r2 ∧ PZ S2 := by
  obtain ⟨A1, A2, A3, A4, A5⟩ := hA
  have h9 : ∀ i, rg (S.1 124 i) 0 9 := fun i => by rw [A4]; exact ro_50 hW i
  have h9' : ∀ i, rg (S.1 122 i) 0 9 := fun i => by rw [A2]; exact ro_48 hW i
  have hD : DW (S.1 125) (S.1 124) := by rw [A4, A5]; exact hP.2.2
  have hD' : DW (S.1 123) (S.1 122) := by rw [A2, A3]; exact hP.2.1
  have hh : ∀ i, rg (S.1 125 i) 0 10 := ro_125 hW
  have hh' : ∀ i, rg (S.1 123 i) 0 10 := ro_123 hW
  have hs' : ∀ w, w < 10 → (Bef (S.1 123) (S.1 122) (nI w) 4 0 ↔ Bef (S.1 125) (S.1 124) (nI w) 4 0) := fun w hw => by rw [A2, A3, A4, A5]; exact hs w hw
  obtain ⟨nd, mb⟩ := gX_fl hW (by decide) hh' h9' hD'
  obtain ⟨ndg, mbg⟩ := gX_fl hW (by decide) hh h9 hD
  have tt : tot (cfG S) = tot (cfT S) := by
    rw [← flat_len, ← flat_len]
    refine nd_len ndg nd (fun w => ⟨fun q => ?_, fun q => ?_⟩)
    · have v10 := gX_lt (by decide) hh h9 q
      exact (mb w v10).mpr ((hs' w v10).mpr ((mbg w v10).mp q))
    · have v10 := gX_lt (by decide) hh' h9' q
      exact (mbg w v10).mpr ((hs' w v10).mp ((mb w v10).mp q))
  have tS : tot (cfT S) = StN S := by
    show tot (cfS (gX S 122 123)) = _
    rw [tot_off]
    have m : ∀ s, s < 4 → mN (gX S 122 123) s = (S.1 47 s).toNatClampNeg := fun s hs => by rw [gX_m (by decide) hs, A3]
    show 0 + mN _ 0 + mN _ 1 + mN _ 2 + mN _ 3 = _
    rw [m 0 (by omega), m 1 (by omega), m 2 (by omega), m 3 (by omega), Nat.zero_add]
    rfl
  have oh : oHg S 4 ≤ 5 := by rw [← oHg_tot hW, tt, tS]; exact h5
  have hr : ∀ t, t < 4 → S.1 106 t = nI (rmN S t) ∧ rmN S t ≤ 10 := fun t _ => by
    rw [A1]
    exact ⟨(rmN_le hW t).2, (rmN_le hW t).1⟩
  have hfit : Fit (rmN S) (cfG S) := fun s hs => by
    show (cfS (gX S 124 125) s).length ≤ _
    rw [cfS_len hs, gX_m (by decide) hs, A5]
    have a := (hP.1 s hs).2
    unfold rmN
    show (S.1 49 s).toInt.toNat ≤ (S.1 46 s).toInt.toNat
    omega
  obtain ⟨C2, C3, n, W, ⟨q1, q2, q3, q4, q5, q6, q7, q8⟩, cs, f2, y1, y2, res⟩ := mkl hW hC hT hr h9 hD h9' hD' oh hs' hfit e1
  have hn : n ≤ 5 := by have := q1.1; have := q1.2.1; omega
  have k : ∀ q, q ≤ 60 → S1.1 q = S.1 q := fun q hq => frow g1 q (fun b => by
    have : ∀ q : Fin 61, ∀ L : List Nat, L = YL → ∀ F : List (Nat × Nat), F = MFl → (L.any (fun k => Nat.beq k q.1) = false ∧ F.any (fun p => Nat.beq p.1 q.1) = false) := by
      intro q L hL F hF
      subst hL hF
      revert q
      decide +kernel
    obtain ⟨a1, a2⟩ := this ⟨q, by omega⟩ _ rfl _ rfl
    unfold wm
    rw [a1, Bool.false_or]
    rw [List.any_eq_false] at a2 ⊢
    intro p hp z
    rw [Bool.and_eq_true] at z
    exact a2 p hp z.1)
  have P1 : PL S1 := hP.of (fun q hq i => by
    have : q = 46 ∨ q = 47 ∨ q = 48 ∨ q = 49 ∨ q = 50 := by simpa using hq
    rw [k q (by omega)])
  have R1 : RM S1 := hR.of (fun i => by rw [k 46 (by omega)])
  have s1 : SameW S1 := fun w hw => by rw [k 47 (by omega), k 48 (by omega), k 49 (by omega), k 50 (by omega)]; exact hs w hw
  have t1 : StN S1 ≤ 5 := by unfold StN; rw [k 47 (by omega)]; exact h5
  obtain ⟨B, n', Ys, pt, sz, b1, b2, b3, b4, b5, b6, b7, b8, res2⟩ := plr0 w1 P1 R1 s1 t1 e2
  have eG : cfr S1 = cfG S := gX_cg2 (by decide) (by decide) hh (by rw [k 50 (by omega), A4]) (by rw [k 49 (by omega), A5])
  have eT : cfq S1 = cfT S := gX_cg2 (by decide) (by decide) hh' (by rw [k 48 (by omega), A2]) (by rw [k 47 (by omega), A3])
  rw [eG] at b2 b4
  rw [eT] at b5 b6 res2
  have en : n = n' := by
    have a := q5.1
    have b := b4.1.1
    omega
  subst en
  have rmE : rmN B = rmN S := funext fun s => by
    rw [b7]
    unfold rmN
    rw [k 46 (by omega)]
  have PR := pot_R b1 b2
  rw [rmE] at PR
  have sp : SameP (pC C2 n C2) (pR B n) := SameP.of q7 PR
  obtain ⟨-, F12, -⟩ := ex_i (plx_0 w1 P1 R1 s1 t1) e2
  have r12 : ∀ q, 60 < q → S2.1 q = S1.1 q := fun q hq => frow F12.1 q (fun b => by
    unfold wm
    rw [List.any_eq_false.mpr, List.any_eq_false.mpr]
    · rfl
    · intro p hp z
      rw [Bool.and_eq_true] at z
      have : p.1 = 0 := by
        have : p = (0, 76) ∨ p = (0, 77) ∨ p = (0, 81) := by simpa using hp
        rcases this with rfl | rfl | rfl <;> rfl
      have := Nat.eq_of_beq_eq_true z.1
      omega
    · intro m hm z
      have := Nat.eq_of_beq_eq_true z
      have : m ≤ 60 := by
        have : m = 51 ∨ m = 52 ∨ m = 53 ∨ m = 54 ∨ m = 55 ∨ m = 56 ∨ m = 57 ∨ m = 58 ∨ m = 59 ∨ m = 60 := by simpa using hm
        omega
      omega)
  have c1 : ∀ q, q ≠ 107 → q ≠ 108 → q ≠ 70 → q ≠ 110 → q ≠ 112 → S1.1 q = C2.1 q := fun q a b c d e => by
    rcases res with ⟨-, -, v⟩ | ⟨l, L⟩
    · rw [v, y1 q d e]
    · rw [L.2.2.2.1.1 q a b c, y1 q d e]
  have cr : ∀ q, q = 71 ∨ q = 109 ∨ q = 113 ∨ q = 114 ∨ q = 115 ∨ q = 120 → S2.1 q = C2.1 q := fun q hq => by
    rw [r12 q (by omega), c1 q (by omega) (by omega) (by omega) (by omega) (by omega)]
  have e71 := cr 71 (by omega)
  have T2 : TT S2 := fun m m5 e5 e7 => by
    rw [e71, q1.2.2.1] at e5
    have : n = m := nI_inj (by omega) (by omega) e5
    subst this
    exact q2.cg (cr 113 (by omega)) (cr 114 (by omega)) (cr 115 (by omega))
  have pe : pC C3 n C3 = pC C2 n C2 := by
    have x9 : C3.1 109 = C2.1 109 := y1 109 (by decide) (by decide)
    have x120 : C3.1 120 = C2.1 120 := y1 120 (by decide) (by decide)
    rw [pC_cg x9]
    funext X
    by_cases c : Cl C2 n X
    · rw [pC_y c, pC_y c, x120]
    · rw [pC_n c, pC_n c]
  rcases res with ⟨c1', c2, c3⟩ | ⟨l, L⟩
  · rcases res2 with ⟨d1, d2, d3⟩ | ⟨l', V', d1, d2, d3, d4, d5⟩
    · refine ⟨by rw [c1', d1], T2, Or.inl ⟨?_, ?_, d2⟩⟩
      · rw [r12 70 (by omega), c3, y1 70 (by decide) (by decide), f2 70 8 rfl]
        rfl
      · rw [r12 70 (by omega), c3, y1 70 (by decide) (by decide), f2 70 7 rfl]
        rfl
    · have := (sp (cfT S)).2 (by omega)
      omega
  · obtain ⟨l1, l2, l3, l4, Xs, ys, l5, l6, l7, l8⟩ := L
    rw [pe] at l5 l6
    rcases res2 with ⟨d1, d2, d3⟩ | ⟨l', V', d1, d2, d3, d4, d5⟩
    · have := (sp (cfT S)).1 (by omega)
      omega
    · have el : l = l' := by
        have := (sp (cfT S)).1 (by omega)
        omega
      subst el
      obtain ⟨m1, m2, m3, Zs, zs, m4, m5, m6⟩ := d2
      rw [rmE] at m4
      have un := (l5.to sp).uniq m4
      refine ⟨by rw [l1, d4], T2, Or.inr (Or.inr ⟨?_, ?_, l, ⟨?_, ?_, by omega, fun j hj => ?_⟩, ?_⟩)⟩
      · rw [r12 70 (by omega)]; exact l3
      · rw [d5, st_at, if_pos rfl, if_pos rfl]
      · rw [r12 70 (by omega)]; exact l2
      · rw [d5, st_at, if_pos rfl, if_neg (by decide)]; exact m1
      · obtain ⟨f1, -⟩ := l5.2 j hj
        have y80 := f1.2.1
        have ez := (un j (by omega)).2 hj
        obtain ⟨n1, n2, n3⟩ := m5 j hj
        refine ⟨ys j / 20, ys j / 5 % 4, ys j % 5 + 1, by omega, by omega, (mayX_mv y80 f1.2.2.1).1, by omega, by omega, ?_, ?_, ?_, ?_⟩
        · rw [r12 107 (by omega), l7 j hj]; rfl
        · rw [d5, st_row _ _ _ _ (by decide), n1, ez]
        · rw [d5, st_row _ _ _ _ (by decide), n2, ez]
        · rw [d5, st_row _ _ _ _ (by decide), n3, ez]
      · have smB : Sm B S2 := by
          refine ⟨?_, fun j => ?_⟩
          · rw [d5, st_at, if_pos rfl, if_neg (by decide)]; exact m3.1 0 81 rfl
          · rw [d5, st_row _ _ _ _ (by decide)]; exact m3.1 54 j rfl
        have smS : Sm S2 B := ⟨smB.1.symm, fun j => (smB.2 j).symm⟩
        have e9 := cr 109 (by omega)
        have pw2 : PW S2 n := smB.pw b1
        have sn2 : SN S2 n := fun w hw => by
          rw [e9, q8 w hw]
          obtain ⟨g, g1', g2, g3⟩ := b3
          rw [k 49 (by omega), k 50 (by omega), ← A4, ← A5] at g1' g3
          constructor
          · intro q
            obtain ⟨r, r1, r2⟩ := g3 w hw q
            exact ⟨r, r1, by rw [smB.2, (g1' r r1).2.1, r2]⟩
          · rintro ⟨r, r1, r2⟩
            rw [smB.2, (g1' r r1).2.1] at r2
            have := nI_inj (by have := (g1' r r1).1; omega) (by omega) r2
            rw [← this]
            exact (g1' r r1).2.2
        refine ⟨n, hn, by rw [e71]; exact q1.2.2.1, by rw [e71]; exact qw7 q1, q3.cg e9, pw2, sn2, al_of w2 hn pw2 sn2 e9 (cr 120 (by omega)) q6 smS b2 (fun i => ?_) sp, fun j hj => ?_⟩
        · rw [d5, st_row _ _ _ _ (by decide)]; exact (m3.1 55 i rfl).symm
        · obtain ⟨x1, x2⟩ := l8 j hj
          obtain ⟨z1, z2⟩ := m6 j hj
          have x9 : C3.1 109 = C2.1 109 := y1 109 (by decide) (by decide)
          have xc : Cl C2 n (Xs j) := x1.cg x9.symm
          refine ⟨Xs j, x1.cg (by rw [e9, x9]), ?_, ?_, ?_⟩
          · rw [r12 108 (by omega), x2, rk_cg (S := C2) (T := S2) e9, rk_cg (S := C2) (T := C3) x9]
          · rw [d5, st_row _ _ _ _ (by decide), z2, ← (un j hj).1, ← d5, smB.cd]
          · have pj := l5.pot l6 j hj
            rw [pC_y xc] at pj
            rw [cr 120 (by omega), rk_cg (S := C2) (T := S2) e9]
            intro z
            rw [z] at pj
            have : (-4 : Int32).toInt = -4 := by decide
            omega
/-! ===== BY RULE, pure ===== -/
def lfX (rm : Nat → Nat) (X : Cf) (s : Nat) : Nat := rm s - (X s).length
/-- the widest STACK below s, but for a and b -/
def widL (rm : Nat → Nat) (X : Cf) (a b : Nat) : Nat → Option Nat
  | 0 => none
  | s + 1 => if s = a ∨ s = b ∨ rm s ≤ (X s).length then widL rm X a b s else match widL rm X a b s with
    | none => some s
    | some t => if lfX rm X t < lfX rm X s then some s else some t
theorem widL_sym (rm : Nat → Nat) (X : Cf) (a b : Nat) : ∀ s, widL rm X a b s = widL rm X b a s
  | 0 => rfl
  | s + 1 => by
    unfold widL
    rw [widL_sym rm X a b s]
    have : (s = a ∨ s = b ∨ rm s ≤ (X s).length) ↔ (s = b ∨ s = a ∨ rm s ≤ (X s).length) := by
      constructor
      · rintro (h | h | h)
        · exact Or.inr (Or.inl h)
        · exact Or.inl h
        · exact Or.inr (Or.inr h)
      · rintro (h | h | h)
        · exact Or.inr (Or.inl h)
        · exact Or.inl h
        · exact Or.inr (Or.inr h)
    by_cases c : s = a ∨ s = b ∨ rm s ≤ (X s).length
    · rw [if_pos c, if_pos (this.mp c)]
    · rw [if_neg c, if_neg (fun z => c (this.mpr z))]
theorem widL_ok {rm : Nat → Nat} {X : Cf} {a b t : Nat} : ∀ {s : Nat}, widL rm X a b s = some t → t < s ∧ t ≠ a ∧ t ≠ b ∧ (X t).length < rm t
  | 0, h => by cases h
  | s + 1, h => by
    unfold widL at h
    by_cases c : s = a ∨ s = b ∨ rm s ≤ (X s).length
    · rw [if_pos c] at h
      have := widL_ok h
      exact ⟨by omega, this.2⟩
    · rw [if_neg c] at h
      have me : s < s + 1 ∧ s ≠ a ∧ s ≠ b ∧ (X s).length < rm s := by
        refine ⟨by omega, fun e => c (Or.inl e), fun e => c (Or.inr (Or.inl e)), ?_⟩
        rcases Nat.lt_or_ge (X s).length (rm s) with z | z
        · exact z
        · exact absurd (Or.inr (Or.inr z)) c
      cases q : widL rm X a b s with
      | none =>
        rw [q] at h
        injection h with h
        rw [← h]; exact me
      | some u =>
        rw [q] at h
        simp only at h
        by_cases d : lfX rm X u < lfX rm X s
        · rw [if_pos d] at h
          injection h with h
          rw [← h]; exact me
        · rw [if_neg d] at h
          injection h with h
          rw [← h]
          have := widL_ok q
          exact ⟨by omega, this.2⟩
/-- c WAGONS from a to the widest STACKS but for a and b -/
def lowF (rm : Nat → Nat) (a b : Nat) : Nat → Cf → List (Nat × Nat) → Option (Cf × List (Nat × Nat))
  | 0, X, L => some (X, L)
  | c + 1, X, L => match widL rm X a b 4 with
    | none => none
    | some t => lowF rm a b c (mvd a t 1 X) (L ++ [(a, t)])
theorem mv1 {rm : Nat → Nat} {X : Cf} {a t : Nat} (ha : a < 4) (ht : t < 4) (hat : a ≠ t) (h1 : 1 ≤ (X a).length) (hr : (X t).length < rm t) : Mv rm X (mvd a t 1 X) := ⟨a, t, 1, ha, ht, hat, by omega, h1, by omega, rfl⟩
theorem mvd_a (a t n : Nat) (X : Cf) : mvd a t n X a = (X a).take ((X a).length - n) := by
  unfold mvd
  rw [if_pos rfl]
theorem mvd_t {a t : Nat} (n : Nat) (X : Cf) (h : t ≠ a) : mvd a t n X t = X t ++ (X a).drop ((X a).length - n) := by
  unfold mvd
  rw [if_neg h, if_pos rfl]
theorem mvd_o {a t u : Nat} (n : Nat) (X : Cf) (h : u ≠ a) (h' : u ≠ t) : mvd a t n X u = X u := by
  unfold mvd
  rw [if_neg h, if_neg h']
/-- what all ways to stand BY RULE have -/
def Rl (rm : Nat → Nat) (G X : Cf) : Prop := Fit rm X ∧ (∀ w, (Flat X).count w = (Flat G).count w) ∧ (∀ s, 4 ≤ s → X s = []) ∧ tot X = tot G
theorem Rl.mv {rm : Nat → Nat} {G X Z : Cf} (h : Rl rm G X) (m : Mv rm X Z) : Rl rm G Z := ⟨m.fit h.1, fun w => by rw [mv_count m, h.2.1], fun s hs => by rw [mv_far m hs]; exact h.2.2.1 s hs, by rw [mv_tot m]; exact h.2.2.2⟩
theorem lowF_ok {rm : Nat → Nat} {G : Cf} {a b : Nat} (ha : a < 4) : ∀ {c : Nat} {X X' : Cf} {L L' : List (Nat × Nat)}, lowF rm a b c X L = some (X', L') → c ≤ (X a).length → Rl rm G X → Rl rm G X' ∧ X' a = (X a).take ((X a).length - c) ∧ (∀ u, u ≠ a → X u <+: X' u) ∧ (b ≠ a → X' b = X b) ∧ L'.length = L.length + c
  | 0, X, X', L, L', h, _, hR => by
    injection h with h
    injection h with h1 h2
    subst h1 h2
    refine ⟨hR, ?_, fun u _ => List.prefix_refl _, fun _ => rfl, rfl⟩
    rw [Nat.sub_zero, List.take_length]
  | c + 1, X, X', L, L', h, hc, hR => by
    unfold lowF at h
    cases q : widL rm X a b 4 with
    | none => rw [q] at h; cases h
    | some t =>
      rw [q] at h
      simp only at h
      obtain ⟨t4, ta, tb, tr⟩ := widL_ok q
      have m := mv1 ha t4 (Ne.symm ta) (by omega) tr
      have la : (mvd a t 1 X a).length = (X a).length - 1 := by rw [mvd_a, List.length_take]; omega
      obtain ⟨r1, r2, r3, r4, r5⟩ := lowF_ok ha h (by omega) (hR.mv m)
      refine ⟨r1, ?_, fun u hu => ?_, fun hb => ?_, ?_⟩
      · rw [r2, la, mvd_a, List.take_take]
        congr 1
        omega
      · refine List.IsPrefix.trans ?_ (r3 u hu)
        by_cases cu : u = t
        · subst cu
          rw [mvd_t 1 X hu]
          exact List.prefix_append _ _
        · rw [mvd_o 1 X hu cu]
          exact List.prefix_refl _
      · rw [r4 hb, mvd_o 1 X hb (Ne.symm tb)]
      · rw [r5, List.length_append]
        show L.length + 1 + c = L.length + (c + 1)
        omega
/-- which STACK, which place -/
def AtX (X : Cf) (w t p : Nat) : Prop := t < 4 ∧ (X t)[p]? = some w
theorem at_mem {X : Cf} {w t p : Nat} (h : AtX X w t p) : w ∈ X t := List.mem_of_getElem? h.2
theorem at_ex {X : Cf} {w : Nat} (h : w ∈ Flat X) : ∃ t p, AtX X w t p := by
  have g : ∀ t, t < 4 → w ∈ X t → ∃ t p, AtX X w t p := fun t ht hm => by
    obtain ⟨p, hp, e⟩ := List.mem_iff_getElem.mp hm
    exact ⟨t, p, ht, by rw [List.getElem?_eq_getElem hp, e]⟩
  unfold Flat at h
  rw [List.mem_append, List.mem_append, List.mem_append] at h
  rcases h with ((h | h) | h) | h
  · exact g 0 (by omega) h
  · exact g 1 (by omega) h
  · exact g 2 (by omega) h
  · exact g 3 (by omega) h
theorem cnt_le {X : Cf} {s w : Nat} (hs : s < 4) : (X s).count w ≤ (Flat X).count w := by
  unfold Flat
  rw [List.count_append, List.count_append, List.count_append]
  rcases (show s = 0 ∨ s = 1 ∨ s = 2 ∨ s = 3 by omega) with rfl | rfl | rfl | rfl <;> omega
theorem cnt_2 {X : Cf} {s t w : Nat} (hs : s < 4) (ht : t < 4) (hst : s ≠ t) : (X s).count w + (X t).count w ≤ (Flat X).count w := by
  unfold Flat
  rw [List.count_append, List.count_append, List.count_append]
  rcases (show s = 0 ∨ s = 1 ∨ s = 2 ∨ s = 3 by omega) with rfl | rfl | rfl | rfl <;> rcases (show t = 0 ∨ t = 1 ∨ t = 2 ∨ t = 3 by omega) with rfl | rfl | rfl | rfl <;> omega
theorem nd_at {l : List Nat} {w : Nat} (h : l.count w ≤ 1) : ∀ {p q : Nat}, l[p]? = some w → l[q]? = some w → p = q := by
  induction l with
  | nil => intro p q e; simp at e
  | cons a t ih =>
    intro p q e e'
    rw [List.count_cons] at h
    cases p with
    | zero =>
      cases q with
      | zero => rfl
      | succ q =>
        simp at e e'
        subst e
        have : 0 < t.count a := List.count_pos_iff.mpr (List.mem_of_getElem? e')
        simp at h
        omega
    | succ p =>
      cases q with
      | zero =>
        simp at e e'
        subst e'
        have : 0 < t.count a := List.count_pos_iff.mpr (List.mem_of_getElem? e)
        simp at h
        omega
      | succ q =>
        simp at e e'
        rw [ih (by omega) e e']
theorem at_uq {X : Cf} {w t p t' p' : Nat} (hc : (Flat X).count w ≤ 1) (h : AtX X w t p) (h' : AtX X w t' p') : t = t' ∧ p = p' := by
  have m := List.count_pos_iff.mpr (at_mem h)
  have m' := List.count_pos_iff.mpr (at_mem h')
  have e : t = t' := by
    rcases Nat.decEq t t' with c | c
    · have := cnt_2 (X := X) (w := w) h.1 h'.1 c
      omega
    · exact c
  subst e
  have := cnt_le (X := X) (w := w) h.1
  exact ⟨rfl, nd_at (by omega) h.2 h'.2⟩
/-! ===== BY RULE, pure: one WAGON ===== -/
def bdN (N : Nat) : Nat → Nat
  | 0 => 0
  | k + 1 => bdN N k + 2 * (N - k)
theorem bd_all : ∀ N k : Fin 11, bdN N.1 k.1 ≤ 110 := by decide +kernel
def oG (G : Cf) : Nat → Nat
  | 0 => 0
  | s + 1 => oG G s + (G s).length
/-- what GOALS have -/
def Gl (rm : Nat → Nat) (G : Cf) : Prop := Fit rm G ∧ (∀ w, (Flat G).count w ≤ 1) ∧ tot G ≤ 10
def Iv (rm : Nat → Nat) (G : Cf) (s i : Nat) (X : Cf) (L : List (Nat × Nat)) : Prop := Rl rm G X ∧ (∀ s', s' < s → G s' <+: X s') ∧ (s < 4 → (G s).take i <+: X s) ∧ L.length ≤ bdN (tot G) (oG G s + i)
theorem oG_tot (G : Cf) : oG G 4 = tot G := by
  have o0 : oG G 0 = 0 := rfl
  have o1 : oG G 1 = oG G 0 + (G 0).length := rfl
  have o2 : oG G 2 = oG G 1 + (G 1).length := rfl
  have o3 : oG G 3 = oG G 2 + (G 2).length := rfl
  have o4 : oG G 4 = oG G 3 + (G 3).length := rfl
  unfold tot
  omega
theorem oG_le {G : Cf} {s : Nat} (hs : s < 4) : oG G s + (G s).length ≤ tot G := by
  have o0 : oG G 0 = 0 := rfl
  have o1 : oG G 1 = oG G 0 + (G 0).length := rfl
  have o2 : oG G 2 = oG G 1 + (G 1).length := rfl
  have o3 : oG G 3 = oG G 2 + (G 2).length := rfl
  unfold tot
  rcases (show s = 0 ∨ s = 1 ∨ s = 2 ∨ s = 3 by omega) with rfl | rfl | rfl | rfl <;> omega
/-- the WAGONS above place i of s are some of those that are not yet right -/
theorem iv_1 {G X : Cf} {s i : Nat} (hs : s < 4) (ht : tot X = tot G) (hp : ∀ s', s' < s → (G s').length ≤ (X s').length) : (X s).length + oG G s ≤ tot G := by
  have o0 : oG G 0 = 0 := rfl
  have o1 : oG G 1 = oG G 0 + (G 0).length := rfl
  have o2 : oG G 2 = oG G 1 + (G 1).length := rfl
  have o3 : oG G 3 = oG G 2 + (G 2).length := rfl
  unfold tot at ht ⊢
  rcases (show s = 0 ∨ s = 1 ∨ s = 2 ∨ s = 3 by omega) with rfl | rfl | rfl | rfl
  · omega
  · have := hp 0 (by omega); omega
  · have := hp 0 (by omega); have := hp 1 (by omega); omega
  · have := hp 0 (by omega); have := hp 1 (by omega); have := hp 2 (by omega); omega
theorem iv_2 {G X : Cf} {s i t p : Nat} (hs : s < 4) (ht4 : t < 4) (hts : t ≠ s) (ht : tot X = tot G) (hp : ∀ s', s' < s → (G s').length ≤ (X s').length) (hi : (X s).length = i) (hpt : t < s → (G t).length ≤ p) : (X t).length + oG G s + i ≤ tot G + p := by
  have o0 : oG G 0 = 0 := rfl
  have o1 : oG G 1 = oG G 0 + (G 0).length := rfl
  have o2 : oG G 2 = oG G 1 + (G 1).length := rfl
  have o3 : oG G 3 = oG G 2 + (G 2).length := rfl
  unfold tot at ht ⊢
  rcases (show s = 0 ∨ s = 1 ∨ s = 2 ∨ s = 3 by omega) with rfl | rfl | rfl | rfl
  · rcases (show t = 1 ∨ t = 2 ∨ t = 3 by omega) with rfl | rfl | rfl <;> omega
  · have := hp 0 (by omega)
    rcases (show t = 0 ∨ t = 2 ∨ t = 3 by omega) with rfl | rfl | rfl
    · have := hpt (by omega); omega
    · omega
    · omega
  · have := hp 0 (by omega)
    have := hp 1 (by omega)
    rcases (show t = 0 ∨ t = 1 ∨ t = 3 by omega) with rfl | rfl | rfl
    · have := hpt (by omega); omega
    · have := hpt (by omega); omega
    · omega
  · have := hp 0 (by omega)
    have := hp 1 (by omega)
    have := hp 2 (by omega)
    rcases (show t = 0 ∨ t = 1 ∨ t = 2 by omega) with rfl | rfl | rfl <;> (have := hpt (by omega); omega)
theorem pre_take {l l' : List Nat} {i : Nat} (h : l.take i <+: l') (hi : i ≤ l.length) : l'.take i = l.take i ∧ i ≤ l'.length := by
  have e := List.prefix_iff_eq_take.mp h
  rw [List.length_take, Nat.min_eq_left hi] at e
  have := h.length_le
  rw [List.length_take, Nat.min_eq_left hi] at this
  exact ⟨e.symm, this⟩
theorem take_1 {l : List Nat} {i w : Nat} (h : l[i]? = some w) : l.take (i + 1) = l.take i ++ [w] := by
  rw [List.take_add_one, h]
  rfl
/-- the WAGON is there already -/
theorem iv_yes {rm : Nat → Nat} {G X : Cf} {L : List (Nat × Nat)} {s i w : Nat} (h : Iv rm G s i X L) (hs : s < 4) (hw : (G s)[i]? = some w) (hx : (X s)[i]? = some w) : Iv rm G s (i + 1) X L := by
  obtain ⟨h1, h2, h3, h4⟩ := h
  have il : i < (G s).length := by
    rcases Nat.lt_or_ge i (G s).length with c | c
    · exact c
    · rw [List.getElem?_eq_none c] at hw; cases hw
  refine ⟨h1, h2, fun _ => ?_, Nat.le_trans h4 ?_⟩
  · have e := (pre_take (h3 hs) (by omega)).1
    rw [take_1 hw, ← e, ← take_1 hx]
    exact List.take_prefix _ _
  · show _ ≤ bdN (tot G) (oG G s + i) + 2 * (tot G - (oG G s + i))
    omega
/-- the WAGON is not there: what the first clearing leaves -/
theorem iv_low {rm : Nat → Nat} {G X X1 : Cf} {L L1 : List (Nat × Nat)} {s i w : Nat} (hG : Gl rm G) (h : Iv rm G s i X L) (hs : s < 4) (hw : (G s)[i]? = some w) (e : lowF rm s s ((X s).length - i) X L = some (X1, L1)) : ∃ t p, AtX X1 w t p ∧ t ≠ s ∧ Rl rm G X1 ∧ X1 s = (G s).take i ∧ (∀ s', s' < s → G s' <+: X1 s') ∧ (t < s → (G t).length ≤ p) ∧ L1.length ≤ bdN (tot G) (oG G s + i) + (tot G - (oG G s + i)) ∧ (X1 t).length - p - 1 + 1 ≤ tot G - (oG G s + i) := by
  obtain ⟨h1, h2, h3, h4⟩ := h
  have il : i < (G s).length := by
    rcases Nat.lt_or_ge i (G s).length with c | c
    · exact c
    · rw [List.getElem?_eq_none c] at hw; cases hw
  obtain ⟨e1, e2⟩ := pre_take (h3 hs) (by omega)
  obtain ⟨r1, r2, r3, r4, r5⟩ := lowF_ok (G := G) hs e (by omega) h1
  have x1s : X1 s = (G s).take i := by rw [r2, show (X s).length - ((X s).length - i) = i by omega, e1]
  have wG : w ∈ Flat G := fl_sub hs (List.mem_of_getElem? hw)
  have wX : w ∈ Flat X1 := by
    rw [← List.count_pos_iff, r1.2.1 w]
    exact List.count_pos_iff.mpr wG
  have c1 : (Flat X1).count w ≤ 1 := by rw [r1.2.1 w]; exact hG.2.1 w
  obtain ⟨t, p, at'⟩ := at_ex wX
  have ts : t ≠ s := fun q => by
    subst q
    have a := at'.2
    rw [x1s, List.getElem?_take] at a
    by_cases c : p < i
    · rw [if_pos c] at a
      have := nd_at (by have := cnt_le (X := G) (w := w) hs; have := hG.2.1 w; omega) a hw
      omega
    · rw [if_neg c] at a; cases a
  have pr : ∀ s', s' < s → G s' <+: X1 s' := fun s' q => List.IsPrefix.trans (h2 s' q) (r3 s' (by omega))
  have pl : t < s → (G t).length ≤ p := fun q => by
    rcases Nat.lt_or_ge p (G t).length with c | c
    · have e := List.prefix_iff_eq_take.mp (pr t q)
      have a : (G t)[p]? = some w := by
        rw [e, List.getElem?_take, if_pos c]
        exact at'.2
      have := (at_uq (X := G) (hG.2.1 w) ⟨at'.1, a⟩ ⟨hs, hw⟩).1
      omega
    · exact c
  have len1 : ∀ s', s' < s → (G s').length ≤ (X1 s').length := fun s' q => (pr s' q).length_le
  have b1 := iv_1 (i := i) hs h1.2.2.2 (fun s' q => (h2 s' q).length_le)
  have lx : (X1 s).length = i := by rw [x1s, List.length_take]; omega
  have b2 := iv_2 hs at'.1 ts r1.2.2.2 len1 lx pl
  have og := oG_le (G := G) hs
  have pt : p < (X1 t).length := by
    rcases Nat.lt_or_ge p (X1 t).length with c | c
    · exact c
    · have a := at'.2
      rw [List.getElem?_eq_none c] at a; cases a
  refine ⟨t, p, at', ts, r1, x1s, pr, pl, by omega, by omega⟩
/-- and where the WAGON is brought -/
theorem iv_end {rm : Nat → Nat} {G X1 X2 : Cf} {L1 L2 : List (Nat × Nat)} {s i w t p : Nat} (hG : Gl rm G) (hs : s < 4) (hw : (G s)[i]? = some w) (at' : AtX X1 w t p) (ts : t ≠ s) (h1 : Rl rm G X1) (x1s : X1 s = (G s).take i) (pr : ∀ s', s' < s → G s' <+: X1 s') (pl : t < s → (G t).length ≤ p) (hL : L1.length ≤ bdN (tot G) (oG G s + i) + (tot G - (oG G s + i))) (hc : (X1 t).length - p - 1 + 1 ≤ tot G - (oG G s + i)) (e : lowF rm t s ((X1 t).length - p - 1) X1 L1 = some (X2, L2)) : 1 ≤ (X2 t).length ∧ (X2 s).length < rm s ∧ L2.length < 110 ∧ Iv rm G s (i + 1) (mvd t s 1 X2) (L2 ++ [(t, s)]) := by
  have il : i < (G s).length := by
    rcases Nat.lt_or_ge i (G s).length with c | c
    · exact c
    · rw [List.getElem?_eq_none c] at hw; cases hw
  have pt : p < (X1 t).length := by
    rcases Nat.lt_or_ge p (X1 t).length with c | c
    · exact c
    · have a := at'.2
      rw [List.getElem?_eq_none c] at a; cases a
  obtain ⟨r1, r2, r3, r4, r5⟩ := lowF_ok (G := G) at'.1 e (by omega) h1
  have x2t : X2 t = (X1 t).take (p + 1) := by rw [r2, show (X1 t).length - ((X1 t).length - p - 1) = p + 1 by omega]
  have x2t' : X2 t = (X1 t).take p ++ [w] := by rw [x2t, take_1 at'.2]
  have x2s : X2 s = (G s).take i := by rw [r4 (Ne.symm ts), x1s]
  have lt : (X2 t).length = p + 1 := by rw [x2t, List.length_take]; omega
  have ls : (X2 s).length = i := by rw [x2s, List.length_take]; omega
  have og := oG_le (G := G) hs
  have b10 := bd_all ⟨tot G, by have := hG.2.2; omega⟩ ⟨oG G s + i + 1, by have := hG.2.2; omega⟩
  have b11 : bdN (tot G) (oG G s + i + 1) = bdN (tot G) (oG G s + i) + 2 * (tot G - (oG G s + i)) := rfl
  simp only at b10
  have fs := hG.1 s hs
  have rs : (X2 s).length < rm s := by omega
  have m := mv1 at'.1 hs ts (by omega) rs
  refine ⟨by omega, rs, by omega, r1.mv m, fun s' q => ?_, fun _ => ?_, ?_⟩
  · by_cases c : s' = t
    · subst c
      rw [mvd_a, lt, show p + 1 - 1 = p by omega, x2t']
      have lp : ((X1 s').take p).length = p := by rw [List.length_take]; omega
      rw [List.take_append_of_le_length (by omega), List.take_of_length_le (by omega)]
      have e := List.prefix_iff_eq_take.mp (pr s' q)
      rw [e]
      have := pl q
      have lg : (G s').length ≤ (X1 s').length := (pr s' q).length_le
      have tt : (X1 s').take (G s').length = ((X1 s').take p).take (G s').length := by rw [List.take_take, Nat.min_eq_left this]
      rw [tt]
      exact List.take_prefix _ _
    · rw [mvd_o 1 X2 c (by omega)]
      exact List.IsPrefix.trans (pr s' q) (r3 s' c)
  · rw [mvd_t 1 X2 (Ne.symm ts), x2s, lt, show p + 1 - 1 = p by omega, x2t']
    have lp : ((X1 t).take p).length = p := by rw [List.length_take]; omega
    have d : ((X1 t).take p ++ [w]).drop p = [w] := by
      have := List.drop_left (l₁ := (X1 t).take p) (l₂ := [w])
      rw [lp] at this
      exact this
    rw [d, take_1 hw]
    exact List.prefix_refl _
  · rw [List.length_append, ← Nat.add_assoc (oG G s) i 1, b11]
    show L2.length + 1 ≤ _
    omega
/-! ===== BY RULE: the class's steps ===== -/
def CW (B T : SS) (X : Cf) (L : List (Nat × Nat)) : Prop := (∀ q, q ≠ 70 → q ≠ 107 → q ≠ 126 → q ≠ 127 → T.1 q = B.1 q) ∧ (∀ s, s < 4 → T.1 127 s = nI (X s).length ∧ (X s).length ≤ 10) ∧ (∀ s i w, s < 4 → (X s)[i]? = some w → T.1 126 (10 * s + i) = nI w) ∧ T.1 70 7 = nI L.length ∧ T.1 70 8 = 0 ∧ L.length ≤ 128 ∧ ∀ j a b, L[j]? = some (a, b) → T.1 107 j = nI (64 * a + 16 * b + 1) ∧ a < 4 ∧ b < 4 ∧ a ≠ b
def Rm (B : SS) (rm : Nat → Nat) : Prop := ∀ s, s < 4 → B.1 106 s = nI (rm s) ∧ rm s ≤ 10
theorem hw_c {B T : SS} {X : Cf} {L : List (Nat × Nat)} (h : CW B T X L) {s : Nat} (hs : s < 4) : f_Stacks_height_work (nI s) T = some (nI (X s).length, T) := by
  rw [f_Stacks_height_work.eq_1, if_neg (nI_nn (by omega)), if_neg (k_ge (k := 4) 4 rfl hs (by omega)), grT (inb_nI hs (by omega)), nI_clamp (by omega), (h.2.1 s hs).1]
theorem rl_c {B T : SS} {X : Cf} {L : List (Nat × Nat)} {rm : Nat → Nat} (h : CW B T X L) (hr : Rm B rm) (hf : Fit rm X) {s : Nat} (hs : s < 4) : f_Plans_roomLeft (nI s) T = some (nI (lfX rm X s), T) := by
  have f := hf s hs
  have r := hr s hs
  rw [f_Plans_roomLeft.eq_1, if_neg (nI_nn (by omega)), if_pos (show nI s < (4 : Int32) from (nI_ltJ (b := 4) (by omega) (by omega)).mpr hs), grT (inb_nI hs (by omega)), hw_c h hs, bnd_r, nI_clamp (by omega), h.1 106 (by decide) (by decide) (by decide) (by decide), r.1, nI_sb f (by omega)]
  rfl
theorem rl_n (T : SS) : f_Plans_roomLeft (-4) T = some (0, T) := by
  rw [f_Plans_roomLeft.eq_1, if_pos (by decide)]
def oI : Option Nat → Int32
  | none => -4
  | some t => nI t
theorem ro_c {B T V : SS} {X : Cf} {L : List (Nat × Nat)} {rm : Nat → Nat} {a b : Nat} {r : Int32} (h : CW B T X L) (hr : Rm B rm) (hf : Fit rm X) (ha : a < 4) (hb : b < 4) : ∀ (N s : Nat), s ≤ 4 → f_Plans_roomiest_L6 N (nI a) (nI b) (oI (widL rm X a b s)) (nI s) T = some (r, V) → V = T ∧ r = oI (widL rm X a b 4)
  | 0, s, _, e => by cases e
  | N + 1, s, hs, e => by
    rw [f_Plans_roomiest_L6.eq_2] at e
    by_cases c4 : s = 4
    · subst c4
      rw [if_pos (by decide)] at e
      obtain ⟨x, y⟩ := so_i e
      exact ⟨y, x⟩
    · have hs4 : s < 4 := by omega
      rw [if_neg (k_ge (k := 4) 4 rfl hs4 (by omega))] at e
      have next : ∀ o, o = widL rm X a b (s + 1) → f_Plans_roomiest_j41 (fun v0 v1 v2 v3 S => f_Plans_roomiest_L6 N v0 v1 v2 v3 S) (nI a) (nI b) (oI o) (nI s) T = some (r, V) → V = T ∧ r = oI (widL rm X a b 4) := fun o ho e => by
        subst ho
        rw [f_Plans_roomiest_j41.eq_1, nmR, nI_1] at e
        exact ro_c h hr hf ha hb N (s + 1) (by omega) e
      by_cases ca : s = a
      · rw [if_pos (by rw [ca])] at e
        exact next _ (by show _ = (if s = a ∨ s = b ∨ rm s ≤ (X s).length then _ else _); rw [if_pos (Or.inl ca)]) e
      · rw [if_neg (fun z => ca (nI_inj (by omega) (by omega) z))] at e
        by_cases cb : s = b
        · rw [if_pos (by rw [cb])] at e
          exact next _ (by show _ = (if s = a ∨ s = b ∨ rm s ≤ (X s).length then _ else _); rw [if_pos (Or.inr (Or.inl cb))]) e
        · rw [if_neg (fun z => cb (nI_inj (by omega) (by omega) z)), rl_c h hr hf hs4, bnd_r] at e
          have r10 := (hr s hs4).2
          have lf1 : lfX rm X s ≤ 10 := by unfold lfX; omega
          have f := hf s hs4
          cases q : widL rm X a b s with
          | none =>
            rw [q] at e
            rw [show oI none = -4 from rfl, rl_n, bnd_r] at e
            by_cases cf : rm s ≤ (X s).length
            · rw [if_pos (show nI (lfX rm X s) ≤ 0 from nI_le (b := 0) (by unfold lfX; omega) (by omega))] at e
              exact next none (by show _ = (if s = a ∨ s = b ∨ rm s ≤ (X s).length then _ else _); rw [if_pos (Or.inr (Or.inr cf)), q]) e
            · rw [if_neg (fun z : nI (lfX rm X s) ≤ (0 : Int32) => by
                have := (n_leJ (b := 0) (by omega) (by omega)).mp z
                unfold lfX at this
                omega)] at e
              refine next (some s) ?_ e
              show _ = (if s = a ∨ s = b ∨ rm s ≤ (X s).length then _ else _)
              rw [if_neg (by
                rintro (z | z | z)
                · exact ca z
                · exact cb z
                · exact cf z), q]
          | some t =>
            obtain ⟨t1, t2, t3, t4⟩ := widL_ok q
            have rt10 := (hr t (by omega)).2
            have lf2 : lfX rm X t ≤ 10 ∧ 0 < lfX rm X t := by unfold lfX; omega
            rw [q] at e
            rw [show oI (some t) = nI t from rfl, rl_c h hr hf (show t < 4 by omega), bnd_r] at e
            by_cases d : lfX rm X t < lfX rm X s
            · rw [if_neg (fun z => by have := (n_leJ (by omega) (by omega)).mp z; omega)] at e
              refine next (some s) ?_ e
              show _ = (if s = a ∨ s = b ∨ rm s ≤ (X s).length then _ else _)
              rw [if_neg (by
                rintro (z | z | z)
                · exact ca z
                · exact cb z
                · unfold lfX at d; omega), q]
              simp only
              rw [if_pos d]
            · rw [if_pos (nI_le (by omega) (by omega))] at e
              refine next (some t) ?_ e
              show _ = (if s = a ∨ s = b ∨ rm s ≤ (X s).length then _ else _)
              by_cases cf : rm s ≤ (X s).length
              · rw [if_pos (Or.inr (Or.inr cf)), q]
              · rw [if_neg (by
                  rintro (z | z | z)
                  · exact ca z
                  · exact cb z
                  · exact cf z), q]
                simp only
                rw [if_neg d]
theorem ap_at {l l' : List Nat} {i w : Nat} (h : (l ++ l')[i]? = some w) : (i < l.length ∧ l[i]? = some w) ∨ (l.length ≤ i ∧ l'[i - l.length]? = some w) := by
  rw [List.getElem?_append] at h
  by_cases c : i < l.length
  · rw [if_pos c] at h; exact Or.inl ⟨c, h⟩
  · rw [if_neg c] at h; exact Or.inr ⟨by omega, h⟩
set_option maxHeartbeats 1000000 in
theorem mo_c {B T V : SS} {X : Cf} {L : List (Nat × Nat)} {rm : Nat → Nat} {a b : Nat} {r : Int32} (h : CW B T X L) (hr : Rm B rm) (hf : Fit rm X) (ha : a < 4) (hb : b < 4) (hab : a ≠ b) (h1 : 1 ≤ (X a).length) (h2 : (X b).length < rm b) (hL : L.length < 128) (e : f_Plans_moveOne (nI a) (nI b) T = some (r, V)) : r = 1 ∧ CW B V (mvd a b 1 X) (L ++ [(a, b)]) := by
  obtain ⟨c1, c2, c3, c4, c5, c6, c7⟩ := id h
  have rb := hr b hb
  have la := (c2 a ha)
  have lb := (c2 b hb)
  rw [f_Plans_moveOne.eq_1, rl_c h hr hf hb, bnd_r, if_neg (fun z : nI (lfX rm X b) < (1 : Int32) => by
    have := (nI_ltJ (b := 1) (by unfold lfX; omega) (by omega)).mp z
    unfold lfX at this
    omega), c4, if_pos (show nI L.length < (128 : Int32) from (nI_ltJ (b := 128) (by omega) (by omega)).mpr hL)] at e
  obtain ⟨S3, g3, e⟩ := bndv_i e
  rw [f_Stacks_shift_work.eq_1, if_neg (nI_nn (by omega)), if_neg (k_ge (k := 4) 4 rfl hb (by omega)), if_neg (fun z => hab (nI_inj (by omega) (by omega) z.symm)), f_Stacks_shift_work_j19.eq_1, if_neg (by decide), if_neg (by decide), hw_c h ha, bnd_r, if_neg (fun z : nI (X a).length < (1 : Int32) => by
    have := (nI_ltJ (b := 1) (by omega) (by omega)).mp z
    omega)] at g3
  replace g3 := (grd_i g3).2
  rw [nI_clamp (n := b) (by omega), nI_clamp (n := a) (by omega), lb.1, la.1, show (10 : Int32) - nI (X b).length = nI (10 - (X b).length) from nI_sb (a := 10) (by omega) (by omega), if_pos (show (1 : Int32) ≤ nI (10 - (X b).length) from k_le (k := 1) 1 rfl (by omega) (by omega)), show nI (X a).length - (1 : Int32) = nI ((X a).length - 1) from nI_sb (b := 1) (by omega) (by omega)] at g3
  replace g3 := (grd_i g3).2
  replace g3 := (grd_i g3).2
  rw [wr_r] at g3
  replace g3 := (grd_i g3).2
  replace g3 := (grd_i g3).2
  rw [show (st T 127 a (nI ((X a).length - 1))).1 127 a = nI ((X a).length - 1) by rw [st_at, if_pos rfl, if_pos rfl], show (st T 127 a (nI ((X a).length - 1))).1 127 b = nI (X b).length by rw [st_at, if_pos rfl, if_neg (Ne.symm hab), lb.1], show (10 : Int32) * nI a = nI (10 * a) from nI_mul 10 a, show (10 : Int32) * nI b = nI (10 * b) from nI_mul 10 b, nI_add, nI_add] at g3
  replace g3 := (grd_i g3).2
  have cpr : ∀ (S : SS) (k0 k1 x y n : Nat) (g : SS → Option SS), cpw S k0 k1 x y n g = g (cp S k0 k1 x y n) := fun _ _ _ _ _ _ _ => rfl
  rw [cpr, nI_clamp (n := 10 * a + ((X a).length - 1)) (by omega), nI_clamp (n := 10 * b + (X b).length) (by omega), show (1 : Int32).toNatClampNeg = 1 from rfl] at g3
  replace g3 := (grd_i g3).2
  replace g3 := (grd_i g3).2
  rw [wr_r] at g3
  injection g3 with g3
  generalize hU : cp (st T 127 a (nI ((X a).length - 1))) 126 126 (10 * a + ((X a).length - 1)) (10 * b + (X b).length) 1 = U at g3
  have u126 : ∀ i, U.1 126 i = if i = 10 * b + (X b).length then T.1 126 (10 * a + ((X a).length - 1)) else T.1 126 i := fun i => by
    rw [cp_v hU.symm i, st_row _ _ _ _ (by decide)]
    by_cases c : i = 10 * b + (X b).length
    · rw [if_pos c, if_pos ⟨by omega, by omega⟩]
      exact congrArg (T.1 126) (by omega)
    · rw [if_neg c, if_neg (by omega)]
  have uo : ∀ q, q ≠ 126 → U.1 q = (st T 127 a (nI ((X a).length - 1))).1 q := fun q hq => by rw [← hU, cpx_row _ _ _ _ _ _ hq]
  have u127 : ∀ s, U.1 127 s = if s = a then nI ((X a).length - 1) else T.1 127 s := fun s => by rw [uo 127 (by decide), st_at, if_pos rfl]
  have v127 : ∀ s, S3.1 127 s = if s = b then nI ((X b).length + 1) else if s = a then nI ((X a).length - 1) else T.1 127 s := fun s => by
    rw [← g3, st_at, if_pos rfl, u127, u127, if_neg (Ne.symm hab), lb.1, nI_1]
  have vo : ∀ q, q ≠ 126 → q ≠ 127 → S3.1 q = T.1 q := fun q x y => by rw [← g3, st_row _ _ _ _ y, uo q x, st_row _ _ _ _ y]
  have v126 : ∀ i, S3.1 126 i = if i = 10 * b + (X b).length then T.1 126 (10 * a + ((X a).length - 1)) else T.1 126 i := fun i => by rw [← g3, st_row _ _ _ _ (by decide), u126]
  rw [vo 70 (by decide) (by decide), c4] at e
  replace e := (grd_i e).2
  rw [wr_r, nI_clamp (n := L.length) (by omega), show (64 : Int32) * nI a = nI (64 * a) from nI_mul 64 a, show (16 : Int32) * nI b = nI (16 * b) from nI_mul 16 b, nI_add, nI_1, wr_r, st_row _ _ _ _ (show (70 : Nat) ≠ 107 by decide), vo 70 (by decide) (by decide), c4, nI_1] at e
  obtain ⟨e1, e2⟩ := so_i e
  refine ⟨e1, ?_⟩
  subst e2
  have ml := mvd_len (X := X) hab h1
  refine ⟨fun q x1 x2 x3 x4 => ?_, fun s hs => ?_, fun s i w hs hi => ?_, ?_, ?_, ?_, fun j x y hj => ?_⟩
  · rw [st_row _ _ _ _ x1, st_row _ _ _ _ x2, vo q x3 x4]
    exact c1 q x1 x2 x3 x4
  · rw [st_row _ _ _ _ (by decide), st_row _ _ _ _ (by decide), v127, ml]
    by_cases sa : s = a
    · rw [if_neg (by omega), if_pos sa, if_pos sa]
      exact ⟨rfl, by omega⟩
    · by_cases sb : s = b
      · rw [if_pos sb, if_neg sa, if_pos sb]
        exact ⟨rfl, by omega⟩
      · rw [if_neg sb, if_neg sa, if_neg sa, if_neg sb]
        exact c2 s hs
  · rw [st_row _ _ _ _ (by decide), st_row _ _ _ _ (by decide), v126]
    have ls := c2 s hs
    by_cases sa : s = a
    · subst sa
      rw [mvd_a, List.getElem?_take] at hi
      by_cases ci : i < (X s).length - 1
      · rw [if_pos ci] at hi
        rw [if_neg (by omega)]
        exact c3 s i w hs hi
      · rw [if_neg ci] at hi; cases hi
    · by_cases sb : s = b
      · subst sb
        rw [mvd_t 1 X (Ne.symm hab)] at hi
        rcases ap_at hi with ⟨z1, z2⟩ | ⟨z1, z2⟩
        · rw [if_neg (by omega)]
          exact c3 s i w hs z2
        · rw [List.getElem?_drop] at z2
          have il : (X a).length - 1 + (i - (X s).length) < (X a).length := by
            rcases Nat.lt_or_ge ((X a).length - 1 + (i - (X s).length)) (X a).length with c | c
            · exact c
            · rw [List.getElem?_eq_none c] at z2; cases z2
          have ei : i = (X s).length := by omega
          rw [if_pos (by omega)]
          rw [show (X a).length - 1 + (i - (X s).length) = (X a).length - 1 by omega] at z2
          exact c3 a _ w ha z2
      · rw [mvd_o 1 X sa sb] at hi
        have il : i < (X s).length := by
          rcases Nat.lt_or_ge i (X s).length with c | c
          · exact c
          · rw [List.getElem?_eq_none c] at hi; cases hi
        rw [if_neg (by omega)]
        exact c3 s i w hs hi
  · rw [st_at, if_pos rfl, if_pos rfl, List.length_append]
    rfl
  · rw [st_at, if_pos rfl, if_neg (by decide), st_row _ _ _ _ (by decide), vo 70 (by decide) (by decide)]
    exact c5
  · rw [List.length_append]
    show L.length + 1 ≤ 128
    omega
  · rw [st_row _ _ _ _ (by decide), st_at, if_pos rfl, vo 107 (by decide) (by decide)]
    rw [List.getElem?_append] at hj
    by_cases cj : j < L.length
    · rw [if_pos cj] at hj
      rw [if_neg (by omega)]
      exact c7 j x y hj
    · rw [if_neg cj] at hj
      have : j = L.length := by
        rcases Nat.eq_zero_or_pos (j - L.length) with z | z
        · omega
        · rw [List.getElem?_eq_none (by show 1 ≤ _; omega)] at hj; cases hj
      rw [if_pos this]
      rw [this, Nat.sub_self] at hj
      injection hj with hj
      injection hj with q1 q2
      subst q1 q2
      exact ⟨rfl, ha, hb, hab⟩
/-! ===== BY RULE: as a function ===== -/
noncomputable def stC (X : Cf) (w : Nat) : Nat × Nat := @dite _ (∃ q : Nat × Nat, AtX X w q.1 q.2) (Classical.propDecidable _) (fun h => h.choose) (fun _ => (0, 0))
theorem stC_eq {X : Cf} {w t p : Nat} (hc : (Flat X).count w ≤ 1) (h : AtX X w t p) : stC X w = (t, p) := by
  have q : ∃ q : Nat × Nat, AtX X w q.1 q.2 := ⟨(t, p), h⟩
  have e : stC X w = q.choose := by
    unfold stC
    rw [dif_pos q]
  obtain ⟨a, b⟩ := at_uq hc q.choose_spec h
  rw [e]
  exact Prod.ext a b
noncomputable def brF (rm : Nat → Nat) (s i w : Nat) (X : Cf) (L : List (Nat × Nat)) : Option (Cf × List (Nat × Nat)) :=
  if (X s)[i]? = some w then some (X, L) else (lowF rm s s ((X s).length - i) X L).bind (fun q => (lowF rm (stC q.1 w).1 s ((q.1 (stC q.1 w).1).length - (stC q.1 w).2 - 1) q.1 q.2).bind (fun u => some (mvd (stC q.1 w).1 s 1 u.1, u.2 ++ [((stC q.1 w).1, s)])))
theorem brF_y {rm : Nat → Nat} {s i w : Nat} {X : Cf} {L : List (Nat × Nat)} (h : (X s)[i]? = some w) : brF rm s i w X L = some (X, L) := if_pos h
theorem brF_n1 {rm : Nat → Nat} {s i w : Nat} {X : Cf} {L : List (Nat × Nat)} (h : ¬ (X s)[i]? = some w) (e : lowF rm s s ((X s).length - i) X L = none) : brF rm s i w X L = none := by
  unfold brF
  rw [if_neg h, e]
  rfl
theorem brF_2 {rm : Nat → Nat} {s i w t p : Nat} {X X1 : Cf} {L L1 : List (Nat × Nat)} (h : ¬ (X s)[i]? = some w) (e : lowF rm s s ((X s).length - i) X L = some (X1, L1)) (hc : (Flat X1).count w ≤ 1) (a : AtX X1 w t p) : brF rm s i w X L = (lowF rm t s ((X1 t).length - p - 1) X1 L1).bind (fun u => some (mvd t s 1 u.1, u.2 ++ [(t, s)])) := by
  unfold brF
  rw [if_neg h, e]
  show (lowF rm (stC X1 w).1 s ((X1 (stC X1 w).1).length - (stC X1 w).2 - 1) X1 L1).bind (fun u => some (mvd (stC X1 w).1 s 1 u.1, u.2 ++ [((stC X1 w).1, s)])) = _
  rw [stC_eq hc a]
noncomputable def inF (rm : Nat → Nat) (s : Nat) : Nat → List Nat → Cf → List (Nat × Nat) → Option (Cf × List (Nat × Nat))
  | _, [], X, L => some (X, L)
  | i, w :: l, X, L => (brF rm s i w X L).bind (fun q => inF rm s (i + 1) l q.1 q.2)
noncomputable def ouF (rm : Nat → Nat) (G : Cf) : Nat → Nat → Cf → List (Nat × Nat) → Option (Cf × List (Nat × Nat))
  | 0, _, X, L => some (X, L)
  | c + 1, s, X, L => (inF rm s 0 (G s) X L).bind (fun q => ouF rm G c (s + 1) q.1 q.2)
/-! ===== the class: lower, bring ===== -/
theorem nI_p1 (c : Nat) : nI (c + 1) + (-1 : Int32) = nI c := by
  rw [← nI_1, Int32.add_assoc, show (1 : Int32) + -1 = 0 from by decide, Int32.add_zero]
theorem low_c {B V : SS} {rm : Nat → Nat} {a b : Nat} {r : Int32} (hr : Rm B rm) (ha : a < 4) (hb : b < 4) : ∀ (N c : Nat) (X : Cf) (L : List (Nat × Nat)) (T : SS), CW B T X L → Fit rm X → c ≤ (X a).length → L.length + c ≤ 128 → f_Plans_lower_L12 N (nI a) (nI b) (nI c) T = some (r, V) → (lowF rm a b c X L = none ∧ r = 0 ∧ ∃ X' L', CW B V X' L') ∨ ∃ X' L', lowF rm a b c X L = some (X', L') ∧ r = 1 ∧ CW B V X' L'
  | 0, c, X, L, T, _, _, _, _, e => by cases e
  | N + 1, 0, X, L, T, h, hf, hc, hL, e => by
    rw [f_Plans_lower_L12.eq_2, if_pos (show nI 0 ≤ (0 : Int32) by decide)] at e
    obtain ⟨x, y⟩ := so_i e
    exact Or.inr ⟨X, L, rfl, x, by rw [y]; exact h⟩
  | N + 1, c + 1, X, L, T, h, hf, hc, hL, e => by
    rw [f_Plans_lower_L12.eq_2, if_neg (fun z : nI (c + 1) ≤ (0 : Int32) => by
      have := (n_leJ (b := 0) (by have := (h.2.1 a ha).2; omega) (by omega)).mp z
      omega)] at e
    obtain ⟨r5, S4, g5, e4⟩ := bnd_i e
    clear e
    rw [f_Plans_roomiest.eq_1] at g5
    obtain ⟨rfl, rfl⟩ := ro_c h hr hf ha hb NF 0 (by omega) g5
    obtain ⟨r7, S6, g7, e⟩ := bnd_i e4
    clear e4
    cases q : widL rm X a b 4 with
    | none =>
      rw [q, show oI none = -4 from rfl, f_Plans_moveOne.eq_1, rl_n, bnd_r, if_pos (by decide)] at g7
      obtain ⟨x, y⟩ := so_i g7
      subst x y
      rw [if_pos rfl] at e
      obtain ⟨x, y⟩ := so_i e
      refine Or.inl ⟨?_, x, X, L, by rw [y]; exact h⟩
      unfold lowF
      rw [q]
    | some t =>
      obtain ⟨t1, t2, t3, t4⟩ := widL_ok q
      rw [q, show oI (some t) = nI t from rfl] at g7
      obtain ⟨x, h'⟩ := mo_c h hr hf ha t1 (Ne.symm t2) (by omega) t4 (by omega) g7
      subst x
      rw [if_neg (by decide), nmR, nI_p1] at e
      have m := mv1 ha t1 (Ne.symm t2) (by omega) t4
      have la : (mvd a t 1 X a).length = (X a).length - 1 := by rw [mvd_a, List.length_take]; omega
      have res := low_c hr ha hb N c _ _ S6 h' (m.fit hf) (by omega) (by
        rw [List.length_append]
        show L.length + 1 + c ≤ 128
        omega) e
      have u : lowF rm a b (c + 1) X L = lowF rm a b c (mvd a t 1 X) (L ++ [(a, t)]) := by
        conv => lhs; unfold lowF
        rw [q]
      rw [u]
      exact res
theorem wa_c {B T : SS} {X : Cf} {L : List (Nat × Nat)} (h : CW B T X L) {s i w : Nat} (hs : s < 4) (hi : (X s)[i]? = some w) : f_Stacks_wagonAt_work (nI s) (nI i) T = some (nI w, T) := by
  have il : i < (X s).length := by
    rcases Nat.lt_or_ge i (X s).length with c | c
    · exact c
    · rw [List.getElem?_eq_none c] at hi; cases hi
  obtain ⟨l1, l2⟩ := h.2.1 s hs
  rw [f_Stacks_wagonAt_work.eq_1, if_neg (nI_nn (by omega)), if_neg (k_ge (k := 4) 4 rfl hs (by omega)), if_neg (nI_nn (by omega)), grT (inb_nI hs (by omega)), nI_clamp (n := s) (by omega), l1, if_neg (nI_ge il (by omega)), f_Stacks_wagonAt_work_j28.eq_1, if_neg (by decide), show (10 : Int32) * nI s + nI i = nI (10 * s + i) by rw [show (10 : Int32) * nI s = nI (10 * s) from nI_mul 10 s, nI_add], grT (inb_nI (by omega) (by omega)), nI_clamp (n := 10 * s + i) (by omega), h.2.2.1 s i w hs hi]
theorem wa_cn {B T : SS} {X : Cf} {L : List (Nat × Nat)} (h : CW B T X L) {s i : Nat} (hs : s < 4) (hi : (X s).length ≤ i) (hi2 : i < 2 ^ 31) : f_Stacks_wagonAt_work (nI s) (nI i) T = some (-4, T) := by
  obtain ⟨l1, l2⟩ := h.2.1 s hs
  rw [f_Stacks_wagonAt_work.eq_1, if_neg (nI_nn (by omega)), if_neg (k_ge (k := 4) 4 rfl hs (by omega)), if_neg (nI_nn (by omega)), grT (inb_nI hs (by omega)), nI_clamp (n := s) (by omega), l1, if_pos (nI_le hi (by omega)), f_Stacks_wagonAt_work_j27.eq_1, f_Stacks_wagonAt_work_j28.eq_1, if_pos rfl]
theorem pl_c {B T V : SS} {X : Cf} {L : List (Nat × Nat)} {s w : Nat} {r : Int32} (h : CW B T X L) (h10 : ∀ v, v ∈ Flat X → v < 10) (hs : s < 4) (hw : w < 10) : ∀ (N i : Nat), i ≤ (X s).length → (∀ j, j < i → ¬ (X s)[j]? = some w) → f_Stacks_placeOn_work_L2 N (nI s) (nI w) (nI i) T = some (r, V) → V = T ∧ ((r = -4 ∧ ¬ w ∈ X s) ∨ ∃ p, r = nI p ∧ (X s)[p]? = some w ∧ p < 10)
  | 0, i, _, _, e => by cases e
  | N + 1, i, hi, hno, e => by
    obtain ⟨l1, l2⟩ := h.2.1 s hs
    rw [f_Stacks_placeOn_work_L2.eq_2, hw_c h hs, bnd_r] at e
    by_cases c : i = (X s).length
    · rw [if_pos (nI_le (by omega) (by omega))] at e
      obtain ⟨x, y⟩ := so_i e
      refine ⟨y, Or.inl ⟨x, fun m => ?_⟩⟩
      obtain ⟨p, hp, e⟩ := List.mem_iff_getElem.mp m
      exact hno p (by omega) (by rw [List.getElem?_eq_getElem hp, e])
    · have il : i < (X s).length := by omega
      have g := List.getElem?_eq_getElem il
      have v10 : (X s)[i] < 10 := h10 _ (fl_sub hs (List.getElem_mem il))
      rw [if_neg (nI_ge il (by omega)), wa_c h hs g, bnd_r] at e
      by_cases d : (X s)[i] = w
      · rw [if_pos (by rw [d])] at e
        obtain ⟨x, y⟩ := so_i e
        exact ⟨y, Or.inr ⟨i, x, by rw [g, d], by omega⟩⟩
      · rw [if_neg (fun z => d (nI_inj (by omega) (by omega) z)), nmR, nI_1] at e
        refine pl_c h h10 hs hw N (i + 1) (by omega) (fun j hj => ?_) e
        by_cases cj : j = i
        · subst cj
          rw [g]
          intro z
          injection z with z
          exact d z
        · exact hno j (by omega)
theorem so_c {B T V : SS} {X : Cf} {L : List (Nat × Nat)} {w : Nat} {r : Int32} (h : CW B T X L) (h10 : ∀ v, v ∈ Flat X → v < 10) (hw : w < 10) : ∀ (N s : Nat), s ≤ 4 → (∀ j, j < s → ¬ w ∈ X j) → f_Stacks_stackOf_work_L2 N (nI w) (nI s) T = some (r, V) → V = T ∧ ((r = -4 ∧ ∀ s, s < 4 → ¬ w ∈ X s) ∨ ∃ t p, r = nI t ∧ AtX X w t p)
  | 0, s, _, _, e => by cases e
  | N + 1, s, hs, hno, e => by
    rw [f_Stacks_stackOf_work_L2.eq_2] at e
    by_cases c : s = 4
    · subst c
      rw [if_pos (by decide)] at e
      obtain ⟨x, y⟩ := so_i e
      exact ⟨y, Or.inl ⟨x, hno⟩⟩
    · rw [if_neg (k_ge (k := 4) 4 rfl (by omega) (by omega))] at e
      obtain ⟨r2, S1, g, e'⟩ := bnd_i e
      clear e
      have e := e'
      clear e'
      rw [f_Stacks_placeOn_work.eq_1] at g
      obtain ⟨rfl, d⟩ := pl_c h h10 (show s < 4 by omega) hw NF 0 (Nat.zero_le _) (fun j hj => absurd hj (Nat.not_lt_zero _)) g
      rcases d with ⟨d1, d2⟩ | ⟨p, d1, d2, d3⟩
      · rw [if_pos d1, nmR, nI_1] at e
        refine so_c h h10 hw N (s + 1) (by omega) (fun j hj => ?_) e
        by_cases cj : j = s
        · rw [cj]; exact d2
        · exact hno j (by omega)
      · rw [d1, if_neg (nI_m4 (by omega))] at e
        obtain ⟨x, y⟩ := so_i e
        exact ⟨y, Or.inr ⟨s, p, x, by omega, d2⟩⟩
/-! ===== the class: bring, makeByRule ===== -/
theorem rl_10 {rm : Nat → Nat} {G X : Cf} (g10 : ∀ v, v ∈ Flat G → v < 10) (h : Rl rm G X) : ∀ v, v ∈ Flat X → v < 10 := fun v hv => by
  refine g10 v ?_
  rw [← List.count_pos_iff, ← h.2.1 v]
  exact List.count_pos_iff.mpr hv
theorem iv_L {rm : Nat → Nat} {G X : Cf} {L : List (Nat × Nat)} {s i : Nat} (hG : Gl rm G) (hs : s < 4) (hi : i ≤ (G s).length) (h : Iv rm G s i X L) : L.length ≤ 110 := by
  have og := oG_le (G := G) hs
  have t10 := hG.2.2
  have := bd_all ⟨tot G, by omega⟩ ⟨oG G s + i, by omega⟩
  have b := h.2.2.2
  simp only at this
  omega
theorem lo_c {B T V : SS} {rm : Nat → Nat} {a b hh : Nat} {r : Int32} {X : Cf} {L : List (Nat × Nat)} (hr : Rm B rm) (ha : a < 4) (hb : b < 4) (h : CW B T X L) (hf : Fit rm X) (hc : hh ≤ (X a).length) (hL : L.length + ((X a).length - hh) ≤ 128) (e : f_Plans_lower (nI a) (nI hh) (nI b) T = some (r, V)) : (lowF rm a b ((X a).length - hh) X L = none ∧ r = 0 ∧ ∃ X' L', CW B V X' L') ∨ ∃ X' L', lowF rm a b ((X a).length - hh) X L = some (X', L') ∧ r = 1 ∧ CW B V X' L' := by
  have l := (h.2.1 a ha).2
  rw [f_Plans_lower.eq_1, hw_c h ha, bnd_r, nmR, nI_sb hc (by omega)] at e
  exact low_c hr ha hb NF _ X L T h hf (by omega) hL e
set_option maxHeartbeats 1000000 in
theorem brg_c {B T V : SS} {rm : Nat → Nat} {G X : Cf} {L : List (Nat × Nat)} {s i w : Nat} {r : Int32} (hr : Rm B rm) (hG : Gl rm G) (g10 : ∀ v, v ∈ Flat G → v < 10) (h : CW B T X L) (hI : Iv rm G s i X L) (hs : s < 4) (hw : (G s)[i]? = some w) (e : f_Plans_bring (nI w) (nI s) (nI i) T = some (r, V)) : (brF rm s i w X L = none ∧ r = 0 ∧ ∃ X' L', CW B V X' L') ∨ ∃ X' L', brF rm s i w X L = some (X', L') ∧ r = 1 ∧ CW B V X' L' ∧ Iv rm G s (i + 1) X' L' := by
  have il : i < (G s).length := by
    rcases Nat.lt_or_ge i (G s).length with c | c
    · exact c
    · rw [List.getElem?_eq_none c] at hw; cases hw
  have w10 : w < 10 := g10 w (fl_sub hs (List.mem_of_getElem? hw))
  have L110 := iv_L hG hs (by omega) hI
  obtain ⟨p1, p2⟩ := pre_take (hI.2.2.1 hs) (show i ≤ (G s).length by omega)
  have ls := (h.2.1 s hs).2
  rw [f_Plans_bring.eq_1] at e
  by_cases c : (X s)[i]? = some w
  · rw [wa_c h hs c, bnd_r, if_pos rfl] at e
    obtain ⟨x, y⟩ := so_i e
    exact Or.inr ⟨X, L, brF_y c, x, by rw [y]; exact h, iv_yes hI hs hw c⟩
  · have e0 : bnd (f_Plans_lower (nI s) (nI i) (nI s) T) (fun r4 S3 => if r4 = 0 then some ((0 : Int32), S3) else bnd (f_Stacks_stackOf_work (nI w) S3) (fun r6 S5 => bnd (f_Stacks_placeOn_work r6 (nI w) S5) (fun r8 S7 => bnd (f_Plans_lower r6 (r8 + (1 : Int32)) (nI s) S7) (fun r10 S9 => if r10 = 0 then some ((0 : Int32), S9) else bnd (f_Plans_moveOne r6 (nI s) S9) (fun r12 S11 => if r12 = 0 then some ((0 : Int32), S11) else some ((1 : Int32), S11)))))) = some (r, V) := by
      rcases Nat.lt_or_ge i (X s).length with d | d
      · have g := List.getElem?_eq_getElem d
        have v10 : (X s)[i] < 10 := rl_10 g10 hI.1 _ (fl_sub hs (List.getElem_mem d))
        rw [wa_c h hs g, bnd_r, if_neg (fun z => c (by rw [g, nI_inj (by omega) (by omega) z]))] at e
        exact e
      · rw [wa_cn h hs d (by omega), bnd_r, if_neg (fun z => nI_m4 (by omega) z.symm)] at e
        exact e
    clear e
    obtain ⟨r4, S3, g4, e1⟩ := bnd_i e0
    clear e0
    rcases lo_c hr hs hs h hI.1.1 p2 (by omega) g4 with ⟨a1, a2, a3⟩ | ⟨X1, L1, a1, a2, a3⟩
    · subst a2
      rw [if_pos rfl] at e1
      obtain ⟨x, y⟩ := so_i e1
      exact Or.inl ⟨brF_n1 c a1, x, by rw [y]; exact a3⟩
    · subst a2
      rw [if_neg (by decide)] at e1
      obtain ⟨t, p, b1, b2, b3, b4, b5, b6, b7, b8⟩ := iv_low hG hI hs hw a1
      have c1 : (Flat X1).count w ≤ 1 := by rw [b3.2.1 w]; exact hG.2.1 w
      have f10 := rl_10 g10 b3
      have lt := (a3.2.1 t b1.1).2
      have pt : p < (X1 t).length := by
        rcases Nat.lt_or_ge p (X1 t).length with z | z
        · exact z
        · have q := b1.2
          rw [List.getElem?_eq_none z] at q; cases q
      obtain ⟨r6, S5, g6, e2⟩ := bnd_i e1
      clear e1
      rw [f_Stacks_stackOf_work.eq_1] at g6
      obtain ⟨rfl, d⟩ := so_c a3 f10 w10 NF 0 (by omega) (fun j hj => absurd hj (Nat.not_lt_zero _)) g6
      have d' : r6 = nI t := by
        rcases d with ⟨-, d⟩ | ⟨t', p', d1, d2⟩
        · exact absurd (at_mem b1) (d t b1.1)
        · rw [d1, (at_uq c1 d2 b1).1]
      subst d'
      obtain ⟨r8, S7, g8, e3⟩ := bnd_i e2
      clear e2
      rw [f_Stacks_placeOn_work.eq_1] at g8
      obtain ⟨rfl, d2⟩ := pl_c a3 f10 b1.1 w10 NF 0 (Nat.zero_le _) (fun j hj => absurd hj (Nat.not_lt_zero _)) g8
      have d3 : r8 = nI p := by
        rcases d2 with ⟨-, d2⟩ | ⟨p', q1, q2, q3⟩
        · exact absurd (at_mem b1) d2
        · rw [q1, (at_uq c1 ⟨b1.1, q2⟩ b1).2]
      subst d3
      rw [nI_1] at e3
      obtain ⟨r10, S9, g10', e4⟩ := bnd_i e3
      clear e3
      have og := oG_le (G := G) hs
      have t10 := hG.2.2
      have bb := bd_all ⟨tot G, by omega⟩ ⟨oG G s + i + 1, by omega⟩
      have b11 : bdN (tot G) (oG G s + i + 1) = bdN (tot G) (oG G s + i) + 2 * (tot G - (oG G s + i)) := rfl
      simp only at bb
      have res := lo_c hr b1.1 hs a3 b3.1 (show p + 1 ≤ (X1 t).length by omega) (by omega) g10'
      rw [show (X1 t).length - (p + 1) = (X1 t).length - p - 1 by omega] at res
      rcases res with ⟨f1, f2, f3⟩ | ⟨X2, L2, f1, f2, f3⟩
      · subst f2
        rw [if_pos rfl] at e4
        obtain ⟨x, y⟩ := so_i e4
        refine Or.inl ⟨?_, x, by rw [y]; exact f3⟩
        rw [brF_2 c a1 c1 b1, f1]
        rfl
      · subst f2
        rw [if_neg (by decide)] at e4
        obtain ⟨r12, S11, g12, e5⟩ := bnd_i e4
        clear e4
        obtain ⟨k1, k2, k3, k4⟩ := iv_end hG hs hw b1 b2 b3 b4 b5 b6 b7 b8 f1
        have fit2 : Fit rm X2 := (lowF_ok (G := G) b1.1 f1 (by omega) b3).1.1
        obtain ⟨x, m⟩ := mo_c f3 hr fit2 b1.1 hs b2 k1 k2 (by omega) g12
        subst x
        rw [if_neg (by decide)] at e5
        obtain ⟨x, y⟩ := so_i e5
        refine Or.inr ⟨_, _, ?_, x, by rw [y]; exact m, k4⟩
        rw [brF_2 c a1 c1 b1, f1]
        rfl
/-- a PLAN of the class, made BY RULE, or none -/
def MBR (B V : SS) (r : Int32) (res : Option (Cf × List (Nat × Nat))) : Prop := (res = none ∧ r = -4 ∧ V.1 70 7 = 0 ∧ V.1 70 8 = 0 ∧ ∀ q, q ≠ 70 → q ≠ 107 → q ≠ 126 → q ≠ 127 → V.1 q = B.1 q) ∨ ∃ X L T, res = some (X, L) ∧ r = nI L.length ∧ CW B T X L ∧ V = st T 70 8 2
theorem mb24 {B V : SS} {K : Int32 → SS → Option (Int32 × SS)} {rm : Nat → Nat} {G : Cf} {s : Nat} {r : Int32} (hr : Rm B rm) (hG : Gl rm G) (g10 : ∀ v, v ∈ Flat G → v < 10) (hg1 : ∀ s, s < 4 → B.1 125 s = nI (G s).length ∧ (G s).length ≤ 10) (hg2 : ∀ s i w, s < 4 → (G s)[i]? = some w → B.1 124 (10 * s + i) = nI w) (hs : s < 4) : ∀ (N i : Nat) (X : Cf) (L : List (Nat × Nat)) (T : SS), i ≤ (G s).length → CW B T X L → Iv rm G s i X L → f_Plans_makeByRule_L24 K N (nI s) (nI i) T = some (r, V) → (inF rm s i ((G s).drop i) X L = none ∧ MBR B V r none) ∨ ∃ X' L' T', inF rm s i ((G s).drop i) X L = some (X', L') ∧ CW B T' X' L' ∧ Iv rm G s (G s).length X' L' ∧ K (nI (s + 1)) T' = some (r, V)
  | 0, i, X, L, T, _, _, _, e => by cases e
  | N + 1, i, X, L, T, hi, h, hI, e => by
    obtain ⟨l1, l2⟩ := hg1 s hs
    have c1 := h.1
    rw [f_Plans_makeByRule_L24.eq_2, he_goal hs, bnd_r, c1 125 (by decide) (by decide) (by decide) (by decide), l1] at e
    by_cases c : i = (G s).length
    · rw [if_pos (nI_le (by omega) (by omega)), nmR, nI_1] at e
      subst c
      refine Or.inr ⟨X, L, T, ?_, h, hI, e⟩
      rw [List.drop_of_length_le (Nat.le_refl _)]
      rfl
    · have il : i < (G s).length := by omega
      have gw := List.getElem?_eq_getElem il
      rw [if_neg (nI_ge il (by omega)), wa_goal hs (by rw [c1 125 (by decide) (by decide) (by decide) (by decide)]; exact l1) l2 il, bnd_r, c1 124 (by decide) (by decide) (by decide) (by decide), hg2 s i _ hs gw] at e
      obtain ⟨r10, S9, g, e1⟩ := bnd_i e
      clear e
      have dr : (G s).drop i = (G s)[i] :: (G s).drop (i + 1) := List.drop_eq_getElem_cons il
      rcases brg_c hr hG g10 h hI hs gw g with ⟨a1, a2, X', L', a3⟩ | ⟨X', L', a1, a2, a3, a4⟩
      · subst a2
        rw [if_pos rfl, f_Plans_drop.eq_1, wr_r, wr_r] at e1
        have e2 : some ((-4 : Int32), st (st S9 70 8 0) 70 7 0) = some (r, V) := e1
        obtain ⟨x, y⟩ := so_i e2
        refine Or.inl ⟨?_, Or.inl ⟨rfl, x, ?_, ?_, fun q z1 z2 z3 z4 => ?_⟩⟩
        · rw [dr]
          show (brF rm s i (G s)[i] X L).bind _ = none
          rw [a1]
          rfl
        · rw [y, st_at, if_pos rfl, if_pos rfl]
        · rw [y, st_at, if_pos rfl, if_neg (by decide), st_at, if_pos rfl, if_pos rfl]
        · rw [y, st_row _ _ _ _ z1, st_row _ _ _ _ z1]
          exact a3.1 q z1 z2 z3 z4
      · subst a2
        rw [if_neg (by decide), nmR, nI_1] at e1
        have u : inF rm s i ((G s).drop i) X L = inF rm s (i + 1) ((G s).drop (i + 1)) X' L' := by
          rw [dr]
          show (brF rm s i (G s)[i] X L).bind _ = _
          rw [a1]
          rfl
        rw [u]
        exact mb24 hr hG g10 hg1 hg2 hs N (i + 1) X' L' S9 (by omega) a3 a4 e1
theorem iv_nx {rm : Nat → Nat} {G X : Cf} {L : List (Nat × Nat)} {s : Nat} (hs : s < 4) (h : Iv rm G s (G s).length X L) : Iv rm G (s + 1) 0 X L := by
  obtain ⟨h1, h2, h3, h4⟩ := h
  refine ⟨h1, fun s' q => ?_, fun _ => by rw [List.take_zero]; exact List.nil_prefix, h4⟩
  by_cases c : s' = s
  · subst c
    have := h3 hs
    rw [List.take_length] at this
    exact this
  · exact h2 s' (by omega)
theorem mb17 {B V : SS} {rm : Nat → Nat} {G : Cf} {r : Int32} (hr : Rm B rm) (hG : Gl rm G) (g10 : ∀ v, v ∈ Flat G → v < 10) (hg1 : ∀ s, s < 4 → B.1 125 s = nI (G s).length ∧ (G s).length ≤ 10) (hg2 : ∀ s i w, s < 4 → (G s)[i]? = some w → B.1 124 (10 * s + i) = nI w) : ∀ (N c s : Nat) (X : Cf) (L : List (Nat × Nat)) (T : SS), s + c = 4 → CW B T X L → Iv rm G s 0 X L → f_Plans_makeByRule_L17 N (nI s) T = some (r, V) → MBR B V r (ouF rm G c s X L)
  | 0, c, s, X, L, T, _, _, _, e => by cases e
  | N + 1, 0, s, X, L, T, hs, h, hI, e => by
    have : s = 4 := by omega
    subst this
    rw [f_Plans_makeByRule_L17.eq_2, if_pos (by decide), wr_r] at e
    obtain ⟨x, y⟩ := so_i e
    refine Or.inr ⟨X, L, T, rfl, ?_, h, y⟩
    rw [x, st_at, if_pos rfl, if_neg (by decide)]
    exact h.2.2.2.1
  | N + 1, c + 1, s, X, L, T, hs, h, hI, e => by
    rw [f_Plans_makeByRule_L17.eq_2, if_neg (k_ge (k := 4) 4 rfl (by omega) (by omega))] at e
    rcases mb24 hr hG g10 hg1 hg2 (show s < 4 by omega) NF 0 X L T (Nat.zero_le _) h hI e with ⟨a1, a2⟩ | ⟨X', L', T', a1, a2, a3, a4⟩
    · rw [List.drop_zero] at a1
      have u : ouF rm G (c + 1) s X L = none := by
        show (inF rm s 0 (G s) X L).bind _ = none
        rw [a1]
        rfl
      rw [u]
      exact a2
    · rw [List.drop_zero] at a1
      have u : ouF rm G (c + 1) s X L = ouF rm G c (s + 1) X' L' := by
        show (inF rm s 0 (G s) X L).bind _ = _
        rw [a1]
        rfl
      rw [u]
      exact mb17 hr hG g10 hg1 hg2 N c (s + 1) X' L' T' (by omega) a2 (iv_nx (by omega) a3) a4
/-! ===== the class: makeByRule as a whole ===== -/
theorem gX_at {S : SS} {o h : Nat} (h5 : h ≠ 57) (hh : ∀ i, rg (S.1 h i) 0 10) (h9 : ∀ i, rg (S.1 o i) 0 9) : (∀ s, s < 4 → S.1 h s = nI (cfS (gX S o h) s).length ∧ (cfS (gX S o h) s).length ≤ 10) ∧ ∀ s i w, s < 4 → (cfS (gX S o h) s)[i]? = some w → S.1 o (10 * s + i) = nI w := by
  have A : ∀ s, s < 4 → S.1 h s = nI (cfS (gX S o h) s).length ∧ (cfS (gX S o h) s).length ≤ 10 := fun s hs => by
    obtain ⟨j, hj, h1, h2, h3⟩ := rg_ex (hh s) (by omega)
    rw [cfS_len hs, gX_m h5 hs, hj, nI_clamp h3]
    exact ⟨rfl, by omega⟩
  refine ⟨A, fun s i w hs e => ?_⟩
  have il : i < (cfS (gX S o h) s).length := by
    rcases Nat.lt_or_ge i (cfS (gX S o h) s).length with c | c
    · exact c
    · rw [List.getElem?_eq_none c] at e; cases e
  have l10 := (A s hs).2
  rw [cfS_len hs] at il l10
  rw [cfS_get hs il] at e
  injection e with e
  unfold wN at e
  rw [gX_57 (by omega)] at e
  obtain ⟨j, hj, h1, h2, h3⟩ := rg_ex (h9 (10 * s + i)) (by omega)
  rw [hj, nI_clamp h3] at e
  rw [hj, e]
theorem rl_of {S : SS} {rm : Nat → Nat} {o h o' h' : Nat} (hW : WR S) (a5 : h ≠ 57) (b5 : h' ≠ 57) (ah : ∀ i, rg (S.1 h i) 0 10) (bh : ∀ i, rg (S.1 h' i) 0 10) (a9 : ∀ i, rg (S.1 o i) 0 9) (b9 : ∀ i, rg (S.1 o' i) 0 9) (aD : DW (S.1 h) (S.1 o)) (bD : DW (S.1 h') (S.1 o')) (same : ∀ w, w < 10 → (Bef (S.1 h) (S.1 o) (nI w) 4 0 ↔ Bef (S.1 h') (S.1 o') (nI w) 4 0)) (hf : Fit rm (cfS (gX S o h))) : Rl rm (cfS (gX S o' h')) (cfS (gX S o h)) := by
  obtain ⟨nd, mb⟩ := gX_fl hW a5 ah a9 aD
  obtain ⟨nd', mb'⟩ := gX_fl hW b5 bh b9 bD
  have mm : ∀ w, w ∈ Flat (cfS (gX S o h)) ↔ w ∈ Flat (cfS (gX S o' h')) := fun w => by
    constructor
    · intro q
      have v := gX_lt a5 ah a9 q
      exact (mb' w v).mpr ((same w v).mp ((mb w v).mp q))
    · intro q
      have v := gX_lt b5 bh b9 q
      exact (mb w v).mpr ((same w v).mpr ((mb' w v).mp q))
  refine ⟨hf, fun w => ?_, fun s hs => cfS_far _ hs, by rw [← flat_len, ← flat_len]; exact nd_len nd nd' mm⟩
  have a := List.nodup_iff_count.mp nd w
  have b := List.nodup_iff_count.mp nd' w
  have c : 0 < (Flat (cfS (gX S o h))).count w ↔ 0 < (Flat (cfS (gX S o' h'))).count w := by rw [List.count_pos_iff, List.count_pos_iff]; exact mm w
  omega
theorem iv_0 {rm : Nat → Nat} {G X : Cf} (h : Rl rm G X) : Iv rm G 0 0 X [] := ⟨h, fun s' q => absurd q (Nat.not_lt_zero _), fun _ => by rw [List.take_zero]; exact List.nil_prefix, Nat.zero_le _⟩
theorem mbr {S V : SS} {rm : Nat → Nat} {r : Int32} (hr : Rm S rm) (hh : ∀ i, rg (S.1 125 i) 0 10) (hh' : ∀ i, rg (S.1 123 i) 0 10) (h9 : ∀ i, rg (S.1 124 i) 0 9) (h9' : ∀ i, rg (S.1 122 i) 0 9) (hG : Gl rm (cfG S)) (hX : Rl rm (cfG S) (cfT S)) (e : f_Plans_makeByRule S = some (r, V)) : MBR S V r (ouF rm (cfG S) 4 0 (cfT S) []) := by
  rw [f_Plans_makeByRule.eq_1] at e
  obtain ⟨S1, g1, e1⟩ := bndv_i e
  clear e
  rw [f_Plans_drop.eq_1, wr_r, wr_r] at g1
  have g1' : some (st (st S 70 8 0) 70 7 0) = some S1 := g1
  injection g1' with g1'
  obtain ⟨S2, g2, e2⟩ := bndv_i e1
  clear e1
  rw [f_Stacks_become_work_start.eq_1] at g2
  replace g2 := (grd_i g2).2
  have cpr : ∀ (S : SS) (k0 k1 x y n : Nat) (g : SS → Option SS), cpw S k0 k1 x y n g = g (cp S k0 k1 x y n) := fun _ _ _ _ _ _ _ => rfl
  rw [cpr] at g2
  replace g2 := (grd_i g2).2
  rw [cpr, show (0 : Int32).toNatClampNeg = 0 from rfl, show (Int32.ofNat 40).toNatClampNeg = 40 from by decide, show (Int32.ofNat 4).toNatClampNeg = 4 from by decide] at g2
  have g2' : some (cp (cp S1 122 126 0 0 40) 123 127 0 0 4) = some S2 := g2
  injection g2' with g2'
  have s1 : ∀ q, q ≠ 70 → S1.1 q = S.1 q := fun q hq => by rw [← g1', st_row _ _ _ _ hq, st_row _ _ _ _ hq]
  have s2 : ∀ q, q ≠ 126 → q ≠ 127 → S2.1 q = S1.1 q := fun q x y => by rw [← g2', cpx_row _ _ _ _ _ _ y, cpx_row _ _ _ _ _ _ x]
  obtain ⟨x1, x2⟩ := gX_at (S := S) (o := 122) (h := 123) (by decide) hh' h9'
  obtain ⟨y1, y2⟩ := gX_at (S := S) (o := 124) (h := 125) (by decide) hh h9
  have cw : CW S S2 (cfT S) [] := by
    refine ⟨fun q a b c d => by rw [s2 q c d, s1 q a], fun s hs => ?_, fun s i w hs q => ?_, ?_, ?_, by show 0 ≤ 128; omega, fun j a b q => by simp at q⟩
    · obtain ⟨z1, z2⟩ := x1 s hs
      refine ⟨?_, z2⟩
      rw [← g2', cp_v rfl s, if_pos ⟨by omega, by omega⟩, cpx_row _ _ _ _ _ _ (by decide), s1 123 (by decide), show 0 + (s - 0) = s by omega]
      exact z1
    · have il : i < (cfT S s).length := by
        rcases Nat.lt_or_ge i (cfT S s).length with c | c
        · exact c
        · rw [List.getElem?_eq_none c] at q; cases q
      have : (cfT S s).length ≤ 10 := (x1 s hs).2
      rw [← g2', cpx_row _ _ _ _ _ _ (by decide), cp_v rfl (10 * s + i), if_pos ⟨by omega, by omega⟩, s1 122 (by decide), show 0 + (10 * s + i - 0) = 10 * s + i by omega]
      exact x2 s i w hs q
    · rw [s2 70 (by decide) (by decide), ← g1', st_at, if_pos rfl, if_pos rfl]
      rfl
    · rw [s2 70 (by decide) (by decide), ← g1', st_at, if_pos rfl, if_neg (by decide), st_at, if_pos rfl, if_pos rfl]
  exact mb17 hr hG (fun v hv => gX_lt (by decide) hh h9 hv) y1 y2 NF 4 0 (cfT S) [] S2 rfl cw (iv_0 hX) e2
/-! ===== BY RULE: the reference's steps ===== -/
def RWk (B T : SS) (X : Cf) (L : List (Nat × Nat)) : Prop := BF B T ∧ WR T ∧ NN T ∧ cfS T = X ∧ T.1 0 77 = nI L.length ∧ ∀ j a b, L[j]? = some (a, b) → T.1 51 j = nI a ∧ T.1 52 j = nI b ∧ T.1 53 j = 1
theorem rw_m {B T : SS} {X : Cf} {L : List (Nat × Nat)} (h : RWk B T X L) {s : Nat} (hs : s < 4) : T.1 58 s = nI (X s).length ∧ mN T s = (X s).length ∧ (X s).length ≤ 10 := by
  have a := mN_le h.2.1 s
  have b : (X s).length = mN T s := by rw [← h.2.2.2.1, cfS_len hs]
  rw [b]
  exact ⟨a.2, rfl, a.1⟩
theorem rw_at {B T : SS} {X : Cf} {L : List (Nat × Nat)} (h : RWk B T X L) {s i w : Nat} (hs : s < 4) (hi : (X s)[i]? = some w) : T.1 57 (10 * s + i) = nI w ∧ w < 10 := by
  have il : i < (X s).length := by
    rcases Nat.lt_or_ge i (X s).length with c | c
    · exact c
    · rw [List.getElem?_eq_none c] at hi; cases hi
  have m := (rw_m h hs).2.1
  rw [← m] at il
  obtain ⟨v, v1, v2⟩ := h.2.2.1 s i hs il
  rw [← h.2.2.2.1, cfS_get hs il, wN_of v2 v1] at hi
  injection hi with hi
  rw [v2, hi]
  exact ⟨rfl, by omega⟩
theorem rw_rm {B T : SS} {X : Cf} {L : List (Nat × Nat)} {rm : Nat → Nat} (h : RWk B T X L) (hr : ∀ s, rmN B s = rm s) : ∀ s, rmN T s = rm s := fun s => by
  rw [← hr s]
  unfold rmN
  rw [h.1.1 46 s rfl]
set_option maxHeartbeats 1000000 in
theorem ca_r {B T V : SS} {X : Cf} {L : List (Nat × Nat)} {rm : Nat → Nat} {a b : Nat} {r : Int32} (h : RWk B T X L) (hr : ∀ s, rmN B s = rm s) (ha : a < 4) (hb : b < 4) (hab : a ≠ b) (h1 : 1 ≤ (X a).length) (h2 : (X b).length < rm b) (hL : L.length + 1 < 400) (e : f_M_carries (nI a) (nI b) T = some (r, V)) : r = 1 ∧ RWk B V (mvd a b 1 X) (L ++ [(a, b)]) := by
  obtain ⟨c1, c2, c3, c4, c5, c6⟩ := id h
  obtain ⟨a1, a2, a3⟩ := rw_m h ha
  obtain ⟨b1, b2, b3⟩ := rw_m h hb
  have rb := rw_rm h hr b
  have r10 := (rmN_le c2 b).1
  rw [f_M_carries.eq_1, if_neg (nI_m4 (by omega))] at e
  obtain ⟨r2, S1, g1, e1⟩ := bnd_i e
  clear e
  obtain ⟨rfl, mm⟩ := ex_i (mmx (n := 1) c2 ha hb (by omega)) g1
  have hr1 : r2 = 1 := by
    rcases mm with ⟨-, q⟩ | ⟨q, -⟩
    · exact absurd ⟨hab, by omega, by rw [a2]; exact h1, by rw [b2, rb]; omega⟩ q
    · exact q
  subst hr1
  rw [if_neg (by decide), c5] at e1
  replace e1 := (grd_i e1).2
  rw [wr_r, nI_clamp (n := L.length) (by omega)] at e1
  generalize e2 : st S1 51 L.length (nI a) = T2 at e1
  have w2 := wo_51 c2 (rg_nI (j := a) (by omega) (by omega) (by omega)) e2.symm
  have q2 : ∀ k i, (k ≠ 51) → T2.1 k i = S1.1 k i := fun k i c => by rw [← e2, st_row _ _ _ _ c]
  rw [q2 0 77 (by decide), c5] at e1
  replace e1 := (grd_i e1).2
  rw [wr_r, nI_clamp (n := L.length) (by omega)] at e1
  generalize e3 : st T2 52 L.length (nI b) = T3 at e1
  have w3 := wo_52 w2 (rg_nI (j := b) (by omega) (by omega) (by omega)) e3.symm
  have q3 : ∀ k i, (k ≠ 52) → T3.1 k i = T2.1 k i := fun k i c => by rw [← e3, st_row _ _ _ _ c]
  rw [q3 0 77 (by decide), q2 0 77 (by decide), c5] at e1
  replace e1 := (grd_i e1).2
  rw [wr_r, nI_clamp (n := L.length) (by omega)] at e1
  generalize e4 : st T3 53 L.length 1 = T4 at e1
  have w4 := WR.st (k := 53) w3 trivial rfl e4.symm
  have q4 : ∀ k i, (k ≠ 53) → T4.1 k i = T3.1 k i := fun k i c => by rw [← e4, st_row _ _ _ _ c]
  rw [wr_r, q4 0 77 (by decide), q3 0 77 (by decide), q2 0 77 (by decide), c5, nI_1] at e1
  generalize e5 : st T4 0 77 (nI (L.length + 1)) = T5 at e1
  have w5 := wo_0_77 w4 (rg_nI (j := L.length + 1) (by omega) (by omega) (by omega)) e5.symm
  have v5 : T5.1 0 77 = nI (L.length + 1) := by rw [← e5, st_at, if_pos rfl, if_pos rfl]
  have G5 : BF S1 T5 := ⟨fun k i q => by
    have n1 : k ≠ 51 := fun e => by subst e; cases q
    have n2 : k ≠ 52 := fun e => by subst e; cases q
    have n3 : k ≠ 53 := fun e => by subst e; cases q
    rw [← e5, st_at]
    by_cases c : k = 0
    · subst c
      rw [if_pos rfl]
      by_cases d : i = 77
      · subst d; cases q
      · rw [if_neg d, q4 0 i (by decide), q3 0 i (by decide), q2 0 i (by decide)]
    · rw [if_neg c, q4 k i n3, q3 k i n2, q2 k i n1], by rw [← e5, ← e4, ← e3, ← e2]; rfl⟩
  have q5 : ∀ k i, k ≠ 0 → T5.1 k i = T4.1 k i := fun k i c => by rw [← e5, st_row _ _ _ _ c]
  have a57 : ∀ i, T5.1 57 i = S1.1 57 i := fun i => by rw [q5 57 i (by decide), q4 57 i (by decide), q3 57 i (by decide), q2 57 i (by decide)]
  have a58 : ∀ i, T5.1 58 i = S1.1 58 i := fun i => by rw [q5 58 i (by decide), q4 58 i (by decide), q3 58 i (by decide), q2 58 i (by decide)]
  have m5 : ∀ s, mN T5 s = mN S1 s := fun s => by unfold mN; rw [a58]
  obtain ⟨T6, g6', e6⟩ := bndv_i e1
  clear e1
  obtain ⟨⟨w6, g6, x6⟩, n6⟩ := ew_i (shn (n := 1) w5 (nn_cg c3 a57 a58) ha hb hab (by rw [m5, a2]; exact h1) (by rw [m5, b2]; omega)) g6'
  rw [cf_cg a57 a58, c4] at x6
  obtain ⟨y1, y2⟩ := so_i e6
  refine ⟨y1, ?_⟩
  subst y2
  refine ⟨Fr.tr (Fr.tr c1 G5 rfl) g6 rfl, w6, n6, x6, ?_, fun j x y hj => ?_⟩
  · rw [g6.1 0 77 rfl, v5, List.length_append]
    rfl
  · have k51 : V.1 51 j = if j = L.length then nI a else S1.1 51 j := by rw [g6.1 51 j rfl, q5 51 j (by decide), q4 51 j (by decide), q3 51 j (by decide), ← e2, st_at, if_pos rfl]
    have k52 : V.1 52 j = if j = L.length then nI b else S1.1 52 j := by rw [g6.1 52 j rfl, q5 52 j (by decide), q4 52 j (by decide), ← e3, st_at, if_pos rfl, q2 52 j (by decide)]
    have k53 : V.1 53 j = if j = L.length then 1 else S1.1 53 j := by rw [g6.1 53 j rfl, q5 53 j (by decide), ← e4, st_at, if_pos rfl, q3 53 j (by decide), q2 53 j (by decide)]
    rw [k51, k52, k53]
    rw [List.getElem?_append] at hj
    by_cases cj : j < L.length
    · rw [if_pos cj] at hj
      rw [if_neg (by omega), if_neg (by omega), if_neg (by omega)]
      exact c6 j x y hj
    · rw [if_neg cj] at hj
      have : j = L.length := by
        rcases Nat.eq_zero_or_pos (j - L.length) with z | z
        · omega
        · rw [List.getElem?_eq_none (by show 1 ≤ _; omega)] at hj; cases hj
      rw [if_pos this, if_pos this, if_pos this]
      rw [this, Nat.sub_self] at hj
      injection hj with hj
      injection hj with z1 z2
      rw [z1, z2]
      exact ⟨rfl, rfl, rfl⟩
theorem wi_r {B T V : SS} {X : Cf} {L : List (Nat × Nat)} {rm : Nat → Nat} {a b : Nat} {r : Int32} (h : RWk B T X L) (hr : ∀ s, rmN B s = rm s) (ha : a < 4) (hb : b < 4) : ∀ (N s : Nat), s ≤ 4 → f_M_widest_L6 N (nI a) (nI b) (oI (widL rm X a b s)) (nI s) T = some (r, V) → V = T ∧ r = oI (widL rm X a b 4)
  | 0, s, _, e => by cases e
  | N + 1, s, hs, e => by
    rw [f_M_widest_L6.eq_2] at e
    by_cases c4 : s = 4
    · subst c4
      rw [if_pos (by decide)] at e
      obtain ⟨x, y⟩ := so_i e
      exact ⟨y, x⟩
    · have hs4 : s < 4 := by omega
      rw [if_neg (k_ge (k := 4) 4 rfl hs4 (by omega))] at e
      have next : ∀ o, o = widL rm X a b (s + 1) → f_M_widest_j84 (fun v0 v1 v2 v3 S => f_M_widest_L6 N v0 v1 v2 v3 S) (nI a) (nI b) (oI o) (nI s) T = some (r, V) → V = T ∧ r = oI (widL rm X a b 4) := fun o ho e => by
        subst ho
        rw [f_M_widest_j84.eq_1, nmR, nI_1] at e
        exact wi_r h hr ha hb N (s + 1) (by omega) e
      by_cases ca : s = a
      · rw [if_pos (by rw [ca])] at e
        exact next _ (by show _ = (if s = a ∨ s = b ∨ rm s ≤ (X s).length then _ else _); rw [if_pos (Or.inl ca)]) e
      · rw [if_neg (fun z => ca (nI_inj (by omega) (by omega) z))] at e
        by_cases cb : s = b
        · rw [if_pos (by rw [cb])] at e
          exact next _ (by show _ = (if s = a ∨ s = b ∨ rm s ≤ (X s).length then _ else _); rw [if_pos (Or.inr (Or.inl cb))]) e
        · rw [if_neg (fun z => cb (nI_inj (by omega) (by omega) z))] at e
          replace e := (grd_i e).2
          replace e := (grd_i e).2
          have rt := rw_rm h hr
          have R : ∀ u, T.1 46 u = nI (rm u) ∧ rm u ≤ 10 := fun u => by
            have := rmN_le h.2.1 u
            rw [rt] at this
            exact ⟨this.2, this.1⟩
          have ms := rw_m h hs4
          have r10 := (R s).2
          rw [nI_clamp (n := s) (by omega), ms.1, (R s).1] at e
          by_cases cf : rm s ≤ (X s).length
          · rw [if_neg (fun z => by have := (nI_ltJ (by omega) (by omega)).mp z; omega)] at e
            exact next _ (by show _ = (if s = a ∨ s = b ∨ rm s ≤ (X s).length then _ else _); rw [if_pos (Or.inr (Or.inr cf))]) e
          · rw [if_pos ((nI_ltJ (by omega) (by omega)).mpr (by omega))] at e
            have un : ¬ (s = a ∨ s = b ∨ rm s ≤ (X s).length) := by
              rintro (z | z | z)
              · exact ca z
              · exact cb z
              · exact cf z
            cases q : widL rm X a b s with
            | none =>
              rw [q, show oI none = -4 from rfl, if_pos rfl, f_M_widest_j81.eq_1] at e
              refine next (some s) ?_ e
              show _ = (if s = a ∨ s = b ∨ rm s ≤ (X s).length then _ else _)
              rw [if_neg un, q]
            | some t =>
              obtain ⟨t1, t2, t3, t4⟩ := widL_ok q
              have rt10 := (R t).2
              have mt := rw_m h (show t < 4 by omega)
              rw [q, show oI (some t) = nI t from rfl, if_neg (nI_m4 (by omega))] at e
              replace e := (grd_i e).2
              replace e := (grd_i e).2
              replace e := (grd_i e).2
              replace e := (grd_i e).2
              rw [nI_clamp (n := t) (by omega), (R t).1, mt.1, nI_sb (by omega) (by omega), nI_sb (by omega) (by omega)] at e
              by_cases d : lfX rm X t < lfX rm X s
              · rw [if_neg (fun z => by
                  have := (n_leJ (by omega) (by omega)).mp z
                  unfold lfX at d
                  omega), f_M_widest_j81.eq_1] at e
                refine next (some s) ?_ e
                show _ = (if s = a ∨ s = b ∨ rm s ≤ (X s).length then _ else _)
                rw [if_neg un, q]
                simp only
                rw [if_pos d]
              · rw [if_pos (nI_le (by unfold lfX at d; omega) (by omega))] at e
                refine next (some t) ?_ e
                show _ = (if s = a ∨ s = b ∨ rm s ≤ (X s).length then _ else _)
                rw [if_neg un, q]
                simp only
                rw [if_neg d]
/-! ===== BY RULE: the reference's loops ===== -/
set_option maxHeartbeats 1000000 in
theorem br102 {B V : SS} {K : Int32 → Int32 → SS → Option (Int32 × SS)} {rm : Nat → Nat} {G : Cf} {s i w t p : Nat} {r : Int32} (hr : ∀ s, rmN B s = rm s) (hG : Gl rm G) (hs : s < 4) (hts : t ≠ s) (hw : w < 10) (hi : i < 100) : ∀ (N c : Nat) (X : Cf) (L : List (Nat × Nat)) (T : SS), RWk B T X L → Rl rm G X → AtX X w t p → (X t).length = p + 1 + c → L.length + c + 1 < 399 → (X s).length < rm s → f_M_byRule_L102 K N (nI s) (nI i) (nI w) (nI t) T = some (r, V) → (lowF rm t s c X L = none ∧ r = 0 ∧ ∃ X' L', RWk B V X' L') ∨ ∃ X2 L2 T', lowF rm t s c X L = some (X2, L2) ∧ RWk B T' (mvd t s 1 X2) (L2 ++ [(t, s)]) ∧ K (nI s) (nI (i + 1)) T' = some (r, V)
  | 0, c, X, L, T, _, _, _, _, _, _, e => by cases e
  | N + 1, c, X, L, T, h, hR, at', hc, hL, hx, e => by
    have ht4 := at'.1
    have mt := rw_m h ht4
    have c1 : (Flat X).count w ≤ 1 := by rw [hR.2.1 w]; exact hG.2.1 w
    have tl : (X t).length - 1 < (X t).length := by omega
    have top := List.getElem?_eq_getElem tl
    have ta := rw_at h ht4 top
    rw [f_M_byRule_L102.eq_2] at e
    replace e := (grd_i e).2
    replace e := (grd_i e).2
    rw [nI_clamp (n := t) (by omega), mt.1, show (10 : Int32) * nI t = nI (10 * t) from nI_mul 10 t, nI_add, show nI (10 * t + (X t).length) - (1 : Int32) = nI (10 * t + ((X t).length - 1)) from by
      rw [show nI (10 * t + (X t).length) - (1 : Int32) = nI (10 * t + (X t).length - 1) from nI_sb (b := 1) (by omega) (by omega)]
      exact congrArg nI (by omega), nI_clamp (by omega), ta.1] at e
    cases c with
    | zero =>
      have ep : (X t).length - 1 = p := by omega
      have ew : (X t)[(X t).length - 1] = w := by
        have q := at'.2
        rw [← ep, top] at q
        injection q
      rw [if_pos (by rw [ew])] at e
      obtain ⟨r8, S7, g, e1⟩ := bnd_i e
      clear e
      obtain ⟨x, h'⟩ := ca_r h hr ht4 hs hts (by omega) hx (by omega) g
      subst x
      rw [if_neg (by decide), f_M_byRule_j156.eq_1, nmR, nI_1] at e1
      exact Or.inr ⟨X, L, S7, rfl, h', e1⟩
    | succ c =>
      rw [if_neg (fun z => by
        have z := nI_inj (by omega) (by omega) z
        have := nd_at (by have := cnt_le (X := X) (w := w) ht4; omega) at'.2 (by rw [top, z])
        omega)] at e
      obtain ⟨r11, S10, g, e1⟩ := bnd_i e
      clear e
      rw [f_M_widest.eq_1] at g
      obtain ⟨rfl, rfl⟩ := wi_r h hr hs ht4 NF 0 (by omega) g
      rw [widL_sym] at e1
      obtain ⟨r13, S12, g2, e2⟩ := bnd_i e1
      clear e1
      cases q : widL rm X t s 4 with
      | none =>
        rw [q, show oI none = -4 from rfl, f_M_carries.eq_1, if_pos rfl] at g2
        obtain ⟨x, y⟩ := so_i g2
        subst x y
        rw [if_pos rfl] at e2
        obtain ⟨x, y⟩ := so_i e2
        refine Or.inl ⟨?_, x, X, L, by rw [y]; exact h⟩
        unfold lowF
        rw [q]
      | some u =>
        obtain ⟨u1, u2, u3, u4⟩ := widL_ok q
        rw [q, show oI (some u) = nI u from rfl] at g2
        obtain ⟨x, h'⟩ := ca_r h hr ht4 u1 (Ne.symm u2) (by omega) u4 (by omega) g2
        subst x
        rw [if_neg (by decide)] at e2
        have m := mv1 ht4 u1 (Ne.symm u2) (by omega) u4
        have la : (mvd t u 1 X t).length = (X t).length - 1 := by rw [mvd_a, List.length_take]; omega
        have res := br102 hr hG hs hts hw hi N c (mvd t u 1 X) (L ++ [(t, u)]) S12 h' (hR.mv m) ⟨ht4, by rw [mvd_a, List.getElem?_take, if_pos (show p < (X t).length - 1 by omega)]; exact at'.2⟩ (by omega) (by
          rw [List.length_append]
          show L.length + 1 + c + 1 < 399
          omega) (by rw [mvd_o 1 X (Ne.symm hts) (Ne.symm u3)]; exact hx) e2
        have un : lowF rm t s (c + 1) X L = lowF rm t s c (mvd t u 1 X) (L ++ [(t, u)]) := by
          conv => lhs; unfold lowF
          rw [q]
        rw [un]
        exact res
theorem br69 {B V : SS} {K : Int32 → Int32 → SS → Option (Int32 × SS)} {rm : Nat → Nat} {G : Cf} {s i w : Nat} {r : Int32} (hr : ∀ s, rmN B s = rm s) (hs : s < 4) : ∀ (N c : Nat) (X : Cf) (L : List (Nat × Nat)) (T : SS), RWk B T X L → Rl rm G X → (X s).length = i + c → L.length + c < 399 → f_M_byRule_L69 K N (nI s) (nI i) (nI w) T = some (r, V) → (lowF rm s s c X L = none ∧ r = 0 ∧ ∃ X' L', RWk B V X' L') ∨ ∃ X1 L1 T', lowF rm s s c X L = some (X1, L1) ∧ RWk B T' X1 L1 ∧ bnd (f_M_stackOf (nI w) T') (fun r6 S5 => f_M_byRule_L102 K NF (nI s) (nI i) (nI w) r6 S5) = some (r, V)
  | 0, c, X, L, T, _, _, _, _, e => by cases e
  | N + 1, c, X, L, T, h, hR, hc, hL, e => by
    have ms := rw_m h hs
    rw [f_M_byRule_L69.eq_2] at e
    replace e := (grd_i e).2
    rw [nI_clamp (n := s) (by omega), ms.1] at e
    cases c with
    | zero =>
      rw [if_pos (nI_le (by omega) (by omega))] at e
      exact Or.inr ⟨X, L, T, rfl, h, e⟩
    | succ c =>
      rw [if_neg (nI_ge (by omega) (by omega))] at e
      obtain ⟨r11, S10, g, e1⟩ := bnd_i e
      clear e
      rw [f_M_widest.eq_1] at g
      obtain ⟨rfl, rfl⟩ := wi_r h hr hs hs NF 0 (by omega) g
      obtain ⟨r13, S12, g2, e2⟩ := bnd_i e1
      clear e1
      cases q : widL rm X s s 4 with
      | none =>
        rw [q, show oI none = -4 from rfl, f_M_carries.eq_1, if_pos rfl] at g2
        obtain ⟨x, y⟩ := so_i g2
        subst x y
        rw [if_pos rfl] at e2
        obtain ⟨x, y⟩ := so_i e2
        refine Or.inl ⟨?_, x, X, L, by rw [y]; exact h⟩
        unfold lowF
        rw [q]
      | some u =>
        obtain ⟨u1, u2, u3, u4⟩ := widL_ok q
        rw [q, show oI (some u) = nI u from rfl] at g2
        obtain ⟨x, h'⟩ := ca_r h hr hs u1 (Ne.symm u2) (by omega) u4 (by omega) g2
        subst x
        rw [if_neg (by decide)] at e2
        have m := mv1 hs u1 (Ne.symm u2) (by omega) u4
        have la : (mvd s u 1 X s).length = (X s).length - 1 := by rw [mvd_a, List.length_take]; omega
        have res := br69 hr hs N c _ _ S12 h' (hR.mv m) (by omega) (by
          rw [List.length_append]
          show L.length + 1 + c < 399
          omega) e2
        have un : lowF rm s s (c + 1) X L = lowF rm s s c (mvd s u 1 X) (L ++ [(s, u)]) := by
          conv => lhs; unfold lowF
          rw [q]
        rw [un]
        exact res
set_option maxHeartbeats 1000000 in
theorem brg_r {B T V : SS} {K : Int32 → Int32 → SS → Option (Int32 × SS)} {rm : Nat → Nat} {G X : Cf} {L : List (Nat × Nat)} {s i w : Nat} {r : Int32} (hr : ∀ s, rmN B s = rm s) (hG : Gl rm G) (g10 : ∀ v, v ∈ Flat G → v < 10) (h : RWk B T X L) (hI : Iv rm G s i X L) (hs : s < 4) (hw : (G s)[i]? = some w) (c : ¬ (X s)[i]? = some w) (e : f_M_byRule_L69 K NF (nI s) (nI i) (nI w) T = some (r, V)) : (brF rm s i w X L = none ∧ r = 0 ∧ ∃ X' L', RWk B V X' L') ∨ ∃ X' L' T', brF rm s i w X L = some (X', L') ∧ RWk B T' X' L' ∧ Iv rm G s (i + 1) X' L' ∧ K (nI s) (nI (i + 1)) T' = some (r, V) := by
  have il : i < (G s).length := by
    rcases Nat.lt_or_ge i (G s).length with c | c
    · exact c
    · rw [List.getElem?_eq_none c] at hw; cases hw
  have w10 : w < 10 := g10 w (fl_sub hs (List.mem_of_getElem? hw))
  have L110 := iv_L hG hs (by omega) hI
  obtain ⟨p1, p2⟩ := pre_take (hI.2.2.1 hs) (show i ≤ (G s).length by omega)
  have ls := (rw_m h hs).2.2
  have og := oG_le (G := G) hs
  have t10 := hG.2.2
  rcases br69 (G := G) hr hs NF ((X s).length - i) X L T h hI.1 (by omega) (by omega) e with ⟨a1, a2, a3⟩ | ⟨X1, L1, T', a1, a3, e1⟩
  · exact Or.inl ⟨brF_n1 c a1, a2, a3⟩
  · obtain ⟨t, p, b1, b2, b3, b4, b5, b6, b7, b8⟩ := iv_low hG hI hs hw a1
    have c1 : (Flat X1).count w ≤ 1 := by rw [b3.2.1 w]; exact hG.2.1 w
    have pt : p < (X1 t).length := by
      rcases Nat.lt_or_ge p (X1 t).length with z | z
      · exact z
      · have q := b1.2
        rw [List.getElem?_eq_none z] at q; cases q
    obtain ⟨r6, S5, g6, e2⟩ := bnd_i e1
    clear e1
    obtain ⟨rfl, d⟩ := ex_i (sox a3.2.1) g6
    have d' : r6 = nI t := by
      rcases d with ⟨-, d⟩ | ⟨s', i', d1, d2, d3, d4⟩
      · refine absurd ?_ d
        have q := rw_at a3 b1.1 b1.2
        exact ⟨t, p, Or.inl b1.1, b1.1, by rw [mN_ti a3.2.1, (rw_m a3 b1.1).2.1]; omega, q.1⟩
      · rw [d3]
        have m := (rw_m a3 d1).2.1
        rw [m] at d2
        have g := List.getElem?_eq_getElem d2
        have q := rw_at a3 d1 g
        have ev : (X1 s')[i'] = w := nI_inj (by have := q.2; omega) (by omega) (q.1.symm.trans d4)
        rw [ev] at g
        rw [(at_uq c1 ⟨d1, g⟩ b1).1]
    subst d'
    have bb := bd_all ⟨tot G, by omega⟩ ⟨oG G s + i + 1, by omega⟩
    have b11 : bdN (tot G) (oG G s + i + 1) = bdN (tot G) (oG G s + i) + 2 * (tot G - (oG G s + i)) := rfl
    simp only at bb
    have x1s : (X1 s).length = i := by rw [b4, List.length_take]; omega
    have fs := hG.1 s hs
    rcases br102 (p := p) hr hG hs b2 w10 (by omega) NF ((X1 t).length - p - 1) X1 L1 S5 a3 b3 b1 (by omega) (by omega) (by omega) e2 with ⟨f1, f2, f3⟩ | ⟨X2, L2, T2, f1, f2, f3⟩
    · refine Or.inl ⟨?_, f2, f3⟩
      rw [brF_2 c a1 c1 b1, f1]
      rfl
    · obtain ⟨k1, k2, k3, k4⟩ := iv_end hG hs hw b1 b2 b3 b4 b5 b6 b7 b8 f1
      refine Or.inr ⟨_, _, T2, ?_, f2, k4, f3⟩
      rw [brF_2 c a1 c1 b1, f1]
      rfl
/-- what byRule of the reference leaves -/
def RBR (B V : SS) (r : Int32) (res : Option (Cf × List (Nat × Nat))) : Prop := (res = none ∧ r = 0 ∧ ∃ X L, RWk B V X L) ∨ ∃ X L, res = some (X, L) ∧ r = 1 ∧ RWk B V X L ∧ L.length ≤ 128
theorem rb19 {B V : SS} {K : Int32 → SS → Option (Int32 × SS)} {rm : Nat → Nat} {G : Cf} {s : Nat} {r : Int32} (hr : ∀ s, rmN B s = rm s) (hG : Gl rm G) (g10 : ∀ v, v ∈ Flat G → v < 10) (hg1 : ∀ s, s < 4 → B.1 49 s = nI (G s).length ∧ (G s).length ≤ 10) (hg2 : ∀ s i w, s < 4 → (G s)[i]? = some w → B.1 50 (10 * s + i) = nI w) (hs : s < 4) : ∀ (N i : Nat) (X : Cf) (L : List (Nat × Nat)) (T : SS), i ≤ (G s).length → RWk B T X L → Iv rm G s i X L → f_M_byRule_L19 K N (nI s) (nI i) T = some (r, V) → (inF rm s i ((G s).drop i) X L = none ∧ r = 0 ∧ ∃ X' L', RWk B V X' L') ∨ ∃ X' L' T', inF rm s i ((G s).drop i) X L = some (X', L') ∧ RWk B T' X' L' ∧ Iv rm G s (G s).length X' L' ∧ K (nI (s + 1)) T' = some (r, V)
  | 0, i, X, L, T, _, _, _, e => by cases e
  | N + 1, i, X, L, T, hi, h, hI, e => by
    obtain ⟨l1, l2⟩ := hg1 s hs
    have c1 := h.1
    rw [f_M_byRule_L19.eq_2] at e
    replace e := (grd_i e).2
    rw [nI_clamp (n := s) (by omega), c1.1 49 s rfl, l1] at e
    by_cases c : i = (G s).length
    · rw [if_pos (nI_le (by omega) (by omega)), nmR, nI_1] at e
      subst c
      refine Or.inr ⟨X, L, T, ?_, h, hI, e⟩
      rw [List.drop_of_length_le (Nat.le_refl _)]
      rfl
    · have il : i < (G s).length := by omega
      have gw := List.getElem?_eq_getElem il
      have w10 := g10 _ (fl_sub hs (List.getElem_mem il))
      rw [if_neg (nI_ge il (by omega))] at e
      replace e := (grd_i e).2
      rw [nmR, show (10 : Int32) * nI s + nI i = nI (10 * s + i) by rw [show (10 : Int32) * nI s = nI (10 * s) from nI_mul 10 s, nI_add], nI_clamp (n := 10 * s + i) (by omega), c1.1 50 _ rfl, hg2 s i _ hs gw] at e
      replace e := (grd_i e).2
      have ms := rw_m h hs
      rw [ms.1] at e
      have dr : (G s).drop i = (G s)[i] :: (G s).drop (i + 1) := List.drop_eq_getElem_cons il
      have fin : ¬ (X s)[i]? = some (G s)[i] → f_M_byRule_L69 (fun v0 v1 S => f_M_byRule_L19 K N v0 v1 S) NF (nI s) (nI i) (nI (G s)[i]) T = some (r, V) → (inF rm s i ((G s).drop i) X L = none ∧ r = 0 ∧ ∃ X' L', RWk B V X' L') ∨ ∃ X' L' T', inF rm s i ((G s).drop i) X L = some (X', L') ∧ RWk B T' X' L' ∧ Iv rm G s (G s).length X' L' ∧ K (nI (s + 1)) T' = some (r, V) := fun cn e => by
        rcases brg_r hr hG g10 h hI hs gw cn e with ⟨a1, a2, a3⟩ | ⟨X', L', T', a1, a3, a4, e1⟩
        · refine Or.inl ⟨?_, a2, a3⟩
          rw [dr]
          show (brF rm s i (G s)[i] X L).bind _ = none
          rw [a1]
          rfl
        · have u : inF rm s i ((G s).drop i) X L = inF rm s (i + 1) ((G s).drop (i + 1)) X' L' := by
            rw [dr]
            show (brF rm s i (G s)[i] X L).bind _ = _
            rw [a1]
            rfl
          rw [u]
          exact rb19 hr hG g10 hg1 hg2 hs N (i + 1) X' L' T' (by omega) a3 a4 e1
      rcases Nat.lt_or_ge i (X s).length with d | d
      · have g := List.getElem?_eq_getElem d
        have q := rw_at h hs g
        rw [if_neg (nI_ge d (by omega))] at e
        replace e := (grd_i e).2
        rw [q.1] at e
        by_cases ev : (X s)[i] = (G s)[i]
        · rw [if_pos (by rw [ev]), f_M_byRule_j156.eq_1, nmR, nI_1] at e
          have gx : (X s)[i]? = some (G s)[i] := by rw [g, ev]
          have u : inF rm s i ((G s).drop i) X L = inF rm s (i + 1) ((G s).drop (i + 1)) X L := by
            rw [dr]
            show (brF rm s i (G s)[i] X L).bind _ = _
            rw [brF_y gx]
            rfl
          rw [u]
          exact rb19 hr hG g10 hg1 hg2 hs N (i + 1) X L T (by omega) h (iv_yes hI hs gw gx) e
        · have q2 := q.2
          rw [if_neg (fun z => ev (nI_inj (by omega) (by omega) z))] at e
          exact fin (fun z => ev (by rw [g] at z; injection z)) e
      · rw [if_pos (nI_le d (by omega))] at e
        exact fin (fun z => by rw [List.getElem?_eq_none d] at z; cases z) e
theorem rb12 {B V : SS} {rm : Nat → Nat} {G : Cf} {r : Int32} (hr : ∀ s, rmN B s = rm s) (hG : Gl rm G) (g10 : ∀ v, v ∈ Flat G → v < 10) (hg1 : ∀ s, s < 4 → B.1 49 s = nI (G s).length ∧ (G s).length ≤ 10) (hg2 : ∀ s i w, s < 4 → (G s)[i]? = some w → B.1 50 (10 * s + i) = nI w) : ∀ (N c s : Nat) (X : Cf) (L : List (Nat × Nat)) (T : SS), s + c = 4 → RWk B T X L → Iv rm G s 0 X L → f_M_byRule_L12 N (nI s) T = some (r, V) → RBR B V r (ouF rm G c s X L)
  | 0, c, s, X, L, T, _, _, _, e => by cases e
  | N + 1, 0, s, X, L, T, hs, h, hI, e => by
    have : s = 4 := by omega
    subst this
    rw [f_M_byRule_L12.eq_2, if_pos (by decide)] at e
    obtain ⟨x, y⟩ := so_i e
    have b := hI.2.2.2
    have t10 := hG.2.2
    have bb := bd_all ⟨tot G, by omega⟩ ⟨oG G 4 + 0, by rw [oG_tot]; omega⟩
    simp only at bb
    exact Or.inr ⟨X, L, rfl, x, by rw [y]; exact h, by omega⟩
  | N + 1, c + 1, s, X, L, T, hs, h, hI, e => by
    rw [f_M_byRule_L12.eq_2, if_neg (k_ge (k := 4) 4 rfl (by omega) (by omega))] at e
    rcases rb19 hr hG g10 hg1 hg2 (show s < 4 by omega) NF 0 X L T (Nat.zero_le _) h hI e with ⟨a1, a2⟩ | ⟨X', L', T', a1, a2, a3, a4⟩
    · rw [List.drop_zero] at a1
      have u : ouF rm G (c + 1) s X L = none := by
        show (inF rm s 0 (G s) X L).bind _ = none
        rw [a1]
        rfl
      rw [u]
      exact Or.inl ⟨rfl, a2⟩
    · rw [List.drop_zero] at a1
      have u : ouF rm G (c + 1) s X L = ouF rm G c (s + 1) X' L' := by
        show (inF rm s 0 (G s) X L).bind _ = _
        rw [a1]
        rfl
      rw [u]
      exact rb12 hr hG g10 hg1 hg2 N c (s + 1) X' L' T' (by omega) a2 (iv_nx (by omega) a3) a4
/-! ===== BY RULE: both sides alike ===== -/
theorem rbr {S V : SS} {rm : Nat → Nat} {r : Int32} (hW : WR S) (hr : ∀ s, rmN S s = rm s) (hG : Gl rm (cfr S)) (hX : Rl rm (cfr S) (cfq S)) (e : f_M_byRule S = some (r, V)) : RBR S V r (ouF rm (cfr S) 4 0 (cfq S) []) := by
  rw [f_M_byRule.eq_1, wr_r] at e
  generalize e1 : st S 0 77 0 = S1 at e
  have w1 := wo_0_77 hW (rgl 0 0 399 rfl) e1.symm
  have g1 : Fr [] [(0, 77)] S S1 := ⟨fun a b q => by
    rw [← e1, st_at]
    by_cases c : a = 0
    · subst c
      rw [if_pos rfl]
      by_cases d : b = 77
      · subst d; cases q
      · rw [if_neg d]
    · rw [if_neg c], by rw [← e1]; rfl⟩
  have v1 : S1.1 0 77 = 0 := by rw [← e1, st_at, if_pos rfl, if_pos rfl]
  obtain ⟨T, g2', e2⟩ := bndv_i e
  clear e
  obtain ⟨w2, g2, h2⟩ := ew_i (tkx (x1 := 0) w1) g2'
  have h2 : tkP S1 T 0 := h2
  have ec : cfS T = cfq S := by
    rw [tk_cf (S := S1) (x := 0) (by decide) (fun i => ro_47 w1 i) h2]
    show cfS (gX S1 48 47) = cfS (gX S 48 47)
    refine gX_cg (by decide) (fun i => ro_47 hW i) ?_ ?_
    · rw [← e1, st_row _ _ _ _ (by decide)]
    · rw [← e1, st_row _ _ _ _ (by decide)]
  obtain ⟨y1, y2⟩ := gX_at (S := S) (o := 50) (h := 49) (by decide) (fun i => ro_49 hW i) (fun i => ro_50 hW i)
  have rk : RWk S T (cfq S) [] := ⟨Fr.tr (Fr.tr Fr.rf g1 rfl) g2 rfl, w2, tk_NN w1 h2, ec, by rw [g2.1 0 77 rfl, v1]; rfl, fun j a b q => by simp at q⟩
  exact rb12 hr hG (fun v hv => gX_lt (by decide) (fun i => ro_49 hW i) (fun i => ro_50 hW i) hv) y1 y2 NF 4 0 (cfq S) [] T rfl rk (iv_0 hX) e2
theorem fit_of {S : SS} {o h : Nat} (h5 : h ≠ 57) (hp : ∀ s, s < 4 → (S.1 h s).toInt ≤ (S.1 46 s).toInt) : Fit (rmN S) (cfS (gX S o h)) := fun s hs => by
  rw [cfS_len hs, gX_m h5 hs]
  have a := hp s hs
  unfold rmN
  show (S.1 h s).toInt.toNat ≤ (S.1 46 s).toInt.toNat
  omega
set_option maxHeartbeats 1000000 in
theorem rule_eq {S S1 S2 : SS} {r1 r2 : Int32} (hW : WR S) (hP : PL S) (hA : A5 S) (hT : TT S) (hs : SameW S) (w1 : WR S1) (e1 : f_Plans_makeByRule S = some (r1, S1)) (e2 : f_M_plan_j33 1 S1 = some (r2, S2)) : r1 = r2 ∧ PZ S2 := by
  obtain ⟨A1, A2, A3, A4, A5⟩ := hA
  have h9 : ∀ i, rg (S.1 124 i) 0 9 := fun i => by rw [A4]; exact ro_50 hW i
  have h9' : ∀ i, rg (S.1 122 i) 0 9 := fun i => by rw [A2]; exact ro_48 hW i
  have hD : DW (S.1 125) (S.1 124) := by rw [A4, A5]; exact hP.2.2
  have hD' : DW (S.1 123) (S.1 122) := by rw [A2, A3]; exact hP.2.1
  have hh : ∀ i, rg (S.1 125 i) 0 10 := ro_125 hW
  have hh' : ∀ i, rg (S.1 123 i) 0 10 := ro_123 hW
  have hs' : ∀ w, w < 10 → (Bef (S.1 123) (S.1 122) (nI w) 4 0 ↔ Bef (S.1 125) (S.1 124) (nI w) 4 0) := fun w hw => by rw [A2, A3, A4, A5]; exact hs w hw
  have hr : Rm S (rmN S) := fun t _ => by
    rw [A1]
    exact ⟨(rmN_le hW t).2, (rmN_le hW t).1⟩
  have fG : Fit (rmN S) (cfG S) := fit_of (by decide) (fun s hs => by rw [A5]; exact (hP.1 s hs).2)
  have fX : Fit (rmN S) (cfT S) := fit_of (by decide) (fun s hs => by rw [A3]; exact (hP.1 s hs).1)
  obtain ⟨nd, mb⟩ := gX_fl hW (by decide) hh h9 hD
  have t10 : tot (cfG S) ≤ 10 := by
    have o := og_10 hW hP
    rw [oHg_tot hW]
    have m : ∀ s, hNg S s = gm S s := fun s => by unfold hNg gm; rw [A5]
    have p : oHg S 4 = og S 4 := by
      show oHg S 0 + hNg S 0 + hNg S 1 + hNg S 2 + hNg S 3 = og S 0 + gm S 0 + gm S 1 + gm S 2 + gm S 3
      rw [m, m, m, m]
      rfl
    omega
  have hG : Gl (rmN S) (cfG S) := ⟨fG, fun w => List.nodup_iff_count.mp nd w, t10⟩
  have hX : Rl (rmN S) (cfG S) (cfT S) := rl_of hW (by decide) (by decide) hh' hh h9' h9 hD' hD hs' fX
  have M := mbr hr hh hh' h9 h9' hG hX e1
  have k1 : ∀ q, q ≠ 70 → q ≠ 107 → q ≠ 126 → q ≠ 127 → S1.1 q = S.1 q := fun q a b c d => by
    rcases M with ⟨-, -, -, -, m⟩ | ⟨X, L, T, -, -, m, rfl⟩
    · exact m q a b c d
    · rw [st_row _ _ _ _ a]; exact m.1 q a b c d
  have k : ∀ q, q ≤ 60 → S1.1 q = S.1 q := fun q hq => k1 q (by omega) (by omega) (by omega) (by omega)
  rw [f_M_plan_j33.eq_1, wr_r, if_pos rfl] at e2
  generalize eB : st S1 0 76 (-4) = B at e2
  have wB := WR.st (k := 0) (i := 76) w1 trivial rfl eB.symm
  have bk : ∀ q, q ≠ 0 → B.1 q = S1.1 q := fun q hq => by rw [← eB, st_row _ _ _ _ hq]
  have eG : cfr B = cfG S := gX_cg2 (by decide) (by decide) hh (by rw [bk 50 (by decide), k 50 (by omega), A4]) (by rw [bk 49 (by decide), k 49 (by omega), A5])
  have eT : cfq B = cfT S := gX_cg2 (by decide) (by decide) hh' (by rw [bk 48 (by decide), k 48 (by omega), A2]) (by rw [bk 47 (by decide), k 47 (by omega), A3])
  obtain ⟨r12, V, gV, e3⟩ := bnd_i e2
  clear e2
  have Rr := rbr (rm := rmN S) wB (fun s => by unfold rmN; rw [bk 46 (by decide), k 46 (by omega)]) (by rw [eG]; exact hG) (by rw [eG, eT]; exact hX) gV
  rw [eG, eT] at Rr
  have tt : ∀ U : SS, (∀ q, q = 71 ∨ q = 113 ∨ q = 114 ∨ q = 115 → U.1 q = S.1 q) → TT U := fun U hU => hT.cg (fun q hq => hU q (by simpa using hq))
  have v60 : ∀ (X : Cf) (L : List (Nat × Nat)), RWk B V X L → ∀ q, 60 < q → V.1 q = S1.1 q := fun X L h q hq => by
    rw [frow h.1.1 q (fun b => by
      unfold wm
      rw [List.any_eq_false.mpr, List.any_eq_false.mpr]
      · rfl
      · intro p hp z
        rw [Bool.and_eq_true] at z
        have : p.1 = 0 := by
          have : p = (0, 77) := by simpa using hp
          rw [this]
        have := Nat.eq_of_beq_eq_true z.1
        omega
      · intro m hm z
        have := Nat.eq_of_beq_eq_true z
        have : m = 51 ∨ m = 52 ∨ m = 53 ∨ m = 57 ∨ m = 58 := by simpa using hm
        omega), bk q (by omega)]
  rcases Rr with ⟨c1, c2, X, L, c3⟩ | ⟨X, L, c1, c2, c3, c4⟩
  · rcases M with ⟨m1, m2, m3, m4, m5⟩ | ⟨X', L', T, m1, -⟩
    · subst c2
      rw [if_pos rfl, f_M_plan_j62.eq_1, wr_r, if_pos rfl, f_M_plan_j76.eq_1, wr_r, if_pos rfl] at e3
      obtain ⟨x, y⟩ := so_i e3
      have rr : ∀ q, 60 < q → S2.1 q = S1.1 q := fun q hq => by rw [y, st_row _ _ _ _ (by omega), st_row _ _ _ _ (by omega), v60 X L c3 q hq]
      refine ⟨by rw [m2, x], tt S2 (fun q hq => by rw [rr q (by omega), k1 q (by omega) (by omega) (by omega) (by omega)]), Or.inl ⟨?_, ?_, ?_⟩⟩
      · rw [rr 70 (by omega)]; exact m4
      · rw [rr 70 (by omega)]; exact m3
      · rw [y, st_at, if_pos rfl, if_pos rfl]
    · rw [c1] at m1; cases m1
  · rcases M with ⟨m1, -⟩ | ⟨X', L', T, m1, m2, m3, m4⟩
    · rw [c1] at m1; cases m1
    · rw [c1] at m1
      injection m1 with m1
      injection m1 with n1 n2
      subst n1 n2 c2
      rw [if_neg (by decide), f_M_plan_j62.eq_1, wr_r, if_neg (by decide), f_M_plan_j76.eq_1, wr_r, if_neg (by decide)] at e3
      obtain ⟨x, y⟩ := so_i e3
      have rr : ∀ q, 60 < q → S2.1 q = S1.1 q := fun q hq => by rw [y, st_row _ _ _ _ (by omega), st_row _ _ _ _ (by omega), v60 X L c3 q hq]
      have s77 : S2.1 0 77 = nI L.length := by rw [y, st_at, if_pos rfl, if_neg (by decide), st_at, if_pos rfl, if_pos rfl]; exact c3.2.2.2.2.1
      refine ⟨?_, tt S2 (fun q hq => by rw [rr q (by omega), k1 q (by omega) (by omega) (by omega) (by omega)]), Or.inr (Or.inl ⟨?_, ?_, L.length, ?_, s77, c4, fun j hj => ?_⟩)⟩
      · rw [m2, x, ← y, s77]
      · rw [rr 70 (by omega), m4, st_at, if_pos rfl, if_pos rfl]
      · rw [y, st_at, if_pos rfl, if_pos rfl]
      · rw [rr 70 (by omega), m4, st_at, if_pos rfl, if_neg (by decide)]; exact m3.2.2.2.1
      · have g := List.getElem?_eq_getElem hj
        have g' : L[j]? = some (L[j].1, L[j].2) := g
        have l4 := m3.2.2.2.2.2.2 j _ _ g'
        obtain ⟨z1, z2, z3⟩ := c3.2.2.2.2.2 j _ _ g'
        refine ⟨L[j].1, L[j].2, 1, l4.2.1, l4.2.2.1, l4.2.2.2, by omega, by omega, ?_, ?_, ?_, ?_⟩
        · rw [rr 107 (by omega), m4, st_row _ _ _ _ (by decide)]
          exact l4.1
        · rw [y, st_row _ _ _ _ (by decide), st_row _ _ _ _ (by decide)]; exact z1
        · rw [y, st_row _ _ _ _ (by decide), st_row _ _ _ _ (by decide)]; exact z2
        · rw [y, st_row _ _ _ _ (by decide), st_row _ _ _ _ (by decide)]; exact z3
/-! ===== plan, move, proof, spoil ===== -/
theorem same_c {S : SS} (hW : WR S) (hP : PL S) (hA : A5 S) : ∃ b : Bool, f_Plans_haveSameWagons S = some (bI b, S) ∧ (b = true ↔ SameW S) := by
  obtain ⟨A1, A2, A3, A4, A5⟩ := hA
  have hS : DW (S.1 123) (S.1 122) := by rw [A3, A2]; exact hP.2.1
  have hG : DW (S.1 125) (S.1 124) := by rw [A5, A4]; exact hP.2.2
  obtain ⟨m, em, hm⟩ := msk2 hW (fun i => by rw [A2]; exact ro_48 hW i) hS
  obtain ⟨n, en, hn⟩ := msk2g hW (fun i => by rw [A4]; exact ro_50 hW i) hG
  have sm : nI m = nI n ↔ SameW S := by
    unfold SameW
    rw [← A2, ← A3, ← A4, ← A5]
    constructor
    · intro q w hw
      have := nI_inj (by have := hm.1; omega) (by have := hn.1; omega) q
      subst this
      exact (hm.2.2 w hw).symm.trans (hn.2.2 w hw)
    · intro q
      rw [(mk_eq hm.1 hn.1).mpr (fun w hw => ?_)]
      have := (hm.2.2 w hw).trans ((q w hw).trans (hn.2.2 w hw).symm)
      cases x : m.testBit w <;> cases y : n.testBit w
      · rfl
      · rw [x, y] at this; exact absurd (this.mpr rfl) (by decide)
      · rw [x, y] at this; exact absurd (this.mp rfl) (by decide)
      · rfl
  by_cases q : nI m = nI n
  · refine ⟨true, ?_, fun _ => sm.mp q, fun _ => rfl⟩
    rw [f_Plans_haveSameWagons.eq_1, em, bnd_r, en, bnd_r, if_pos q]
    rfl
  · refine ⟨false, ?_, fun z => (by cases z), fun z => absurd (sm.mpr z) q⟩
    rw [f_Plans_haveSameWagons.eq_1, em, bnd_r, en, bnd_r, if_neg q]
    rfl
theorem small_c {S : SS} (hW : WR S) (hP : PL S) (hA : A5 S) : f_Plans_isSmall S = some (if 5 < StN S then 0 else 1, S) ∧ StN S ≤ 40 := by
  obtain ⟨A1, A2, A3, A4, A5⟩ := hA
  have hS : DW (S.1 123) (S.1 122) := by rw [A3, A2]; exact hP.2.1
  obtain ⟨m, em, b⟩ := msx hW (fun i => by rw [A2]; exact ro_48 hW i) hS
  have e : oH S 4 = StN S := by
    show 0 + hN S 0 + hN S 1 + hN S 2 + hN S 3 = _
    unfold hN StN
    rw [A3]
    omega
  obtain ⟨r, U, g, -, -, l⟩ := smx hW
  rw [e] at b
  refine ⟨?_, l⟩
  rw [f_Plans_isSmall.eq_1, em, bnd_r, bc_v, bnd_r, b]
  by_cases c : 5 < StN S
  · rw [if_pos (show (5 : Int32) < nI (StN S) from (nI_ltJ (a := 5) (by omega) (by omega)).mpr c), if_pos c]
  · rw [if_neg (show ¬ (5 : Int32) < nI (StN S) from fun z => c ((nI_ltJ (a := 5) (by omega) (by omega)).mp z)), if_neg c]
theorem f1_nil {S T : SS} (g : F1 [] [] S T) : T.1 = S.1 := funext fun a => funext fun b => g a b rfl
theorem PZ.eq {S U : SS} (h : PZ S) (e : U.1 = S.1) : PZ U := h.cg (fun q _ => by rw [e]) (by rw [e]) (by rw [e]) (by rw [e])
set_option maxHeartbeats 1000000 in
theorem plan_eq {S S1 S2 : SS} {a r1 r2 : Int32} {G : Nat} (hW : WR S) (hC : CQ S G) (hP : PL S) (hR : RM S) (hA : A5 S) (hZ : PZ S) (w1 : WR S1) (g1 : F1 YL MFl S S1) (w2 : WR S2) (e1 : f_Yard_plan a S = some (r1, S1)) (e2 : f_M_plan a S1 = some (r2, S2)) : r1 = r2 ∧ PZ S2 := by
  rw [f_Yard_plan.eq_1, f_Yard_isNot.eq_1] at e1
  rw [f_M_plan.eq_1] at e2
  by_cases c0 : a < 0
  · rw [if_pos c0, bnd_r, if_neg (by decide)] at e1
    rw [if_pos c0] at e2
    obtain ⟨x1, y1⟩ := so_i e1
    obtain ⟨x2, y2⟩ := so_i e2
    exact ⟨by rw [x1, x2], hZ.eq (by rw [y2, y1])⟩
  · rw [if_neg c0] at e1 e2
    have one : (1 : Int32).toInt = 1 := by decide
    have zer : (0 : Int32).toInt = 0 := by decide
    by_cases c1 : a ≤ 1
    · rw [if_pos c1, bnd_r, if_pos rfl] at e1
      rw [if_neg (by rw [Int32.lt_iff_toInt_lt]; rw [Int32.le_iff_toInt_le] at c1; omega)] at e2
      obtain ⟨b, eb, pb⟩ := same_c hW hP hA
      obtain ⟨b', eb', pb'⟩ := as2 w1
      have k : ∀ q, q = 47 ∨ q = 48 ∨ q = 49 ∨ q = 50 → S1.1 q = S.1 q := fun q hq => by
        rcases hq with rfl | rfl | rfl | rfl <;> exact frow g1 _ (fun _ => rfl)
      have ss : SameW S1 ↔ SameW S := by
        unfold SameW
        rw [k 47 (by omega), k 48 (by omega), k 49 (by omega), k 50 (by omega)]
      rw [eb, bnd_r] at e1
      rw [eb', bnd_r] at e2
      cases b with
      | false =>
        have : b' = false := by
          cases b' with
          | false => rfl
          | true => exact absurd (pb.mpr (ss.mp (pb'.mp rfl))) (by decide)
        subst this
        rw [if_pos (show bI false = 0 from rfl)] at e1 e2
        obtain ⟨x1, y1⟩ := so_i e1
        obtain ⟨x2, y2⟩ := so_i e2
        exact ⟨by rw [x1, x2], hZ.eq (by rw [y2, y1])⟩
      | true =>
        have sw := pb.mp rfl
        have : b' = true := pb'.mpr (ss.mpr sw)
        subst this
        rw [if_neg (show ¬ bI true = 0 by decide)] at e1 e2
        by_cases ca : a = 1
        · subst ca
          rw [if_pos rfl] at e1
          rw [if_neg (by decide)] at e2
          obtain ⟨r10, S9, g10, e3⟩ := bnd_i e1
          clear e1
          obtain ⟨x1, y1⟩ := so_i e3
          subst x1 y1
          exact rule_eq hW hP hA hZ.1 sw w1 g10 e2
        · have a0 : a = 0 := by
            apply Int32.toInt_inj.mp
            rw [zer]
            rw [Int32.le_iff_toInt_le, one] at c1
            rw [Int32.lt_iff_toInt_lt, zer] at c0
            have : a.toInt ≠ 1 := fun z => ca (Int32.toInt_inj.mp (by rw [z, one]))
            omega
          subst a0
          rw [if_neg (by decide)] at e1
          rw [if_pos rfl] at e2
          obtain ⟨es, l40⟩ := small_c hW hP hA
          rw [es, bnd_r] at e1
          obtain ⟨r16, S15, g16, e3⟩ := bnd_i e2
          clear e2
          obtain ⟨rfl, rfl, -⟩ := ex_i (smx w1) g16
          have st' : StN S15 = StN S := by unfold StN; rw [k 47 (by omega)]
          rw [st'] at e3
          by_cases c5 : 5 < StN S
          · rw [if_pos c5, if_pos rfl] at e1
            rw [if_neg (show ¬ nI (StN S) ≤ (5 : Int32) from fun z => by
              have := (n_leJ (b := 5) (by omega) (by omega)).mp z
              omega)] at e3
            obtain ⟨x1, y1⟩ := so_i e1
            obtain ⟨x2, y2⟩ := so_i e3
            exact ⟨by rw [x1, x2], hZ.eq (by rw [y2, y1])⟩
          · rw [if_neg c5, if_neg (by decide)] at e1
            rw [if_pos (show nI (StN S) ≤ (5 : Int32) from nI_le (b := 5) (by omega) (by omega))] at e3
            obtain ⟨r8, S7, g8, e4⟩ := bnd_i e1
            clear e1
            obtain ⟨x1, y1⟩ := so_i e4
            subst x1 y1
            exact least_eq hW hC hP hR hA hZ.1 sw (by omega) w1 g1 g8 e3 w2
    · rw [if_neg c1, bnd_r, if_neg (by decide)] at e1
      rw [if_pos (by rw [Int32.lt_iff_toInt_lt]; rw [Int32.le_iff_toInt_le] at c1; omega)] at e2
      obtain ⟨x1, y1⟩ := so_i e1
      obtain ⟨x2, y2⟩ := so_i e2
      exact ⟨by rw [x1, x2], hZ.eq (by rw [y2, y1])⟩
/-! move -/
theorem pk_all : ∀ (f t : Fin 4) (m : Fin 11), (nI (64 * f.1 + 16 * t.1 + m.1) >>> ((6 : Int32) &&& 31)) = nI f.1 ∧ ((nI (64 * f.1 + 16 * t.1 + m.1) >>> ((4 : Int32) &&& 31)) &&& (3 : Int32)) = nI t.1 ∧ (nI (64 * f.1 + 16 * t.1 + m.1) &&& (15 : Int32)) = nI m.1 := by decide +kernel
theorem mvat {S : SS} {l k f t m : Nat} (h7 : S.1 70 7 = nI l) (hl : l ≤ 128) (hk : k < l) (hf : f < 4) (ht : t < 4) (hm : m ≤ 10) (h : S.1 107 k = nI (64 * f + 16 * t + m)) : f_Plans_moveAt (nI k) 0 S = some (nI f, S) ∧ f_Plans_moveAt (nI k) 1 S = some (nI t, S) ∧ ∀ a, a ≠ 0 → a ≠ 1 → f_Plans_moveAt (nI k) a S = some (nI m, S) := by
  have pk := pk_all ⟨f, hf⟩ ⟨t, ht⟩ ⟨m, by omega⟩
  simp only at pk
  refine ⟨?_, ?_, fun a a0 a1 => ?_⟩
  · rw [f_Plans_moveAt.eq_1, if_neg (nI_nn (by omega)), h7, if_neg (nI_ge hk (by omega)), if_pos (show nI k < (128 : Int32) from (nI_ltJ (b := 128) (by omega) (by omega)).mpr (by omega)), if_pos rfl, grT (inb_nI (by omega) (by omega)), nI_clamp (by omega), h, pk.1]
  · rw [f_Plans_moveAt.eq_1, if_neg (nI_nn (by omega)), h7, if_neg (nI_ge hk (by omega)), if_pos (show nI k < (128 : Int32) from (nI_ltJ (b := 128) (by omega) (by omega)).mpr (by omega)), if_neg (by decide), if_pos rfl, grT (inb_nI (by omega) (by omega)), nI_clamp (by omega), h, pk.2.1]
  · rw [f_Plans_moveAt.eq_1, if_neg (nI_nn (by omega)), h7, if_neg (nI_ge hk (by omega)), if_pos (show nI k < (128 : Int32) from (nI_ltJ (b := 128) (by omega) (by omega)).mpr (by omega)), if_neg a0, if_neg a1, grT (inb_nI (by omega) (by omega)), nI_clamp (by omega), h, pk.2.2]
theorem move_eq {S S1 S2 : SS} {a1 a2 r1 r2 : Int32} (hZ : PZ S) (g1 : F1 [] [] S S1) (e1 : f_Yard_move a1 a2 S = some (r1, S1)) (e2 : f_M_move a1 a2 S1 = some (r2, S2)) : r1 = r2 := by
  have zer : (0 : Int32).toInt = 0 := by decide
  have two : (2 : Int32).toInt = 2 := by decide
  rw [f_Yard_move.eq_1, f_Yard_isNot.eq_1] at e1
  rw [f_M_move.eq_1] at e2
  by_cases c0 : a1 < 0
  · rw [if_pos c0] at e1 e2
    rw [(so_i e1).1, (so_i e2).1]
  · rw [if_neg c0] at e1 e2
    by_cases d0 : a2 < 0
    · rw [if_pos d0, bnd_r, if_neg (by decide)] at e1
      rw [if_pos d0] at e2
      rw [(so_i e1).1, (so_i e2).1]
    · rw [if_neg d0] at e1 e2
      by_cases d2 : a2 ≤ 2
      · rw [if_pos d2, bnd_r, if_pos rfl] at e1
        rw [if_pos d2] at e2
        obtain ⟨r4, S3, g4, e3⟩ := bnd_i e1
        clear e1
        obtain ⟨x1, y1⟩ := so_i e3
        subst x1 y1
        rw [f1_nil g1] at e2
        rw [Int32.lt_iff_toInt_lt, zer] at c0
        obtain ⟨k, k1, rfl, -⟩ := i32_n (x := a1) (by omega)
        have far : ∀ l, S.1 70 7 = nI l → l ≤ 128 → l ≤ k → r1 = -4 := fun l h7 hl hk => by
          rw [f_Plans_moveAt.eq_1, if_neg (nI_nn (by omega)), h7, if_pos (nI_le hk (by omega))] at g4
          exact (so_i g4).1
        have made : ∀ l, ¬ S.1 0 76 = -4 → PkA S l → r1 = r2 := fun l h76 hA => by
          obtain ⟨p1, p2, p3, p4⟩ := hA
          rw [if_neg h76, p2] at e2
          by_cases ck : k < l
          · rw [if_pos ((nI_ltJ (by omega) (by omega)).mpr ck)] at e2
            obtain ⟨f, t, m, q1, q2, -, q3, q4, q5, q6, q7, q8⟩ := p4 k ck
            obtain ⟨z0, z1, z2⟩ := mvat p1 p3 ck q1 q2 q4 q5
            by_cases b0 : a2 = 0
            · subst b0
              rw [z0] at g4
              rw [if_pos rfl] at e2
              replace e2 := (grd_i e2).2
              rw [nI_clamp (by omega), q6] at e2
              rw [(so_i g4).1, (so_i e2).1]
            · rw [if_neg b0] at e2
              by_cases b1 : a2 = 1
              · subst b1
                rw [z1] at g4
                rw [if_pos rfl] at e2
                replace e2 := (grd_i e2).2
                rw [nI_clamp (by omega), q7] at e2
                rw [(so_i g4).1, (so_i e2).1]
              · rw [z2 a2 b0 b1] at g4
                rw [if_neg b1] at e2
                replace e2 := (grd_i e2).2
                rw [nI_clamp (by omega), q8] at e2
                rw [(so_i g4).1, (so_i e2).1]
          · rw [if_neg (fun z => ck ((nI_ltJ (by omega) (by omega)).mp z))] at e2
            rw [far l p1 p3 (by omega), (so_i e2).1]
        rcases hZ.2 with ⟨h1, h2, h3⟩ | ⟨h1, h2, l, h3⟩ | ⟨h1, h2, l, h3, h4⟩
        · rw [if_pos h3] at e2
          rw [far 0 h2 (by omega) (by omega), (so_i e2).1]
        · exact made l (by rw [h2]; decide) h3
        · exact made l (by rw [h2]; decide) h3
      · rw [if_neg d2, bnd_r, if_neg (by decide)] at e1
        rw [if_neg d2] at e2
        rw [(so_i e1).1, (so_i e2).1]
/-! ===== proof, spoil, wipe ===== -/
theorem hp_n {S : SS} {k : Nat} (h : ¬ S.1 70 8 = 1) : f_Plans_hasPotential (nI k) S = some (0, S) := by
  rw [f_Plans_hasPotential.eq_1, if_neg h]
theorem hp_y {S : SS} {k l : Nat} (h : S.1 70 8 = 1) (h7 : S.1 70 7 = nI l) (hl : l ≤ 128) (hk : k < 2 ^ 31) : f_Plans_hasPotential (nI k) S = some (if k ≤ l then 1 else 0, S) := by
  rw [f_Plans_hasPotential.eq_1, if_pos h, if_neg (nI_nn hk), h7]
  by_cases c : k ≤ l
  · rw [if_neg (fun z => by have := (nI_ltJ (by omega) (by omega)).mp z; omega), if_neg (show ¬ (128 : Int32) < nI k from fun z => by have := (nI_ltJ (a := 128) (by omega) (by omega)).mp z; omega), if_pos c]
  · rw [if_pos ((nI_ltJ (by omega) (by omega)).mpr (by omega)), if_neg c]
theorem pan_c {S : SS} {k : Nat} (h : ¬ S.1 70 8 = 1) : f_Plans_potentialAt (nI k) S = some (-4, S) := by
  rw [f_Plans_potentialAt.eq_1, hp_n h, bnd_r, if_pos rfl]
theorem pa_f {S : SS} {k l : Nat} (h : S.1 70 8 = 1) (h7 : S.1 70 7 = nI l) (hl : l ≤ 128) (hk : k < 2 ^ 31) (c : l < k) : f_Plans_potentialAt (nI k) S = some (-4, S) := by
  rw [f_Plans_potentialAt.eq_1, hp_y h h7 hl hk, bnd_r, if_neg (show ¬ k ≤ l by omega), if_pos rfl]
theorem pa_y {S : SS} {k l a n W : Nat} (h : S.1 70 8 = 1) (h7 : S.1 70 7 = nI l) (hl : l ≤ 128) (c : k ≤ l) (hw : QW S n W) (ha : a < facN n * shN n) (h8 : S.1 108 k = nI a) : f_Plans_potentialAt (nI k) S = some (S.1 120 a, S) := by
  rw [f_Plans_potentialAt.eq_1, hp_y h h7 hl (by omega), bnd_r, if_pos c, if_neg (by decide), grT (inb_nI (by omega) (by omega)), nI_clamp (by omega), h8, ofe hw ha, bnd_r]
theorem proof_eq {S S1 S2 : SS} {a r1 r2 : Int32} {G : Nat} (hW : WR S) (hC : CQ S G) (hZ : PZ S) (g1 : F1 [] [] S S1) (e1 : f_Yard_proof a S = some (r1, S1)) (e2 : f_M_proof a S1 = some (r2, S2)) : r1 = r2 := by
  have zer : (0 : Int32).toInt = 0 := by decide
  rw [f_Yard_proof.eq_1] at e1
  rw [f_M_proof.eq_1] at e2
  by_cases c0 : 0 ≤ a
  · rw [if_pos c0] at e1 e2
    obtain ⟨r, V, g, e3⟩ := bnd_i e1
    clear e1
    obtain ⟨x1, y1⟩ := so_i e3
    subst x1 y1
    rw [f1_nil g1] at e2
    rw [Int32.le_iff_toInt_le, zer] at c0
    obtain ⟨k, k1, rfl, -⟩ := i32_n c0
    rcases hZ.2 with ⟨h1, h2, h3⟩ | ⟨h1, h2, l, h3⟩ | ⟨h1, h2, l, h3, h4⟩
    · rw [pan_c (by rw [h1]; decide)] at g
      rw [if_neg (by rw [h3]; decide)] at e2
      rw [(so_i g).1, (so_i e2).1]
    · rw [pan_c (by rw [h1]; decide)] at g
      rw [if_neg (by rw [h2]; decide)] at e2
      rw [(so_i g).1, (so_i e2).1]
    · obtain ⟨p1, p2, p3, p4⟩ := h3
      obtain ⟨n, n5, q1, q2, q3, q4, q5, q6, q7⟩ := h4
      rw [if_pos h2, p2] at e2
      by_cases c : k ≤ l
      · obtain ⟨X, x1, x2, x3, x4⟩ := q7 k c
        obtain ⟨W, hw, -⟩ := hC.qw n5 q1 q2
        rw [pa_y h1 p1 p3 c hw (rk_lt n5 q3 x1).2.2.1 x2] at g
        have cw := cw_of hW n5 (cx_cl q5 x1) x1.2.2.2
        have v := (cd_v q4 cw.1).2
        rw [if_pos (nI_le c (by omega))] at e2
        replace e2 := (grd_i e2).2
        rw [nI_clamp (n := k) (by omega), x3] at e2
        replace e2 := (grd_i e2).2
        rw [nI_clamp (by omega)] at e2
        rw [(so_i g).1, (so_i e2).1]
        rcases q6 X x1 with ⟨z, -⟩ | ⟨v, -, z1, z2⟩
        · exact absurd z x4
        · rw [z1, z2]
      · rw [pa_f h1 p1 p3 k1 (by omega)] at g
        rw [if_neg (fun z => c ((n_leJ (by omega) (by omega)).mp z))] at e2
        rw [(so_i g).1, (so_i e2).1]
  · rw [if_neg c0] at e1 e2
    rw [(so_i e1).1, (so_i e2).1]
set_option maxHeartbeats 1000000 in
theorem spoil_eq {S S1 S2 : SS} {a v r1 r2 : Int32} {G : Nat} (hW : WR S) (hC : CQ S G) (hZ : PZ S) (w2 : WR S2) (g1 : F1 [120] [] S S1) (e1 : f_Yard_spoil a v S = some (r1, S1)) (e2 : f_M_spoil a v S1 = some (r2, S2)) : r1 = r2 ∧ PZ S2 := by
  have zer : (0 : Int32).toInt = 0 := by decide
  have nn9 : (99 : Int32).toInt = 99 := by decide
  rw [f_Yard_spoil.eq_1, f_Yard_isNot.eq_1] at e1
  rw [f_M_spoil.eq_1] at e2
  have bad : some ((-1 : Int32), S) = some (r1, S1) → some ((-1 : Int32), S1) = some (r2, S2) → r1 = r2 ∧ PZ S2 := fun a b => by
    obtain ⟨x1, y1⟩ := so_i a
    obtain ⟨x2, y2⟩ := so_i b
    exact ⟨by rw [x1, x2], hZ.eq (by rw [y2, y1])⟩
  by_cases c0 : a < 0
  · rw [if_pos c0] at e1 e2
    exact bad e1 e2
  · rw [if_neg c0] at e1 e2
    by_cases d0 : v < 0
    · rw [if_pos d0, bnd_r, if_neg (by decide)] at e1
      rw [if_pos d0] at e2
      exact bad e1 e2
    · rw [if_neg d0] at e1 e2
      by_cases d9 : v ≤ 99
      · rw [if_pos d9, bnd_r, if_pos rfl] at e1
        rw [if_pos d9] at e2
        obtain ⟨r, V, g, e3⟩ := bnd_i e1
        clear e1
        obtain ⟨x1, y1⟩ := so_i e3
        subst x1 y1
        rw [Int32.lt_iff_toInt_lt, zer] at c0 d0
        obtain ⟨k, k1, rfl, -⟩ := i32_n (x := a) (by omega)
        obtain ⟨u, u1, rfl, -⟩ := i32_n (x := v) (by omega)
        rw [f_Plans_setPotential.eq_1] at g
        have s76 : S1.1 0 76 = S.1 0 76 := g1 0 76 rfl
        have s77 : S1.1 0 77 = S.1 0 77 := g1 0 77 rfl
        have none4 : f_Plans_potentialAt (nI k) S = some (-4, S) → f_Plans_hasPotential (nI k) S = some (0, S) → r1 = -4 ∧ S1 = S := fun a b => by
          rw [a, bnd_r, b, bnd_r, if_pos rfl] at g
          exact so_i g
        rcases hZ.2 with ⟨h1, h2, h3⟩ | ⟨h1, h2, l, h3⟩ | ⟨h1, h2, l, h3, h4⟩
        · obtain ⟨x, y⟩ := none4 (pan_c (by rw [h1]; decide)) (hp_n (by rw [h1]; decide))
          rw [s76, if_neg (by rw [h3]; decide)] at e2
          obtain ⟨x2, y2⟩ := so_i e2
          exact ⟨by rw [x, x2], hZ.eq (by rw [y2, y])⟩
        · obtain ⟨x, y⟩ := none4 (pan_c (by rw [h1]; decide)) (hp_n (by rw [h1]; decide))
          rw [s76, if_neg (by rw [h2]; decide)] at e2
          obtain ⟨x2, y2⟩ := so_i e2
          exact ⟨by rw [x, x2], hZ.eq (by rw [y2, y])⟩
        · obtain ⟨p1, p2, p3, p4⟩ := id h3
          rw [s76, if_pos h2, s77, p2] at e2
          by_cases c : k ≤ l
          · obtain ⟨n, n5, q1, q2, q3, q4, q5, q6, q7⟩ := id h4
            obtain ⟨X, x1, x2, x3, x4⟩ := q7 k c
            obtain ⟨W, hw, -⟩ := hC.qw n5 q1 q2
            have kx := (rk_lt n5 q3 x1).2.2.1
            have kx' := kx
            rw [fac_fc n5] at kx'
            have qq := qn hw.1 hw.2.1
            rw [pa_y h1 p1 p3 c hw kx x2, bnd_r, hp_y h1 p1 p3 k1, bnd_r, if_pos c, if_neg (by decide)] at g
            replace g := (grd_i g).2
            rw [nI_clamp (n := k) (by omega), x2, f_Potentials_setTo.eq_1, isr_t hw kx, bnd_r, if_neg (by decide)] at g
            obtain ⟨S5, g5, g6⟩ := bndv_i g
            clear g
            replace g5 := (grd_i g5).2
            rw [wr_r, nI_clamp (by omega)] at g5
            injection g5 with g5
            obtain ⟨z1, z2⟩ := so_i g6
            have cwX := cw_of hW n5 (cx_cl q5 x1) x1.2.2.2
            have vX := (cd_v q4 cwX.1).2
            have s56 : S1.1 56 k = S.1 56 k := g1 56 k rfl
            rw [if_pos (nI_le c (by omega))] at e2
            replace e2 := (grd_i e2).2
            rw [nI_clamp (n := k) (by omega), s56, x3] at e2
            replace e2 := (grd_i e2).2
            rw [nmR, nI_clamp (by omega)] at e2
            replace e2 := (grd_i e2).2
            replace e2 := (grd_i e2).2
            rw [wr_r] at e2
            obtain ⟨y1, y2⟩ := so_i e2
            have t55 : S1.1 55 (cdX S n X) = S.1 55 (cdX S n X) := g1 55 _ rfl
            refine ⟨?_, ?_⟩
            · rw [z1, y1, t55]
              rcases q6 X x1 with ⟨z, -⟩ | ⟨v, -, w1, w2⟩
              · exact absurd z x4
              · rw [w1, w2]
            · have o : ∀ q, q ≠ 55 → q ≠ 120 → S2.1 q = S.1 q := fun q a b => by rw [y2, st_row _ _ _ _ a, z2, ← g5, st_row _ _ _ _ b]
              have o120 : ∀ i, S2.1 120 i = if i = rkC S n X then nI u else S.1 120 i := fun i => by rw [y2, st_row _ _ _ _ (by decide), z2, ← g5, st_at, if_pos rfl]
              have o55 : ∀ i, S2.1 55 i = if i = cdX S n X then nI u else S.1 55 i := fun i => by rw [y2, st_at, if_pos rfl, z2, ← g5, st_row _ _ _ _ (by decide)]
              have o9 := o 109 (by decide) (by decide)
              have sm : Sm S S2 := ⟨by rw [o 0 (by decide) (by decide)], fun j => by rw [o 54 (by decide) (by decide)]⟩
              refine ⟨hZ.1.cg (fun q hq => o q (by
                have : q = 71 ∨ q = 113 ∨ q = 114 ∨ q = 115 := by simpa using hq
                omega) (by
                have : q = 71 ∨ q = 113 ∨ q = 114 ∨ q = 115 := by simpa using hq
                omega)), Or.inr (Or.inr ⟨by rw [o 70 (by decide) (by decide)]; exact h1, by rw [o 0 (by decide) (by decide)]; exact h2, l, h3.cg (fun q hq => o q (by
                have : q = 51 ∨ q = 52 ∨ q = 53 ∨ q = 70 ∨ q = 107 := by simpa using hq
                omega) (by
                have : q = 51 ∨ q = 52 ∨ q = 53 ∨ q = 70 ∨ q = 107 := by simpa using hq
                omega)) (by rw [o 0 (by decide) (by decide)]), n, n5, by rw [o 71 (by decide) (by decide)]; exact q1, by rw [o 71 (by decide) (by decide)]; exact q2, q3.cg o9, sm.pw q4, ?_, fun Y hY => ?_, fun j hj => ?_⟩)⟩
              · unfold SN
                rw [o9, o 54 (by decide) (by decide)]
                exact q5
              · have hY' : Cl S n Y := hY.cg o9.symm
                rw [rk_cg o9, sm.cd, o120, o55]
                have cwY := cw_of hW n5 (cx_cl q5 hY') hY'.2.2.2
                by_cases e : Y = X
                · rw [e, if_pos rfl, if_pos rfl]
                  exact Or.inr ⟨u, u1, rfl, rfl⟩
                · rw [if_neg (fun z => e (rk_inj n5 q3 hY' x1 z)), if_neg (fun z => e (cdw_inj hW q4 cwY cwX z))]
                  exact q6 Y hY'
              · obtain ⟨Y, b1, b2, b3, b4⟩ := q7 j hj
                refine ⟨Y, b1.cg o9, by rw [o 108 (by decide) (by decide), rk_cg o9]; exact b2, by rw [o 56 (by decide) (by decide), sm.cd]; exact b3, ?_⟩
                rw [rk_cg o9, o120]
                by_cases e : rkC S n Y = rkC S n X
                · rw [if_pos e]; exact nI_m4 u1
                · rw [if_neg e]; exact b4
          · obtain ⟨x, y⟩ := none4 (pa_f h1 p1 p3 k1 (by omega)) (by rw [hp_y h1 p1 p3 k1, if_neg c])
            rw [if_neg (fun z => c ((n_leJ (by omega) (by omega)).mp z))] at e2
            obtain ⟨x2, y2⟩ := so_i e2
            exact ⟨by rw [x, x2], hZ.eq (by rw [y2, y])⟩
      · rw [if_neg d9, bnd_r, if_neg (by decide)] at e1
        rw [if_neg d9] at e2
        exact bad e1 e2
theorem wipe_pz {S S1 S2 : SS} {r1 r2 : Int32} (hZ : PZ S) (g1 : F1 [123, 125] [(70, 7), (70, 8)] S S1) (g2 : F1 [47, 49] [(0, 76), (0, 77)] S1 S2) (e1 : f_Yard_wipe S = some (r1, S1)) (e2 : f_M_wipe S1 = some (r2, S2)) : PZ S2 := by
  rw [f_Yard_wipe.eq_1] at e1
  obtain ⟨r, V, g, e3⟩ := bnd_i e1
  clear e1
  obtain ⟨x1, y1⟩ := so_i e3
  subst x1 y1
  rw [f_Plans_clear.eq_1] at g
  obtain ⟨_, _, -, g⟩ := bnd_i g
  obtain ⟨_, _, -, g⟩ := bnd_i g
  obtain ⟨_, -, g⟩ := bndv_i g
  obtain ⟨S6, -, g⟩ := bndv_i g
  obtain ⟨S7, g7, g⟩ := bndv_i g
  rw [f_Plans_drop.eq_1, wr_r, wr_r] at g7
  have g7' : some (st (st S6 70 8 0) 70 7 0) = some S7 := g7
  injection g7' with g7'
  obtain ⟨-, z⟩ := so_i g
  rw [f_M_wipe.eq_1] at e2
  obtain ⟨_, _, -, e4⟩ := bnd_i e2
  have s76 := wipe_76 _ _ _ _ _ _ e4
  refine ⟨hZ.1.cg (fun q hq => ?_), Or.inl ⟨?_, ?_, s76⟩⟩
  · have : q = 71 ∨ q = 113 ∨ q = 114 ∨ q = 115 := by simpa using hq
    rcases this with rfl | rfl | rfl | rfl <;> rw [frow g2 _ (fun _ => rfl), frow g1 _ (fun _ => rfl)]
  · rw [g2 70 8 rfl, z, ← g7', st_at, if_pos rfl, if_neg (by decide), st_at, if_pos rfl, if_pos rfl]
  · rw [g2 70 7 rfl, z, ← g7', st_at, if_pos rfl, if_pos rfl]
/-! ===== check: code where it finds none ===== -/
theorem rk_n {T V : SS} {n : Nat} {w r : Int32} (h81 : T.1 0 81 = nI n) (hn : n ≤ 5) : ∀ (N x : Nat), x ≤ n → f_M_rankOf_L2 N w (nI x) T = some (r, V) → V = T ∧ (r = -4 ∨ ∃ k, k < n ∧ T.1 54 k = w)
  | 0, x, _, e => by cases e
  | N + 1, x, hx, e => by
    rw [f_M_rankOf_L2.eq_2, h81] at e
    by_cases c : x = n
    · rw [if_pos (nI_le (by omega) (by omega)), f_M_rankOf_j26.eq_1, h81, if_pos (nI_le (by omega) (by omega))] at e
      obtain ⟨a, b⟩ := so_i e
      exact ⟨b, Or.inl a⟩
    · rw [if_neg (nI_ge (by omega) (by omega))] at e
      replace e := (grd_i e).2
      rw [nI_clamp (by omega)] at e
      by_cases d : T.1 54 x = w
      · rw [if_pos d, f_M_rankOf_j26.eq_1, h81, if_neg (nI_ge (by omega) (by omega))] at e
        obtain ⟨a, b⟩ := so_i e
        exact ⟨b, Or.inr ⟨x, by omega, d⟩⟩
      · rw [if_neg d, nmR, nI_1] at e
        exact rk_n h81 hn N (x + 1) (by omega) e
theorem cn28 {T V : SS} {K : Int32 → Int32 → SS → Option (Int32 × SS)} {n s : Nat} {r : Int32} (hW : WR T) (h81 : T.1 0 81 = nI n) (hn : n ≤ 5) (hs : s < 4) (hr : ¬ r = -4) : ∀ (N i : Nat) (x : Int32) (U : SS), i ≤ mN T s → (∀ q, q ≠ 59 → U.1 q = T.1 q) → f_M_code_L28 K N x (nI s) (nI i) U = some (r, V) → (∀ j, i ≤ j → j < mN T s → ∃ k, k < n ∧ T.1 54 k = T.1 57 (10 * s + j)) ∧ ∃ U' x', (∀ q, q ≠ 59 → U'.1 q = T.1 q) ∧ K x' (nI (s + 1)) U' = some (r, V)
  | 0, i, x, U, _, _, e => by cases e
  | N + 1, i, x, U, hi, hU, e => by
    have m := mN_le hW s
    rw [f_M_code_L28.eq_2] at e
    replace e := (grd_i e).2
    rw [nI_clamp (n := s) (by omega), hU 58 (by decide), m.2] at e
    by_cases c : i = mN T s
    · rw [if_pos (nI_le (by omega) (by omega)), nmR, nI_1] at e
      exact ⟨fun j a b => by omega, U, x, hU, e⟩
    · rw [if_neg (nI_ge (by omega) (by omega))] at e
      replace e := (grd_i e).2
      rw [show (10 : Int32) * nI s + nI i = nI (10 * s + i) by rw [show (10 : Int32) * nI s = nI (10 * s) from nI_mul 10 s, nI_add], nI_clamp (n := 10 * s + i) (by omega), hU 57 (by decide)] at e
      obtain ⟨r10, S9, g, e1⟩ := bnd_i e
      clear e
      rw [f_M_rankOf.eq_1] at g
      obtain ⟨rfl, d⟩ := rk_n (T := U) (by rw [hU 0 (by decide)]; exact h81) hn NF 0 (Nat.zero_le _) g
      replace e1 := (grd_i e1).2
      rw [wr_r] at e1
      replace e1 := (grd_i e1).2
      rw [st_at, if_pos rfl, if_pos rfl] at e1
      by_cases d4 : r10 = -4
      · rw [if_pos d4] at e1
        exact absurd (so_i e1).1 hr
      · rw [if_neg d4, nmR, nmR, nI_1] at e1
        have d' := d.resolve_left d4
        rw [hU 54 (by decide)] at d'
        obtain ⟨a, b⟩ := cn28 hW h81 hn hs hr N (i + 1) _ _ (by omega) (fun q hq => by rw [st_row _ _ _ _ hq]; exact hU q hq) e1
        refine ⟨fun j j1 j2 => ?_, b⟩
        by_cases cj : j = i
        · subst cj; exact d'
        · exact a j (by omega) j2
theorem cn21 {T V : SS} {n : Nat} {r : Int32} (hW : WR T) (h81 : T.1 0 81 = nI n) (hn : n ≤ 5) (hr : ¬ r = -4) : ∀ (N s : Nat) (x : Int32) (U : SS), s ≤ 4 → (∀ q, q ≠ 59 → U.1 q = T.1 q) → f_M_code_L21 N x (nI s) U = some (r, V) → ∀ s', s ≤ s' → s' < 4 → ∀ j, j < mN T s' → ∃ k, k < n ∧ T.1 54 k = T.1 57 (10 * s' + j)
  | 0, s, x, U, _, _, e => by cases e
  | N + 1, s, x, U, hs, hU, e => by
    rw [f_M_code_L21.eq_2] at e
    by_cases c : s = 4
    · intro s' a b
      omega
    · rw [if_neg (k_ge (k := 4) 4 rfl (by omega) (by omega))] at e
      obtain ⟨a, U', x', b, e1⟩ := cn28 hW h81 hn (show s < 4 by omega) hr NF 0 x U (Nat.zero_le _) hU e
      intro s' s1 s2 j hj
      by_cases d : s' = s
      · subst d; exact a j (Nat.zero_le _) hj
      · exact cn21 hW h81 hn hr N (s + 1) x' U' (by omega) b e1 s' (by omega) s2 j hj
/-- where code answers with a number, all stand there -/
theorem cd_n {T V : SS} {n : Nat} {r : Int32} (hW : WR T) (hN : NN T) (h81 : T.1 0 81 = nI n) (hn : n ≤ 5) (hr : ¬ r = -4) (e : f_M_code T = some (r, V)) : tot (cfS T) = n ∧ ∀ w, w ∈ Flat (cfS T) → w < 10 ∧ ∃ k, k < n ∧ T.1 54 k = nI w := by
  rw [f_M_code.eq_1, f_M_sumOf_M_many.eq_1] at e
  have l0 := (mN_le hW 0).1
  have l1 := (mN_le hW 1).1
  have l2 := (mN_le hW 2).1
  have l3 := (mN_le hW 3).1
  obtain ⟨r2, S1, g, e1⟩ := bnd_i e
  clear e
  replace g := (grd_i g).2
  replace g := (grd_i g).2
  replace g := (grd_i g).2
  replace g := (grd_i g).2
  rw [show (0 : Int32).toNatClampNeg = 0 by decide, show (1 : Int32).toNatClampNeg = 1 by decide, show (2 : Int32).toNatClampNeg = 2 by decide, show (3 : Int32).toNatClampNeg = 3 by decide, (mN_le hW 0).2, (mN_le hW 1).2, (mN_le hW 2).2, (mN_le hW 3).2, nI_add, nI_add, nI_add] at g
  obtain ⟨x, y⟩ := so_i g
  subst y
  rw [x, h81] at e1
  by_cases c : mN S1 0 + mN S1 1 + mN S1 2 + mN S1 3 = n
  · rw [if_pos (by rw [c])] at e1
    refine ⟨by rw [tot_off, off_4]; exact c, fun w hw => ?_⟩
    obtain ⟨s, i, a1, a2, a3, a4⟩ := fl_mem hN hw
    obtain ⟨k, k1, k2⟩ := cn21 hW h81 hn hr NF 0 _ S1 (by omega) (fun _ _ => rfl) e1 s (Nat.zero_le _) a1 i a2
    exact ⟨a3, k, k1, by rw [k2, a4]⟩
  · rw [if_neg (fun z => c (nI_inj (by omega) (by omega) z))] at e1
    exact absurd (so_i e1).1 hr
/-! ===== check: the MOVES worked on both sides ===== -/
def runK (rm : Nat → Nat) (f t m : Nat → Nat) : Nat → Nat → Cf → Option Cf
  | 0, _, X => some X
  | c + 1, k, X => if m k ≤ (X (f k)).length ∧ (X (t k)).length + m k ≤ rm (t k) then runK rm f t m c (k + 1) (mvd (f k) (t k) (m k) X) else none
theorem lr_all : ∀ a b m : Fin 11, nI m.1 ≤ nI a.1 - nI b.1 ↔ b.1 + m.1 ≤ a.1 := by decide +kernel
def WK (B T : SS) (X : Cf) : Prop := (∀ q, q ≠ 126 → q ≠ 127 → T.1 q = B.1 q) ∧ (∀ s, s < 4 → T.1 127 s = nI (X s).length ∧ (X s).length ≤ 10) ∧ ∀ s i w, s < 4 → (X s)[i]? = some w → T.1 126 (10 * s + i) = nI w
theorem hw_k {B T : SS} {X : Cf} (h : WK B T X) {s : Nat} (hs : s < 4) : f_Stacks_height_work (nI s) T = some (nI (X s).length, T) := by
  rw [f_Stacks_height_work.eq_1, if_neg (nI_nn (by omega)), if_neg (k_ge (k := 4) 4 rfl hs (by omega)), grT (inb_nI hs (by omega)), nI_clamp (by omega), (h.2.1 s hs).1]
set_option maxHeartbeats 1000000 in
theorem sh_k {B T V : SS} {X : Cf} {a b n : Nat} (h : WK B T X) (ha : a < 4) (hb : b < 4) (hab : a ≠ b) (h0 : 1 ≤ n) (h1 : n ≤ (X a).length) (h2 : (X b).length + n ≤ 10) (g3 : f_Stacks_shift_work (nI a) (nI b) (nI n) T = some V) : WK B V (mvd a b n X) := by
  obtain ⟨c1, c2, c3⟩ := id h
  have la := (c2 a ha)
  have lb := (c2 b hb)
  rw [f_Stacks_shift_work.eq_1, if_neg (nI_nn (by omega)), if_neg (k_ge (k := 4) 4 rfl hb (by omega)), if_neg (fun z => hab (nI_inj (by omega) (by omega) z.symm)), f_Stacks_shift_work_j19.eq_1, if_neg (by decide), if_neg (fun z : nI n < (1 : Int32) => by
    have := (nI_ltJ (b := 1) (by omega) (by omega)).mp z
    omega), hw_k h ha, bnd_r, if_neg (fun z => by
    have := (nI_ltJ (by omega) (by omega)).mp z
    omega)] at g3
  replace g3 := (grd_i g3).2
  rw [nI_clamp (n := b) (by omega), nI_clamp (n := a) (by omega), lb.1, la.1, show (10 : Int32) - nI (X b).length = nI (10 - (X b).length) from nI_sb (a := 10) (by omega) (by omega), if_pos (nI_le (by omega) (by omega)), nI_sb h1 (by omega)] at g3
  replace g3 := (grd_i g3).2
  replace g3 := (grd_i g3).2
  rw [wr_r] at g3
  replace g3 := (grd_i g3).2
  replace g3 := (grd_i g3).2
  rw [show (st T 127 a (nI ((X a).length - n))).1 127 a = nI ((X a).length - n) by rw [st_at, if_pos rfl, if_pos rfl], show (st T 127 a (nI ((X a).length - n))).1 127 b = nI (X b).length by rw [st_at, if_pos rfl, if_neg (Ne.symm hab), lb.1], show (10 : Int32) * nI a = nI (10 * a) from nI_mul 10 a, show (10 : Int32) * nI b = nI (10 * b) from nI_mul 10 b, nI_add, nI_add] at g3
  replace g3 := (grd_i g3).2
  have cpr : ∀ (S : SS) (k0 k1 x y n : Nat) (g : SS → Option SS), cpw S k0 k1 x y n g = g (cp S k0 k1 x y n) := fun _ _ _ _ _ _ _ => rfl
  rw [cpr, nI_clamp (n := 10 * a + ((X a).length - n)) (by omega), nI_clamp (n := 10 * b + (X b).length) (by omega), nI_clamp (n := n) (by omega)] at g3
  replace g3 := (grd_i g3).2
  replace g3 := (grd_i g3).2
  rw [wr_r] at g3
  injection g3 with g3
  generalize hU : cp (st T 127 a (nI ((X a).length - n))) 126 126 (10 * a + ((X a).length - n)) (10 * b + (X b).length) n = U at g3
  have u126 : ∀ i, U.1 126 i = if 10 * b + (X b).length ≤ i ∧ i < 10 * b + (X b).length + n then T.1 126 (10 * a + ((X a).length - n) + (i - (10 * b + (X b).length))) else T.1 126 i := fun i => by
    rw [cp_v hU.symm i, st_row _ _ _ _ (by decide)]
  have uo : ∀ q, q ≠ 126 → U.1 q = (st T 127 a (nI ((X a).length - n))).1 q := fun q hq => by rw [← hU, cpx_row _ _ _ _ _ _ hq]
  have u127 : ∀ s, U.1 127 s = if s = a then nI ((X a).length - n) else T.1 127 s := fun s => by rw [uo 127 (by decide), st_at, if_pos rfl]
  have v127 : ∀ s, V.1 127 s = if s = b then nI ((X b).length + n) else if s = a then nI ((X a).length - n) else T.1 127 s := fun s => by
    rw [← g3, st_at, if_pos rfl, u127, u127, if_neg (Ne.symm hab), lb.1, nI_add]
  have vo : ∀ q, q ≠ 126 → q ≠ 127 → V.1 q = T.1 q := fun q x y => by rw [← g3, st_row _ _ _ _ y, uo q x, st_row _ _ _ _ y]
  have v126 : ∀ i, V.1 126 i = if 10 * b + (X b).length ≤ i ∧ i < 10 * b + (X b).length + n then T.1 126 (10 * a + ((X a).length - n) + (i - (10 * b + (X b).length))) else T.1 126 i := fun i => by rw [← g3, st_row _ _ _ _ (by decide), u126]
  have ml := mvd_len (X := X) hab h1
  refine ⟨fun q x3 x4 => by rw [vo q x3 x4]; exact c1 q x3 x4, fun s hs => ?_, fun s i w hs hi => ?_⟩
  · rw [v127, ml]
    by_cases sa : s = a
    · rw [if_neg (by omega), if_pos sa, if_pos sa]
      exact ⟨rfl, by omega⟩
    · by_cases sb : s = b
      · rw [if_pos sb, if_neg sa, if_pos sb]
        exact ⟨rfl, by omega⟩
      · rw [if_neg sb, if_neg sa, if_neg sa, if_neg sb]
        exact c2 s hs
  · rw [v126]
    have ls := c2 s hs
    by_cases sa : s = a
    · subst sa
      rw [mvd_a, List.getElem?_take] at hi
      by_cases ci : i < (X s).length - n
      · rw [if_pos ci] at hi
        rw [if_neg (by omega)]
        exact c3 s i w hs hi
      · rw [if_neg ci] at hi; cases hi
    · by_cases sb : s = b
      · subst sb
        rw [mvd_t n X (Ne.symm hab)] at hi
        rcases ap_at hi with ⟨z1, z2⟩ | ⟨z1, z2⟩
        · rw [if_neg (by omega)]
          exact c3 s i w hs z2
        · rw [List.getElem?_drop] at z2
          have il : (X a).length - n + (i - (X s).length) < (X a).length := by
            rcases Nat.lt_or_ge ((X a).length - n + (i - (X s).length)) (X a).length with c | c
            · exact c
            · rw [List.getElem?_eq_none c] at z2; cases z2
          rw [if_pos (by omega), show 10 * a + ((X a).length - n) + (10 * s + i - (10 * s + (X s).length)) = 10 * a + ((X a).length - n + (i - (X s).length)) by omega]
          exact c3 a _ w ha z2
      · rw [mvd_o n X sa sb] at hi
        have il : i < (X s).length := by
          rcases Nat.lt_or_ge i (X s).length with c | c
          · exact c
          · rw [List.getElem?_eq_none c] at hi; cases hi
        rw [if_neg (by omega)]
        exact c3 s i w hs hi
/-! ===== check: leadsToGoal and works ===== -/
def mf (B : SS) (k : Nat) : Nat := (B.1 51 k).toNatClampNeg
def mt (B : SS) (k : Nat) : Nat := (B.1 52 k).toNatClampNeg
def mm (B : SS) (k : Nat) : Nat := (B.1 53 k).toNatClampNeg
theorem pk_mf {B : SS} {l k : Nat} (h : PkA B l) (hk : k < l) : mf B k < 4 ∧ mt B k < 4 ∧ mf B k ≠ mt B k ∧ 1 ≤ mm B k ∧ mm B k ≤ 10 ∧ B.1 107 k = nI (64 * mf B k + 16 * mt B k + mm B k) ∧ B.1 51 k = nI (mf B k) ∧ B.1 52 k = nI (mt B k) ∧ B.1 53 k = nI (mm B k) := by
  obtain ⟨f, t, m, q1, q2, q0, q3, q4, q5, q6, q7, q8⟩ := h.2.2.2 k hk
  have e1 : mf B k = f := by unfold mf; rw [q6, nI_clamp (by omega)]
  have e2 : mt B k = t := by unfold mt; rw [q7, nI_clamp (by omega)]
  have e3 : mm B k = m := by unfold mm; rw [q8, nI_clamp (by omega)]
  rw [e1, e2, e3]
  exact ⟨q1, q2, q0, q3, q4, q5, q6, q7, q8⟩
theorem cf_ext {X Y : Cf} (hX : ∀ s, 4 ≤ s → X s = []) (hY : ∀ s, 4 ≤ s → Y s = []) (h : ∀ s, s < 4 → X s = Y s) : X = Y := by
  funext s
  by_cases c : s < 4
  · exact h s c
  · rw [hX s (by omega), hY s (by omega)]
/-- what the GOAL's rows hold -/
def GK (B : SS) (o h : Nat) (G : Cf) : Prop := (∀ s, s < 4 → B.1 h s = nI (G s).length ∧ (G s).length ≤ 10) ∧ (∀ s i w, s < 4 → (G s)[i]? = some w → B.1 o (10 * s + i) = nI w) ∧ (∀ v, v ∈ Flat G → v < 10) ∧ ∀ s, 4 ≤ s → G s = []
theorem il25 {B T V : SS} {K : Int32 → SS → Option (Int32 × SS)} {X G : Cf} {s : Nat} {r : Int32} (h : WK B T X) (hG : GK B 124 125 G) (x10 : ∀ v, v ∈ Flat X → v < 10) (hs : s < 4) (hl : (X s).length = (G s).length) : ∀ (N i : Nat), i ≤ (X s).length → (∀ j, j < i → (X s)[j]? = (G s)[j]?) → f_Stacks_isLike_work_goal_L25 K N (nI s) (nI i) T = some (r, V) → (r = 0 ∧ V = T ∧ ¬ X s = G s) ∨ (X s = G s ∧ K (nI (s + 1)) T = some (r, V))
  | 0, i, _, _, e => by cases e
  | N + 1, i, hi, hj, e => by
    obtain ⟨l1, l2⟩ := h.2.1 s hs
    rw [f_Stacks_isLike_work_goal_L25.eq_2] at e
    replace e := (grd_i e).2
    rw [nI_clamp (n := s) (by omega), l1] at e
    by_cases c : i = (X s).length
    · rw [if_pos (nI_le (by omega) (by omega)), nmR, nI_1] at e
      refine Or.inr ⟨List.ext_getElem? (fun j => ?_), e⟩
      by_cases d : j < i
      · exact hj j d
      · rw [List.getElem?_eq_none (by omega), List.getElem?_eq_none (by omega)]
    · have il : i < (X s).length := by omega
      have ig : i < (G s).length := by omega
      have gx := List.getElem?_eq_getElem il
      have gg := List.getElem?_eq_getElem ig
      have v10 : (X s)[i] < 10 := x10 _ (fl_sub hs (List.getElem_mem il))
      have w10 : (G s)[i] < 10 := hG.2.2.1 _ (fl_sub hs (List.getElem_mem ig))
      have gl := hG.1 s hs
      have wa : f_Stacks_wagonAt_work (nI s) (nI i) T = some (nI (X s)[i], T) := by
        rw [f_Stacks_wagonAt_work.eq_1, if_neg (nI_nn (by omega)), if_neg (k_ge (k := 4) 4 rfl hs (by omega)), if_neg (nI_nn (by omega)), grT (inb_nI hs (by omega)), nI_clamp (n := s) (by omega), l1, if_neg (nI_ge il (by omega)), f_Stacks_wagonAt_work_j28.eq_1, if_neg (by decide), show (10 : Int32) * nI s + nI i = nI (10 * s + i) by rw [show (10 : Int32) * nI s = nI (10 * s) from nI_mul 10 s, nI_add], grT (inb_nI (by omega) (by omega)), nI_clamp (n := 10 * s + i) (by omega), h.2.2 s i _ hs gx]
      rw [if_neg (nI_ge il (by omega)), wa, bnd_r, wa_goal (h := (G s).length) hs (by rw [h.1 125 (by decide) (by decide)]; exact gl.1) gl.2 ig, bnd_r, h.1 124 (by decide) (by decide), hG.2.1 s i _ hs gg] at e
      by_cases d : (X s)[i] = (G s)[i]
      · rw [if_pos (by rw [d]), nmR, nI_1] at e
        refine il25 h hG x10 hs hl N (i + 1) (by omega) (fun j q => ?_) e
        by_cases cj : j = i
        · subst cj; rw [gx, gg, d]
        · exact hj j (by omega)
      · rw [if_neg (fun z => d (nI_inj (by omega) (by omega) z))] at e
        obtain ⟨a, b⟩ := so_i e
        refine Or.inl ⟨a, b, fun z => d ?_⟩
        have := gx.symm.trans ((congrArg (fun l : List Nat => l[i]?) z).trans gg)
        injection this
theorem il2 {B T V : SS} {X G : Cf} {r : Int32} (h : WK B T X) (hG : GK B 124 125 G) (x10 : ∀ v, v ∈ Flat X → v < 10) (xf : ∀ s, 4 ≤ s → X s = []) : ∀ (N s : Nat), s ≤ 4 → (∀ j, j < s → X j = G j) → f_Stacks_isLike_work_goal_L2 N (nI s) T = some (r, V) → V = T ∧ ((r = 1 ∧ X = G) ∨ (r = 0 ∧ ¬ X = G))
  | 0, s, _, _, e => by cases e
  | N + 1, s, hs, hj, e => by
    rw [f_Stacks_isLike_work_goal_L2.eq_2] at e
    by_cases c : s = 4
    · subst c
      rw [if_pos (by decide)] at e
      obtain ⟨a, b⟩ := so_i e
      exact ⟨b, Or.inl ⟨a, cf_ext xf hG.2.2.2 hj⟩⟩
    · have hs4 : s < 4 := by omega
      obtain ⟨l1, l2⟩ := h.2.1 s hs4
      have gl := hG.1 s hs4
      rw [if_neg (k_ge (k := 4) 4 rfl hs4 (by omega))] at e
      replace e := (grd_i e).2
      rw [he_goal hs4, bnd_r, h.1 125 (by decide) (by decide), gl.1, nI_clamp (n := s) (by omega), l1] at e
      by_cases d : (X s).length = (G s).length
      · rw [if_pos (by rw [d])] at e
        rcases il25 h hG x10 hs4 d NF 0 (Nat.zero_le _) (fun j q => absurd q (Nat.not_lt_zero _)) e with ⟨a, b, c⟩ | ⟨a, e1⟩
        · exact ⟨b, Or.inr ⟨a, fun z => c (by rw [z])⟩⟩
        · refine il2 h hG x10 xf N (s + 1) (by omega) (fun j q => ?_) e1
          by_cases cj : j = s
          · rw [cj]; exact a
          · exact hj j (by omega)
      · rw [if_neg (fun z => d (nI_inj (by omega) (by omega) z))] at e
        obtain ⟨a, b⟩ := so_i e
        exact ⟨b, Or.inr ⟨a, fun z => d (by rw [z])⟩⟩
/-- what a run of THE PLAN says -/
def LdR (res : Option Cf) (G : Cf) (r : Int32) : Prop := (r = 1 ∧ res = some G) ∨ (r = 0 ∧ ¬ res = some G)
theorem mem_mv {R : Nat → Nat} {X : Cf} {a b n : Nat} (ha : a < 4) (hb : b < 4) (hab : a ≠ b) (h0 : 1 ≤ n) (h1 : n ≤ (X a).length) (h2 : (X b).length + n ≤ R b) : (∀ v, v ∈ Flat (mvd a b n X) → v ∈ Flat X) ∧ ((∀ s, 4 ≤ s → X s = []) → ∀ s, 4 ≤ s → mvd a b n X s = []) := by
  have m : Mv R X (mvd a b n X) := ⟨a, b, n, ha, hb, hab, h0, h1, h2, rfl⟩
  refine ⟨fun v hv => ?_, fun f s hs => by rw [mv_far m hs]; exact f s hs⟩
  rw [← List.count_pos_iff, ← mv_count m]
  exact List.count_pos_iff.mpr hv
theorem ld13 {B V : SS} {rm : Nat → Nat} {G : Cf} {l : Nat} {r : Int32} (hA : PkA B l) (hr : Rm B rm) (hG : GK B 124 125 G) : ∀ (N c k : Nat) (X : Cf) (T : SS), k + c = l → WK B T X → (∀ v, v ∈ Flat X → v < 10) → (∀ s, 4 ≤ s → X s = []) → f_Plans_leadsToGoal_L13 N (nI k) T = some (r, V) → LdR (runK rm (mf B) (mt B) (mm B) c k X) G r ∧ ∀ q, q ≠ 126 → q ≠ 127 → V.1 q = B.1 q
  | 0, c, k, X, T, _, _, _, _, e => by cases e
  | N + 1, 0, k, X, T, hk, h, x10, xf, e => by
    obtain ⟨p1, p2, p3, p4⟩ := hA
    rw [f_Plans_leadsToGoal_L13.eq_2, h.1 70 (by decide) (by decide), p1, if_pos (nI_le (by omega) (by omega))] at e
    obtain ⟨r3, S2, g, e1⟩ := bnd_i e
    clear e
    replace e1 := (grd_i e1).2
    rw [f_Stacks_isLike_work_goal.eq_1] at g
    obtain ⟨rfl, d⟩ := il2 h hG x10 xf NF 0 (by omega) (fun j q => absurd q (Nat.not_lt_zero _)) g
    obtain ⟨a, b⟩ := so_i e1
    refine ⟨?_, by rw [b]; exact h.1⟩
    rw [a]
    rcases d with ⟨d1, d2⟩ | ⟨d1, d2⟩
    · exact Or.inl ⟨d1, by show some X = some G; rw [d2]⟩
    · exact Or.inr ⟨d1, fun z => d2 (by
        have z' : some X = some G := z
        injection z')⟩
  | N + 1, c + 1, k, X, T, hk, h, x10, xf, e => by
    have hkl : k < l := by omega
    obtain ⟨m1, m2, m0, m3, m4, m5, m6, m7, m8⟩ := pk_mf hA hkl
    obtain ⟨p1, p2, p3, p4⟩ := id hA
    have t70 : T.1 70 7 = nI l := by rw [h.1 70 (by decide) (by decide)]; exact p1
    obtain ⟨z0, z1, z2⟩ := mvat t70 p3 hkl m1 m2 m4 (by rw [h.1 107 (by decide) (by decide)]; exact m5)
    have lf := h.2.1 _ m1
    have lt := h.2.1 _ m2
    have rt := hr _ m2
    rw [f_Plans_leadsToGoal_L13.eq_2, t70, if_neg (nI_ge hkl (by omega)), z0, bnd_r, z1, bnd_r, z2 2 (by decide) (by decide), bnd_r, hw_k h m1, bnd_r] at e
    have un : runK rm (mf B) (mt B) (mm B) (c + 1) k X = if mm B k ≤ (X (mf B k)).length ∧ (X (mt B k)).length + mm B k ≤ rm (mt B k) then runK rm (mf B) (mt B) (mm B) c (k + 1) (mvd (mf B k) (mt B k) (mm B k) X) else none := rfl
    rw [un]
    by_cases c1 : mm B k ≤ (X (mf B k)).length
    · rw [if_neg (fun z => by have := (nI_ltJ (by omega) (by omega)).mp z; omega)] at e
      have rl : f_Plans_roomLeft (nI (mt B k)) T = some (nI (rm (mt B k)) - nI (X (mt B k)).length, T) := by
        rw [f_Plans_roomLeft.eq_1, if_neg (nI_nn (by omega)), if_pos (show nI (mt B k) < (4 : Int32) from (nI_ltJ (b := 4) (by omega) (by omega)).mpr m2), grT (inb_nI m2 (by omega)), hw_k h m2, bnd_r, nI_clamp (by omega), h.1 106 (by decide) (by decide), rt.1]
      rw [rl, bnd_r] at e
      have iff' := lr_all ⟨rm (mt B k), by omega⟩ ⟨(X (mt B k)).length, by omega⟩ ⟨mm B k, by omega⟩
      simp only at iff'
      by_cases c2 : (X (mt B k)).length + mm B k ≤ rm (mt B k)
      · rw [if_pos (iff'.mpr c2)] at e
        obtain ⟨S14, g, e1⟩ := bndv_i e
        clear e
        rw [nmR, nI_1] at e1
        rw [if_pos ⟨c1, c2⟩]
        obtain ⟨a1, a2⟩ := mem_mv (R := rm) m1 m2 m0 m3 c1 c2
        exact ld13 hA hr hG N c (k + 1) _ S14 (by omega) (sh_k h m1 m2 m0 m3 c1 (by omega) g) (fun v hv => x10 v (a1 v hv)) (a2 xf) e1
      · rw [if_neg (fun z => c2 (iff'.mp z))] at e
        obtain ⟨a, b⟩ := so_i e
        rw [if_neg (fun z => c2 z.2)]
        exact ⟨Or.inr ⟨a, fun z => by cases z⟩, by rw [b]; exact h.1⟩
    · rw [if_pos ((nI_ltJ (by omega) (by omega)).mpr (by omega))] at e
      obtain ⟨a, b⟩ := so_i e
      rw [if_neg (fun z => c1 z.1)]
      exact ⟨Or.inr ⟨a, fun z => by cases z⟩, by rw [b]; exact h.1⟩
/-! ===== check: works exactly ===== -/
def RX (B T : SS) (X : Cf) : Prop := Fr [57, 58] [] B T ∧ WR T ∧ NN T ∧ cfS T = X
theorem rx_m {B T : SS} {X : Cf} (h : RX B T X) {s : Nat} (hs : s < 4) : T.1 58 s = nI (X s).length ∧ mN T s = (X s).length ∧ (X s).length ≤ 10 := by
  have a := mN_le h.2.1 s
  have b : (X s).length = mN T s := by rw [← h.2.2.2, cfS_len hs]
  rw [b]
  exact ⟨a.2, rfl, a.1⟩
theorem rx_at {B T : SS} {X : Cf} (h : RX B T X) {s i w : Nat} (hs : s < 4) (hi : (X s)[i]? = some w) : T.1 57 (10 * s + i) = nI w ∧ w < 10 := by
  have il : i < (X s).length := by
    rcases Nat.lt_or_ge i (X s).length with c | c
    · exact c
    · rw [List.getElem?_eq_none c] at hi; cases hi
  have m := (rx_m h hs).2.1
  rw [← m] at il
  obtain ⟨v, v1, v2⟩ := h.2.2.1 s i hs il
  rw [← h.2.2.2, cfS_get hs il, wN_of v2 v1] at hi
  injection hi with hi
  rw [v2, hi]
  exact ⟨rfl, by omega⟩
theorem z78 {T V : SS} {r x : Int32} : ∀ N, f_M_works_L78 N 0 x T = some (r, V) → r = 0 ∧ V = T
  | 0, e => by cases e
  | N + 1, e => by
    rw [f_M_works_L78.eq_2] at e
    by_cases c : (4 : Int32) ≤ x
    · rw [if_pos c] at e
      exact so_i (grd_i e).2
    · rw [if_neg c, if_pos rfl] at e
      exact so_i (grd_i e).2
theorem z110 {T V : SS} {r x y : Int32} {M : Nat} : ∀ N, f_M_works_L110 (fun v0 v1 S => f_M_works_L78 M v0 v1 S) N 0 x y T = some (r, V) → r = 0 ∧ V = T
  | 0, e => by cases e
  | N + 1, e => by
    rw [f_M_works_L110.eq_2] at e
    replace e := (grd_i e).2
    by_cases c : T.1 58 x.toNatClampNeg ≤ y
    · rw [if_pos c, f_M_works_j161.eq_1, nmR] at e
      exact z78 M e
    · rw [if_neg c, if_pos rfl, f_M_works_j161.eq_1, nmR] at e
      exact z78 M e
theorem w110 {B T V : SS} {X G : Cf} {s M : Nat} {r : Int32} (h : RX B T X) (hG : GK B 50 49 G) (hs : s < 4) (hl : (X s).length = (G s).length) : ∀ (N i : Nat), i ≤ (X s).length → (∀ j, j < i → (X s)[j]? = (G s)[j]?) → f_M_works_L110 (fun v0 v1 S => f_M_works_L78 M v0 v1 S) N 1 (nI s) (nI i) T = some (r, V) → (r = 0 ∧ V = T ∧ ¬ X s = G s) ∨ (X s = G s ∧ f_M_works_L78 M 1 (nI (s + 1)) T = some (r, V))
  | 0, i, _, _, e => by cases e
  | N + 1, i, hi, hj, e => by
    obtain ⟨l1, -, l2⟩ := rx_m h hs
    rw [f_M_works_L110.eq_2] at e
    replace e := (grd_i e).2
    rw [nI_clamp (n := s) (by omega), l1] at e
    by_cases c : i = (X s).length
    · rw [if_pos (nI_le (by omega) (by omega)), f_M_works_j161.eq_1, nmR, nI_1] at e
      refine Or.inr ⟨List.ext_getElem? (fun j => ?_), e⟩
      by_cases d : j < i
      · exact hj j d
      · rw [List.getElem?_eq_none (by omega), List.getElem?_eq_none (by omega)]
    · have il : i < (X s).length := by omega
      have ig : i < (G s).length := by omega
      have gx := List.getElem?_eq_getElem il
      have gg := List.getElem?_eq_getElem ig
      have qx := rx_at h hs gx
      have v10 := qx.2
      have w10 : (G s)[i] < 10 := hG.2.2.1 _ (fl_sub hs (List.getElem_mem ig))
      rw [if_neg (nI_ge il (by omega)), if_neg (by decide)] at e
      replace e := (grd_i e).2
      replace e := (grd_i e).2
      rw [show (10 : Int32) * nI s + nI i = nI (10 * s + i) by rw [show (10 : Int32) * nI s = nI (10 * s) from nI_mul 10 s, nI_add], nI_clamp (n := 10 * s + i) (by omega), qx.1, h.1.1 50 _ rfl, hG.2.1 s i _ hs gg] at e
      by_cases d : (X s)[i] = (G s)[i]
      · rw [if_pos (by rw [d]), f_M_works_j154.eq_1, nmR, nI_1] at e
        refine w110 h hG hs hl N (i + 1) (by omega) (fun j q => ?_) e
        by_cases cj : j = i
        · subst cj; rw [gx, gg, d]
        · exact hj j (by omega)
      · rw [if_neg (fun z => d (nI_inj (by omega) (by omega) z)), f_M_works_j154.eq_1, nmR] at e
        obtain ⟨a, b⟩ := z110 N e
        refine Or.inl ⟨a, b, fun z => d ?_⟩
        have := gx.symm.trans ((congrArg (fun l : List Nat => l[i]?) z).trans gg)
        injection this
theorem w78 {B T V : SS} {X G : Cf} {r : Int32} (h : RX B T X) (hG : GK B 50 49 G) : ∀ (N s : Nat), s ≤ 4 → (∀ j, j < s → X j = G j) → f_M_works_L78 N 1 (nI s) T = some (r, V) → V = T ∧ ((r = 1 ∧ X = G) ∨ (r = 0 ∧ ¬ X = G))
  | 0, s, _, _, e => by cases e
  | N + 1, s, hs, hj, e => by
    rw [f_M_works_L78.eq_2] at e
    by_cases c : s = 4
    · subst c
      rw [if_pos (by decide)] at e
      obtain ⟨a, b⟩ := so_i (grd_i e).2
      exact ⟨b, Or.inl ⟨a, cf_ext (fun s hs => by rw [← h.2.2.2]; exact cfS_far _ hs) hG.2.2.2 hj⟩⟩
    · have hs4 : s < 4 := by omega
      obtain ⟨l1, -, l2⟩ := rx_m h hs4
      have gl := hG.1 s hs4
      rw [if_neg (k_ge (k := 4) 4 rfl hs4 (by omega)), if_neg (by decide)] at e
      replace e := (grd_i e).2
      replace e := (grd_i e).2
      rw [nI_clamp (n := s) (by omega), l1, h.1.1 49 _ rfl, gl.1] at e
      by_cases d : (X s).length = (G s).length
      · rw [if_pos (by rw [d]), f_M_works_j107.eq_1] at e
        rcases w110 h hG hs4 d NF 0 (Nat.zero_le _) (fun j q => absurd q (Nat.not_lt_zero _)) e with ⟨a, b, c⟩ | ⟨a, e1⟩
        · exact ⟨b, Or.inr ⟨a, fun z => c (by rw [z])⟩⟩
        · refine w78 h hG N (s + 1) (by omega) (fun j q => ?_) e1
          by_cases cj : j = s
          · rw [cj]; exact a
          · exact hj j (by omega)
      · rw [if_neg (fun z => d (nI_inj (by omega) (by omega) z)), f_M_works_j107.eq_1] at e
        obtain ⟨a, b⟩ := z110 NF e
        exact ⟨b, Or.inr ⟨a, fun z => d (by rw [z])⟩⟩
theorem z9 {T V : SS} {r x : Int32} : ∀ N, f_M_works_L9 N 0 x T = some (r, V) → r = 0 ∧ V = T
  | 0, e => by cases e
  | N + 1, e => by
    rw [f_M_works_L9.eq_2] at e
    by_cases c : T.1 0 77 ≤ x
    · rw [if_pos c, f_M_works_j76.eq_1] at e
      exact z78 NF e
    · rw [if_neg c, if_pos rfl, f_M_works_j76.eq_1] at e
      exact z78 NF e
theorem wk9 {B V : SS} {G : Cf} {l : Nat} {r : Int32} (hA : PkA B l) (hr : ∀ s, rmN B s ≤ 10) (hG : GK B 50 49 G) : ∀ (N c k : Nat) (X : Cf) (T : SS), k + c = l → RX B T X → f_M_works_L9 N 1 (nI k) T = some (r, V) → LdR (runK (rmN B) (mf B) (mt B) (mm B) c k X) G r ∧ ∃ X', RX B V X'
  | 0, c, k, X, T, _, _, e => by cases e
  | N + 1, 0, k, X, T, hk, h, e => by
    obtain ⟨p1, p2, p3, p4⟩ := hA
    rw [f_M_works_L9.eq_2, h.1.1 0 77 rfl, p2, if_pos (nI_le (by omega) (by omega)), f_M_works_j76.eq_1] at e
    obtain ⟨rfl, d⟩ := w78 h hG NF 0 (by omega) (fun j q => absurd q (Nat.not_lt_zero _)) e
    refine ⟨?_, X, h⟩
    rcases d with ⟨d1, d2⟩ | ⟨d1, d2⟩
    · exact Or.inl ⟨d1, by show some X = some G; rw [d2]⟩
    · exact Or.inr ⟨d1, fun z => d2 (by
        have z' : some X = some G := z
        injection z')⟩
  | N + 1, c + 1, k, X, T, hk, h, e => by
    have hkl : k < l := by omega
    obtain ⟨m1, m2, m0, m3, m4, m5, m6, m7, m8⟩ := pk_mf hA hkl
    obtain ⟨p1, p2, p3, p4⟩ := id hA
    have lf := rx_m h m1
    have lt := rx_m h m2
    have rt : rmN T (mt B k) = rmN B (mt B k) := by unfold rmN; rw [h.1.1 46 _ rfl]
    have r10 := hr (mt B k)
    rw [f_M_works_L9.eq_2, h.1.1 0 77 rfl, p2, if_neg (nI_ge hkl (by omega)), if_neg (by decide)] at e
    replace e := (grd_i e).2
    replace e := (grd_i e).2
    replace e := (grd_i e).2
    rw [nI_clamp (n := k) (by omega), h.1.1 51 _ rfl, h.1.1 52 _ rfl, h.1.1 53 _ rfl, m6, m7, m8] at e
    obtain ⟨r5, S4, g5, e1⟩ := bnd_i e
    clear e
    obtain ⟨rfl, d⟩ := ex_i (mmx h.2.1 m1 m2 m4) g5
    rw [lf.2.1, lt.2.1, rt] at d
    have un : runK (rmN B) (mf B) (mt B) (mm B) (c + 1) k X = if mm B k ≤ (X (mf B k)).length ∧ (X (mt B k)).length + mm B k ≤ rmN B (mt B k) then runK (rmN B) (mf B) (mt B) (mm B) c (k + 1) (mvd (mf B k) (mt B k) (mm B k) X) else none := rfl
    rw [un]
    rcases d with ⟨d1, d2⟩ | ⟨d1, d2⟩
    · subst d1
      rw [if_pos rfl, f_M_works_j70.eq_1, nmR] at e1
      obtain ⟨a, b⟩ := z9 N e1
      rw [if_neg (fun z => d2 ⟨m0, m3, z.1, z.2⟩)]
      exact ⟨Or.inr ⟨a, fun z => by cases z⟩, X, by rw [b]; exact h⟩
    · subst d1
      rw [if_neg (by decide)] at e1
      replace e1 := (grd_i e1).2
      replace e1 := (grd_i e1).2
      replace e1 := (grd_i e1).2
      rw [h.1.1 51 _ rfl, h.1.1 52 _ rfl, h.1.1 53 _ rfl, m6, m7, m8] at e1
      obtain ⟨S7, g7, e2⟩ := bndv_i e1
      clear e1
      obtain ⟨-, -, c1, c2⟩ := d2
      obtain ⟨⟨w7, f7, x7⟩, n7⟩ := ew_i (shn h.2.1 h.2.2.1 m1 m2 m0 (by rw [lf.2.1]; exact c1) (by rw [lt.2.1]; omega)) g7
      rw [h.2.2.2] at x7
      rw [f_M_works_j70.eq_1, nmR, nI_1] at e2
      rw [if_pos ⟨c1, c2⟩]
      exact wk9 hA hr hG N c (k + 1) _ S7 (by omega) ⟨Fr.tr h.1 f7 rfl, w7, n7, x7⟩ e2
/-! ===== check: prove exactly ===== -/
def OkC (S : SS) (n : Nat) (X : Cf) (y : Nat) : Prop := ¬ S.1 120 (rkC S n (mvX y X)) = -4 ∧ S.1 120 (rkC S n X) - 1 ≤ S.1 120 (rkC S n (mvX y X))
theorem ip14 {S V : SS} {rm : Nat → Nat} {n W : Nat} {X : Cf} {r : Int32} (hB : TBL S rm n W) (hX : Cl S n X) : ∀ (N k : Nat), k ≤ ctB (pS S rm (shC n X)) 80 → (∀ y, y < 80 → mayX rm X y = true → ctB (pS S rm (shC n X)) y < k → OkC S n X y) → f_Potentials_isProved_L14 N (nI (rkC S n X)) (nI (shC n X)) (nI (feN S rm (shC n X) + k)) S = some (r, V) → V = S ∧ ((r = 1 ∧ ∀ y, y < 80 → mayX rm X y = true → OkC S n X y) ∨ (r = 0 ∧ ∃ y, y < 80 ∧ mayX rm X y = true ∧ ¬ OkC S n X y))
  | 0, k, _, _, h => by cases h
  | N + 1, k, hk, hok, h => by
    obtain ⟨hw, ht, hb, he⟩ := id hB
    have hn : n ≤ 5 := by have := hw.1; have := hw.2.1; omega
    have qq := qn hw.1 hw.2.1
    obtain ⟨k1, k2, k3, k4, k5⟩ := rk_lt hn hb hX
    have k3' := k3
    rw [fac_fc hn] at k3'
    have fl := feN_le S rm (shC n X)
    have cl' := ctB_le (pS S rm (shC n X)) 80
    rw [f_Potentials_isProved_L14.eq_2] at h
    replace h := (grd_i h).2
    rw [nI_1, nI_clamp (n := shC n X + 1) (by omega), he.2.1 (shC n X + 1) (by omega), feN_s] at h
    by_cases c : k = ctB (pS S rm (shC n X)) 80
    · rw [if_pos (nI_le (by omega) (by omega))] at h
      obtain ⟨a, b⟩ := so_i h
      exact ⟨b, Or.inl ⟨a, fun y y1 y2 => hok y y1 y2 (by rw [c]; exact ctB_lt (by rw [pS_eq hn ht hX y1]; exact y2) y1)⟩⟩
    · rw [if_neg (nI_ge (by omega) (by omega))] at h
      obtain ⟨y, y1, y2, y3⟩ := ctB_on (p := pS S rm (shC n X)) 80 k (by omega)
      have my : mayX rm X y = true := by rw [← pS_eq hn ht hX y1]; exact y2
      obtain ⟨-, -, -, mv⟩ := mayX_mv y1 my
      have hZ : Cl S n (mvX y X) := cl_mv hX mv
      obtain ⟨z1, z2, z3, -, -⟩ := rk_lt hn hb hZ
      obtain ⟨r5, S4, g5, h1⟩ := bnd_i h
      clear h
      rw [← y3] at g5
      obtain ⟨e1, e2⟩ := raf hw ht hb he hX y1 my g5
      subst e1 e2
      rw [ofe hw z3, bnd_r] at h1
      by_cases d4 : S4.1 120 (rkC S4 n (mvX y X)) = -4
      · rw [if_pos d4] at h1
        obtain ⟨a, b⟩ := so_i h1
        exact ⟨b, Or.inr ⟨a, y, y1, my, fun z => z.1 d4⟩⟩
      · rw [if_neg d4] at h1
        replace h1 := (grd_i h1).2
        rw [nI_clamp (n := rkC S4 n X) (by omega)] at h1
        by_cases d : S4.1 120 (rkC S4 n X) - 1 ≤ S4.1 120 (rkC S4 n (mvX y X))
        · rw [if_pos d, nmR, nI_1] at h1
          refine ip14 hB hX N (k + 1) (by omega) (fun z w1 w2 w3 => ?_) h1
          by_cases e : ctB (pS S4 rm (shC n X)) z < k
          · exact hok z w1 w2 e
          · rw [ctB_inj (p := pS S4 rm (shC n X)) (x := z) (y := y) (by rw [pS_eq hn ht hX w1]; exact w2) y2 (by omega)]
            exact ⟨d4, d⟩
        · rw [if_neg d] at h1
          obtain ⟨a, b⟩ := so_i h1
          exact ⟨b, Or.inr ⟨a, y, y1, my, fun z => d z.2⟩⟩
theorem ipe {S V : SS} {rm : Nat → Nat} {n W : Nat} {X : Cf} {r : Int32} (hB : TBL S rm n W) (hX : Cl S n X) (h : f_Potentials_isProved (nI (rkC S n X)) S = some (r, V)) : V = S ∧ ((r = 1 ∧ ∀ y, y < 80 → mayX rm X y = true → OkC S n X y) ∨ (r = 0 ∧ ∃ y, y < 80 ∧ mayX rm X y = true ∧ ¬ OkC S n X y)) := by
  obtain ⟨hw, ht, hb, he⟩ := id hB
  have hn : n ≤ 5 := by have := hw.1; have := hw.2.1; omega
  have qq := qn hw.1 hw.2.1
  obtain ⟨k1, k2, k3, k4, k5⟩ := rk_lt hn hb hX
  rw [fac_fc hn] at k3
  rw [f_Potentials_isProved.eq_1] at h
  replace h := (grd_i h).2
  rw [nmR, hw.2.2.2.2.1, nI_rem (by omega) (by omega) (by omega), k5] at h
  replace h := (grd_i h).2
  rw [nmR, nI_clamp (by omega), he.2.1 _ (by omega)] at h
  exact ip14 hB hX NF 0 (Nat.zero_le _) (fun y _ _ q => absurd q (Nat.not_lt_zero _)) h
/-- all that prove looks at -/
def PvC (S : SS) (rm : Nat → Nat) (n : Nat) : Prop := ∀ X, Cl S n X → ¬ S.1 120 (rkC S n X) = -4 → ∀ y, y < 80 → mayX rm X y = true → OkC S n X y
theorem pv7 {S V : SS} {rm : Nat → Nat} {n W : Nat} {r : Int32} (hB : TBL S rm n W) : ∀ (N k : Nat), k ≤ facN n * shN n → (∀ X, Cl S n X → rkC S n X < k → ¬ S.1 120 (rkC S n X) = -4 → ∀ y, y < 80 → mayX rm X y = true → OkC S n X y) → f_Potentials_prove_Plans_rooms_L7 N (nI k) S = some (r, V) → V = S ∧ ((r = 1 ∧ PvC S rm n) ∨ (r = 0 ∧ ¬ PvC S rm n))
  | 0, k, _, _, h => by cases h
  | N + 1, k, hk, hok, h => by
    obtain ⟨hw, ht, hb, he⟩ := id hB
    have hn : n ≤ 5 := by have := hw.1; have := hw.2.1; omega
    have qq := qn hw.1 hw.2.1
    have f5 := fac_fc hn
    have hk' := hk
    rw [f5] at hk'
    rw [f_Potentials_prove_Plans_rooms_L7.eq_2, hw.2.2.2.1, hw.2.2.2.2.1, nI_mul] at h
    by_cases c : k = fcN n * shN n
    · rw [if_pos (nI_le (by omega) (by omega))] at h
      obtain ⟨a, b⟩ := so_i h
      exact ⟨b, Or.inl ⟨a, fun X hX => hok X hX (by rw [c, ← f5]; exact (rk_lt hn hb hX).2.2.1)⟩⟩
    · rw [if_neg (nI_ge (by omega) (by omega))] at h
      replace h := (grd_i h).2
      rw [nI_clamp (n := k) (by omega)] at h
      obtain ⟨X, hX, eX⟩ := rk_on hn hb (show k < facN n * shN n by rw [f5]; omega)
      have next : (¬ S.1 120 k = -4 → ∀ y, y < 80 → mayX rm X y = true → OkC S n X y) → f_Potentials_prove_Plans_rooms_j41 (fun v0 S => f_Potentials_prove_Plans_rooms_L7 N v0 S) (nI k) S = some (r, V) → V = S ∧ ((r = 1 ∧ PvC S rm n) ∨ (r = 0 ∧ ¬ PvC S rm n)) := fun o h => by
        rw [f_Potentials_prove_Plans_rooms_j41.eq_1, nmR, nI_1] at h
        refine pv7 hB N (k + 1) (by rw [f5]; omega) (fun Y hY ky q => ?_) h
        by_cases e : rkC S n Y = k
        · have : Y = X := rk_inj hn hb hY hX (by rw [e, eX])
          subst this
          rw [eX] at q
          exact o q
        · exact hok Y hY (by omega) q
      by_cases c4 : S.1 120 k = -4
      · rw [if_pos c4] at h
        exact next (fun z => absurd c4 z) h
      · rw [if_neg c4] at h
        obtain ⟨r4, S3, g, h1⟩ := bnd_i h
        clear h
        rw [← eX] at g
        obtain ⟨e, d⟩ := ipe hB hX g
        subst e
        rcases d with ⟨d1, d2⟩ | ⟨d1, y, y1, y2, y3⟩
        · subst d1
          rw [if_neg (by decide)] at h1
          exact next (fun _ => d2) h1
        · subst d1
          rw [if_pos rfl] at h1
          obtain ⟨a, b⟩ := so_i h1
          exact ⟨b, Or.inr ⟨a, fun P => y3 (P X hX (by rw [eX]; exact c4) y y1 y2)⟩⟩
theorem pve {S V : SS} {rm : Nat → Nat} {n W : Nat} {r : Int32} (hw : QW S n W) (hE : QE S n (shN n)) (ht : TB S n) (hb : NB S n) (hr : ∀ t, t < 4 → S.1 106 t = nI (rm t) ∧ rm t ≤ 10) (h : f_Potentials_prove_Plans_rooms S = some (r, V)) : (r = 1 ∧ PvC S rm n) ∨ (r = 0 ∧ ¬ PvC S rm n) := by
  rw [f_Potentials_prove_Plans_rooms.eq_1] at h
  obtain ⟨S1, g, h1⟩ := bndv_i h
  clear h
  have E := lex_e hw hE hr g
  have o := E.1.1
  have o9 := o 109 (by decide) (by decide) (by decide) (by decide)
  have o120 := o 120 (by decide) (by decide) (by decide) (by decide)
  have o71 := o 71 (by decide) (by decide) (by decide) (by decide)
  have hB : TBL S1 rm n W := ⟨hw.of E.1.2 (by rw [o71]) (by rw [o71]) (by rw [o71]), ht.cg (o 113 (by decide) (by decide) (by decide) (by decide)) (o 114 (by decide) (by decide) (by decide) (by decide)) (o 115 (by decide) (by decide) (by decide) (by decide)), hb.cg o9, E.to (o 113 (by decide) (by decide) (by decide) (by decide)) (o 114 (by decide) (by decide) (by decide) (by decide)) rfl rfl rfl rfl E.1.2⟩
  have pe : PvC S1 rm n ↔ PvC S rm n := by
    have ok : ∀ X y, OkC S1 n X y ↔ OkC S n X y := fun X y => by
      unfold OkC
      rw [rk_cg o9, rk_cg o9, o120]
    constructor
    · intro P X hX q y y1 y2
      exact (ok X y).mp (P X (hX.cg o9) (by rw [rk_cg o9, o120]; exact q) y y1 y2)
    · intro P X hX q y y1 y2
      rw [rk_cg o9, o120] at q
      exact (ok X y).mpr (P X (hX.cg o9.symm) q y y1 y2)
  obtain ⟨-, d⟩ := pv7 hB NF 0 (Nat.zero_le _) (fun X _ q => absurd q (Nat.not_lt_zero _)) h1
  rw [pe] at d
  exact d
/-! ===== check: proves exactly ===== -/
def OkR (B : SS) (n : Nat) (X : Cf) (y : Nat) : Prop := ¬ B.1 55 (cdX B n (mvX y X)) < 0 ∧ ¬ B.1 55 (cdX B n (mvX y X)) < B.1 55 (cdX B n X) - 1
theorem z97 {K : Int32 → Int32 → SS → Option (Int32 × SS)} {T : SS} {c x : Int32} {z : Int32 × SS} : ∀ N, f_M_proves_L97 K N 0 c x T = some z → K 0 (c + 1) T = some z
  | 0, e => by cases e
  | N + 1, e => by
    rw [f_M_proves_L97.eq_2] at e
    by_cases q : (80 : Int32) ≤ x
    · rw [if_pos q, f_M_proves_j214.eq_1, nmR] at e
      exact e
    · rw [if_neg q, if_pos rfl, f_M_proves_j214.eq_1, nmR] at e
      exact e
theorem z63 {T V : SS} {r c : Int32} : ∀ N, f_M_proves_L63 N 0 c T = some (r, V) → r = 0 ∧ V = T
  | 0, e => by cases e
  | N + 1, e => by
    rw [f_M_proves_L63.eq_2] at e
    by_cases q : (25920 : Int32) ≤ c
    · rw [if_pos q] at e
      exact so_i (grd_i e).2
    · rw [if_neg q, if_pos rfl] at e
      exact so_i (grd_i e).2
set_option maxHeartbeats 1000000 in
theorem pr97 {B V : SS} {M : Nat} {n : Nat} {X : Cf} {r : Int32} (hp : PW B n) (hX : Cw B n X) : ∀ (N x : Nat) (T : SS), WR T → PF B T → NN T → cfS T = X → x ≤ 80 → (∀ y, y < x → mayX (rmN B) X y = true → OkR B n X y) → f_M_proves_L97 (fun v0 v1 S => f_M_proves_L63 M v0 v1 S) N 1 (nI (cdX B n X)) (nI x) T = some (r, V) → (r = 0 ∧ ∃ y, y < 80 ∧ mayX (rmN B) X y = true ∧ ¬ OkR B n X y) ∨ ((∀ y, y < 80 → mayX (rmN B) X y = true → OkR B n X y) ∧ ∃ T', WR T' ∧ PF B T' ∧ f_M_proves_L63 M 1 (nI (cdX B n X + 1)) T' = some (r, V))
  | 0, x, T, _, _, _, _, _, _, e => by cases e
  | N + 1, x, T, hW, hF, hN, hC, hx, hok, e => by
    have hc := (cd_v hp hX.1).2
    rw [f_M_proves_L97.eq_2] at e
    by_cases c8 : x = 80
    · subst c8
      rw [if_pos (by decide), f_M_proves_j214.eq_1, nmR, nI_1] at e
      exact Or.inr ⟨hok, T, hW, hF, e⟩
    · have hx8 : x < 80 := by omega
      rw [if_neg (k_ge (k := 80) 80 rfl hx8 (by omega)), if_neg (by decide), x_20 hx8, x_4 hx8, x_5 hx8, nmR, nmR, nmR] at e
      have ha : x / 20 < 4 := by omega
      have hb : x / 5 % 4 < 4 := by omega
      have la : mN T (x / 20) = (X (x / 20)).length := by rw [← hC, cfS_len ha]
      have lb : mN T (x / 5 % 4) = (X (x / 5 % 4)).length := by rw [← hC, cfS_len hb]
      have rt : rmN T (x / 5 % 4) = rmN B (x / 5 % 4) := by unfold rmN; rw [hF.1 46 _ rfl]
      have ext : (mayX (rmN B) X x = true → OkR B n X x) → ∀ y, y < x + 1 → mayX (rmN B) X y = true → OkR B n X y := fun o y hy q => by
        by_cases c : y = x
        · subst c; exact o q
        · exact hok y (by omega) q
      obtain ⟨r13, S12, g13, e1⟩ := bnd_i e
      clear e
      obtain ⟨rfl, d⟩ := ex_i (mmx hW ha hb (by omega)) g13
      rw [la, lb, rt] at d
      rcases d with ⟨d1, d2⟩ | ⟨d1, hab, q1, q2, q3⟩
      · subst d1
        rw [if_pos rfl, f_M_proves_j208.eq_1, nmR, nI_1] at e1
        exact pr97 hp hX N (x + 1) S12 hW hF hN hC (by omega) (ext (fun q => by
          obtain ⟨m1, m2, m3, -⟩ := mayX_mv hx8 q
          exact absurd ⟨m1, by omega, m2, m3⟩ d2)) e1
      · subst d1
        rw [if_neg (by decide)] at e1
        have my : mayX (rmN B) X x = true := (mvn_may ⟨hab, q2, q3, rfl⟩).1
        have r10 := (rmN_le hW (x / 5 % 4)).1
        rw [rt] at r10
        have hZ : Cw B n (mvX x X) := cw_mv hX ha hb hab q1 q2 (by omega)
        obtain ⟨T2, g2', e2⟩ := bndv_i e1
        clear e1
        obtain ⟨⟨w2, g2, c2⟩, n2⟩ := ew_i (shn hW hN ha hb hab (by omega) (by omega)) g2'
        rw [hC] at c2
        have f2 : PF B T2 := Fr.tr hF g2 rfl
        obtain ⟨r3, T3, g3', e3⟩ := bnd_i e2
        clear e2
        obtain ⟨w3, g3, x3⟩ := ex_i (cdx' hp hZ.1 f2.sm w2 n2 c2) g3'
        subst x3
        have f3 : PF B T3 := Fr.tr f2 g3 rfl
        have n3 := nn_cg n2 (fun i => g3.1 57 i rfl) (fun s => g3.1 58 s rfl)
        have c3 : cfS T3 = mvX x X := (cf_cg (fun i => g3.1 57 i rfl) (fun s => g3.1 58 s rfl)).trans c2
        have z1 : (mvX x X (x / 5 % 4)).length = (X (x / 5 % 4)).length + (x % 5 + 1) := by
          show (mvd (x / 20) (x / 5 % 4) (x % 5 + 1) X (x / 5 % 4)).length = _
          rw [mvd_len hab q2, if_neg (Ne.symm hab), if_pos rfl]
        have z2 : (mvX x X (x / 20)).length = (X (x / 20)).length - (x % 5 + 1) := by
          show (mvd (x / 20) (x / 5 % 4) (x % 5 + 1) X (x / 20)).length = _
          rw [mvd_len hab q2, if_pos rfl]
        have y1 : mN T3 (x / 5 % 4) = (mvX x X (x / 5 % 4)).length := by rw [← c3, cfS_len hb]
        have y2 : mN T3 (x / 20) = (mvX x X (x / 20)).length := by rw [← c3, cfS_len ha]
        have l10 : (X (x / 20)).length ≤ 10 := by rw [← la]; exact (mN_le hW _).1
        obtain ⟨T4, g4', e4⟩ := bndv_i e3
        clear e3
        obtain ⟨⟨w4, g4, c4⟩, n4⟩ := ew_i (shn w3 n3 hb ha (Ne.symm hab) (n := x % 5 + 1) (by omega) (by omega)) g4'
        have c4 : cfS T4 = X := by
          rw [c4, c3]
          exact mvd_rev hab q2
        have f4 : PF B T4 := Fr.tr f3 g4 rfl
        have hv := (cd_v hp hZ.1).2
        replace e4 := (grd_i e4).2
        rw [nI_clamp (n := cdX B n (mvX x X)) (by omega), nI_clamp (n := cdX B n X) (by omega), f4.1 55 _ rfl, f4.1 55 _ rfl] at e4
        have bad : ¬ OkR B n X x → f_M_proves_j206 (fun v0 v1 v2 S => f_M_proves_L97 (fun v0 v1 S => f_M_proves_L63 M v0 v1 S) N v0 v1 v2 S) (nI (cdX B n X)) (nI x) T4 = some (r, V) → (r = 0 ∧ ∃ y, y < 80 ∧ mayX (rmN B) X y = true ∧ ¬ OkR B n X y) := fun no e => by
          rw [f_M_proves_j206.eq_1, f_M_proves_j207.eq_1, f_M_proves_j208.eq_1, nmR] at e
          exact ⟨(z63 M (z97 N e)).1, x, hx8, my, no⟩
        by_cases d1 : B.1 55 (cdX B n (mvX x X)) < 0
        · rw [if_pos d1] at e4
          exact Or.inl (bad (fun z => z.1 d1) e4)
        · rw [if_neg d1] at e4
          replace e4 := (grd_i e4).2
          replace e4 := (grd_i e4).2
          by_cases d2 : B.1 55 (cdX B n (mvX x X)) < B.1 55 (cdX B n X) - 1
          · rw [if_pos d2] at e4
            exact Or.inl (bad (fun z => z.2 d2) e4)
          · rw [if_neg d2, f_M_proves_j207.eq_1, f_M_proves_j208.eq_1, nmR, nI_1] at e4
            exact pr97 hp hX N (x + 1) T4 w4 f4 n4 c4 (by omega) (ext (fun _ => ⟨d1, d2⟩)) e4
/-- all that proves looks at -/
def PvR (B : SS) (n : Nat) : Prop := ∀ X, Cw B n X → 0 ≤ B.1 55 (cdX B n X) → ∀ y, y < 80 → mayX (rmN B) X y = true → OkR B n X y
theorem pr63 {B V : SS} {n : Nat} {r : Int32} (hp : PW B n) (hB : ∀ c, c < 25920 → 0 ≤ B.1 55 c → ∃ X, Cw B n X ∧ cdX B n X = c) (wB : WR B) : ∀ (N c : Nat) (T : SS), WR T → PF B T → c ≤ 25920 → (∀ X, Cw B n X → cdX B n X < c → 0 ≤ B.1 55 (cdX B n X) → ∀ y, y < 80 → mayX (rmN B) X y = true → OkR B n X y) → f_M_proves_L63 N 1 (nI c) T = some (r, V) → (r = 1 ∧ PvR B n) ∨ (r = 0 ∧ ¬ PvR B n)
  | 0, c, T, _, _, _, _, e => by cases e
  | N + 1, c, T, hW, hF, hc, hok, e => by
    rw [f_M_proves_L63.eq_2] at e
    by_cases cc : c = 25920
    · subst cc
      rw [if_pos (by decide)] at e
      obtain ⟨a, b⟩ := so_i (grd_i e).2
      exact Or.inl ⟨a, fun X hX => hok X hX (cd_v hp hX.1).2⟩
    · have hc2 : c < 25920 := by omega
      rw [if_neg (k_ge (k := 25920) 25920 rfl hc2 (by omega)), if_neg (by decide)] at e
      replace e := (grd_i e).2
      rw [nI_clamp (n := c) (by omega), hF.1 55 c rfl] at e
      by_cases q : 0 ≤ B.1 55 c
      · rw [if_pos q] at e
        obtain ⟨X, x1, x2⟩ := hB c hc2 q
        subst x2
        obtain ⟨T1, g1', e1⟩ := bndv_i e
        clear e
        obtain ⟨w1, g1, n1, c1⟩ := ew_i (dcw hp x1 hF.sm hW) g1'
        rcases pr97 hp x1 NF 0 T1 w1 (Fr.tr hF g1 rfl) n1 c1 (by omega) (fun y hy => absurd hy (Nat.not_lt_zero _)) e1 with ⟨a, y, y1, y2, y3⟩ | ⟨a, T', b1, b2, e2⟩
        · exact Or.inr ⟨a, fun P => y3 (P X x1 q y y1 y2)⟩
        · refine pr63 hp hB wB N (cdX B n X + 1) T' b1 b2 (by omega) (fun Y hY hy qY => ?_) e2
          by_cases d : cdX B n Y = cdX B n X
          · have : Y = X := cdw_inj wB hp hY x1 d
            subst this
            exact a
          · exact hok Y hY (by omega) qY
      · rw [if_neg q, f_M_proves_j214.eq_1, nmR, nI_1] at e
        refine pr63 hp hB wB N (c + 1) T hW hF (by omega) (fun Y hY hy qY => ?_) e
        by_cases d : cdX B n Y = c
        · rw [d] at qY
          exact absurd qY q
        · exact hok Y hY (by omega) qY
/-- what proves answers -/
def PVS (B : SS) (n l : Nat) : Prop := Cw B n (cfr B) ∧ Cw B n (cfq B) ∧ B.1 55 (cdX B n (cfr B)) = 0 ∧ B.1 55 (cdX B n (cfq B)) = nI l ∧ PvR B n
set_option maxHeartbeats 1000000 in
theorem pre {S V : SS} {n l : Nat} {r : Int32} (hW : WR S) (hP : PL S) (hp : PW S n) (h77 : S.1 0 77 = nI l) (hB : ∀ c, c < 25920 → 0 ≤ S.1 55 c → ∃ X, Cw S n X ∧ cdX S n X = c) (e : f_M_proves S = some (r, V)) : (r = 1 ∧ PVS S n l) ∨ (r = 0 ∧ ¬ PVS S n l) := by
  have n5 := hp.1.2.1
  rw [f_M_proves.eq_1] at e
  obtain ⟨T1, g1', e1⟩ := bndv_i e
  clear e
  obtain ⟨w1, g1, t1⟩ := ew_i (tkx (x1 := 1) hW) g1'
  have t1 : tkP S T1 1 := t1
  have x1 : cfS T1 = cfr S := tk_cf (S := S) (x := 1) (by decide) (fun i => ro_49 hW i) t1
  have sm1 : Sm S T1 := ⟨g1.1 0 81 rfl, fun j => g1.1 54 j rfl⟩
  have nn1 := tk_NN hW t1
  obtain ⟨r3, T2, g2', e2⟩ := bnd_i e1
  clear e1
  obtain ⟨w2, g2, -⟩ := ex_i (cog w1 ((g1.1 0 81 rfl).trans hp.1.1) n5) g2'
  obtain ⟨T3, g3', e3⟩ := bndv_i e2
  clear e2
  obtain ⟨w3, g3, t3⟩ := ew_i (tkx (x1 := 0) w2) g3'
  have t3 : tkP T2 T3 0 := t3
  have x3 : cfS T3 = cfq S := by
    rw [tk_cf (S := T2) (x := 0) (by decide) (fun i => ro_47 w2 i) t3]
    show cfS (gX T2 48 47) = cfS (gX S 48 47)
    refine gX_cg (by decide) (fun i => ro_47 hW i) ?_ ?_
    · exact funext fun i => by rw [g2.1 48 i rfl, g1.1 48 i rfl]
    · exact funext fun i => by rw [g2.1 47 i rfl, g1.1 47 i rfl]
  have sm3 : Sm S T3 := ⟨by rw [g3.1 0 81 rfl, g2.1 0 81 rfl, g1.1 0 81 rfl], fun j => by rw [g3.1 54 j rfl, g2.1 54 j rfl, g1.1 54 j rfl]⟩
  have nn3 := tk_NN w2 t3
  obtain ⟨r6, T4, g4', e4⟩ := bnd_i e3
  clear e3
  obtain ⟨w4, g4, -⟩ := ex_i (cog w3 (by rw [sm3.1]; exact hp.1.1) n5) g4'
  have F4 : PF S T4 := Fr.tr (Fr.tr (Fr.tr (Fr.tr Fr.rf g1 rfl) g2 rfl) g3 rfl) g4 rfl
  have dwG : (Flat (cfr S)).Nodup := (gX_fl hW (by decide) (fun i => ro_49 hW i) (fun i => ro_50 hW i) hP.2.2).1
  have dwT : (Flat (cfq S)).Nodup := (gX_fl hW (by decide) (fun i => ro_47 hW i) (fun i => ro_48 hW i) hP.2.1).1
  have pos : ∀ (T T' : SS) (X : Cf) (r : Int32), WR T → NN T → cfS T = X → Sm S T → (Flat X).Nodup → f_M_code T = some (r, T') → (r = -4 ∧ ¬ Cw S n X) ∨ (Cw S n X ∧ r = nI (cdX S n X)) := fun T T' X r wT nT eX sT nd g => by
    by_cases c : Cw S n X
    · right
      obtain ⟨-, -, q⟩ := ex_i (cdx' hp c.1 sT wT nT eX) g
      exact ⟨c, q⟩
    · left
      refine ⟨Classical.byContradiction fun q => ?_, c⟩
      obtain ⟨a, b⟩ := cd_n wT nT (by rw [sT.1]; exact hp.1.1) n5 q g
      rw [eX] at a b
      refine c ⟨⟨a, fun w => List.nodup_iff_count.mp nd w, fun w hw => ?_⟩, T, wT, nT, eX, sT⟩
      obtain ⟨b1, k, b2, b3⟩ := b w (List.count_pos_iff.mp hw)
      exact ⟨b1, k, b2, by rw [← sT.2]; exact b3⟩
  have j58 : f_M_proves_j58 T4 = some (r, V) → r = 0 := fun e => by
    rw [f_M_proves_j58.eq_1, f_M_proves_j59.eq_1] at e
    exact (z63 NF e).1
  rcases pos T1 T2 _ r3 w1 nn1 x1 sm1 dwG g2' with ⟨q1, q2⟩ | ⟨q1, q2⟩
  · rw [if_pos q1] at e4
    exact Or.inr ⟨j58 e4, fun z => q2 z.1⟩
  · have v1 := (cd_v hp q1.1).2
    rw [q2, if_neg (nI_m4 (by omega))] at e4
    rcases pos T3 T4 _ r6 w3 nn3 x3 sm3 dwT g4' with ⟨p1, p2⟩ | ⟨p1, p2⟩
    · rw [if_pos p1] at e4
      exact Or.inr ⟨j58 e4, fun z => p2 z.2.1⟩
    · have v2 := (cd_v hp p1.1).2
      rw [p2, if_neg (nI_m4 (by omega))] at e4
      replace e4 := (grd_i e4).2
      rw [nI_clamp (n := cdX S n (cfr S)) (by omega), F4.1 55 _ rfl] at e4
      by_cases c0 : S.1 55 (cdX S n (cfr S)) = 0
      · rw [if_pos c0] at e4
        replace e4 := (grd_i e4).2
        rw [nI_clamp (n := cdX S n (cfq S)) (by omega), F4.1 55 _ rfl, F4.1 0 77 rfl, h77] at e4
        by_cases c1 : S.1 55 (cdX S n (cfq S)) = nI l
        · rw [if_pos c1, f_M_proves_j59.eq_1] at e4
          rcases pr63 hp hB hW NF 0 T4 w4 F4 (by omega) (fun X _ q => absurd q (Nat.not_lt_zero _)) e4 with ⟨a, b⟩ | ⟨a, b⟩
          · exact Or.inl ⟨a, q1, p1, c0, c1, b⟩
          · exact Or.inr ⟨a, fun z => b z.2.2.2.2⟩
        · rw [if_neg c1] at e4
          exact Or.inr ⟨j58 e4, fun z => c1 z.2.2.2.1⟩
      · rw [if_neg c0] at e4
        exact Or.inr ⟨j58 e4, fun z => c0 z.2.2.1⟩
/-! ===== check alike ===== -/
theorem gk_of {S : SS} {o h : Nat} (h5 : h ≠ 57) (hh : ∀ i, rg (S.1 h i) 0 10) (h9 : ∀ i, rg (S.1 o i) 0 9) : GK S o h (cfS (gX S o h)) := by
  obtain ⟨a, b⟩ := gX_at (S := S) (o := o) (h := h) h5 hh h9
  exact ⟨a, b, fun v hv => gX_lt h5 hh h9 hv, fun s hs => cfS_far _ hs⟩
theorem ld_c {S V : SS} {rm : Nat → Nat} {l : Nat} {r : Int32} (hA : PkA S l) (hr : Rm S rm) (hh : ∀ i, rg (S.1 125 i) 0 10) (hh' : ∀ i, rg (S.1 123 i) 0 10) (h9 : ∀ i, rg (S.1 124 i) 0 9) (h9' : ∀ i, rg (S.1 122 i) 0 9) (e : f_Plans_leadsToGoal S = some (r, V)) : LdR (runK rm (mf S) (mt S) (mm S) l 0 (cfT S)) (cfG S) r := by
  rw [f_Plans_leadsToGoal.eq_1] at e
  obtain ⟨S2, g2, e2⟩ := bndv_i e
  clear e
  rw [f_Stacks_become_work_start.eq_1] at g2
  replace g2 := (grd_i g2).2
  have cpr : ∀ (S : SS) (k0 k1 x y n : Nat) (g : SS → Option SS), cpw S k0 k1 x y n g = g (cp S k0 k1 x y n) := fun _ _ _ _ _ _ _ => rfl
  rw [cpr] at g2
  replace g2 := (grd_i g2).2
  rw [cpr, show (0 : Int32).toNatClampNeg = 0 from rfl, show (Int32.ofNat 40).toNatClampNeg = 40 from by decide, show (Int32.ofNat 4).toNatClampNeg = 4 from by decide] at g2
  have g2' : some (cp (cp S 122 126 0 0 40) 123 127 0 0 4) = some S2 := g2
  injection g2' with g2'
  have s2 : ∀ q, q ≠ 126 → q ≠ 127 → S2.1 q = S.1 q := fun q x y => by rw [← g2', cpx_row _ _ _ _ _ _ y, cpx_row _ _ _ _ _ _ x]
  obtain ⟨x1, x2⟩ := gX_at (S := S) (o := 122) (h := 123) (by decide) hh' h9'
  have wk : WK S S2 (cfT S) := by
    refine ⟨s2, fun s hs => ?_, fun s i w hs q => ?_⟩
    · obtain ⟨z1, z2⟩ := x1 s hs
      refine ⟨?_, z2⟩
      rw [← g2', cp_v rfl s, if_pos ⟨by omega, by omega⟩, cpx_row _ _ _ _ _ _ (by decide), show 0 + (s - 0) = s by omega]
      exact z1
    · have il : i < (cfT S s).length := by
        rcases Nat.lt_or_ge i (cfT S s).length with c | c
        · exact c
        · rw [List.getElem?_eq_none c] at q; cases q
      have : (cfT S s).length ≤ 10 := (x1 s hs).2
      rw [← g2', cpx_row _ _ _ _ _ _ (by decide), cp_v rfl (10 * s + i), if_pos ⟨by omega, by omega⟩, show 0 + (10 * s + i - 0) = 10 * s + i by omega]
      exact x2 s i w hs q
  exact (ld13 hA hr (gk_of (by decide) hh h9) NF l 0 (cfT S) S2 (by omega) wk (fun v hv => gX_lt (by decide) hh' h9' hv) (fun s hs => cfS_far _ hs) e2).1
theorem wk_r {S V : SS} {l : Nat} {r : Int32} (hW : WR S) (hA : PkA S l) (e : f_M_works S = some (r, V)) : LdR (runK (rmN S) (mf S) (mt S) (mm S) l 0 (cfq S)) (cfr S) r := by
  rw [f_M_works.eq_1] at e
  obtain ⟨T, g, e2⟩ := bndv_i e
  clear e
  obtain ⟨w2, g2, h2⟩ := ew_i (tkx (x1 := 0) hW) g
  have h2 : tkP S T 0 := h2
  have ec : cfS T = cfq S := tk_cf (S := S) (x := 0) (by decide) (fun i => ro_47 hW i) h2
  exact (wk9 hA (fun s => (rmN_le hW s).1) (gk_of (by decide) (fun i => ro_49 hW i) (fun i => ro_50 hW i)) NF l 0 (cfq S) T (by omega) ⟨g2, w2, tk_NN hW h2, ec⟩ e2).1
/-- what the class's check asks of POTENTIALS -/
def PCC (S : SS) (rm : Nat → Nat) (n l : Nat) : Prop := Cl S n (cfG S) ∧ Cl S n (cfT S) ∧ S.1 120 (rkC S n (cfG S)) = 0 ∧ S.1 120 (rkC S n (cfT S)) = nI l ∧ PvC S rm n
theorem pcc_pvs {S V : SS} {rm : Nat → Nat} {n l : Nat} (hW : WR S) (hn : n ≤ 5) (hs : SN S n) (hl : AL S n) (sm : Sm S V) (e55 : V.1 55 = S.1 55) (rmE : rmN V = rm) (eG : cfr V = cfG S) (eT : cfq V = cfT S) (ll : l < 2 ^ 31) : PCC S rm n l ↔ PVS V n l := by
  have smr : Sm V S := ⟨sm.1.symm, fun j => (sm.2 j).symm⟩
  have cc : ∀ X, Cl S n X ↔ Cw V n X := fun X => ⟨fun h => (cw_of hW hn (cx_cl hs h) h.2.2.2).rb sm, fun h => cl_cx hs (h.rb smr)⟩
  have cd : ∀ X, cdX V n X = cdX S n X := fun X => sm.cd
  have val : ∀ X, Cl S n X → ∀ u, u < 2 ^ 31 → (S.1 120 (rkC S n X) = nI u ↔ V.1 55 (cdX V n X) = nI u) := fun X hX u hu => by
    rw [cd, e55]
    rcases hl X hX with ⟨a, b⟩ | ⟨v, -, a, b⟩
    · rw [a, b]
      constructor
      · intro z; exact absurd z.symm (nI_m4 hu)
      · intro z
        have := congrArg Int32.toInt z
        rw [nI_ti hu] at this
        have m1 : (-1 : Int32).toInt = -1 := by decide
        omega
    · rw [a, b]
  have pv : PvC S rm n ↔ PvR V n := by
    have ok : ∀ X y, Cl S n X → (¬ S.1 120 (rkC S n X) = -4) → y < 80 → mayX rm X y = true → (OkC S n X y ↔ OkR V n X y) := fun X y hX q y1 y2 => by
      have hZ : Cl S n (mvX y X) := cl_mv hX (mayX_mv y1 y2).2.2.2
      unfold OkC OkR
      rw [cd, cd, e55]
      obtain ⟨v, v1, v2, v3⟩ := (hl X hX).resolve_left (fun z => q z.1)
      rw [v2, v3]
      rcases hl _ hZ with ⟨a, b⟩ | ⟨u, u1, a, b⟩
      · rw [a, b]
        exact ⟨fun z => absurd rfl z.1, fun z => absurd (by decide) z.1⟩
      · rw [a, b]
        refine ⟨fun z => ⟨nI_nn u1, fun w => ?_⟩, fun z => ⟨nI_m4 u1, ?_⟩⟩
        · have z2 := z.2
          rw [Int32.le_iff_toInt_le] at z2
          rw [Int32.lt_iff_toInt_lt] at w
          omega
        · have z2 := z.2
          rw [Int32.lt_iff_toInt_lt] at z2
          rw [Int32.le_iff_toInt_le]
          omega
    have pos : ∀ X, Cl S n X → (¬ S.1 120 (rkC S n X) = -4 ↔ 0 ≤ V.1 55 (cdX V n X)) := fun X hX => by
      rw [cd, e55]
      rcases hl X hX with ⟨a, b⟩ | ⟨v, v1, a, b⟩
      · rw [a, b]
        exact ⟨fun z => absurd rfl z, fun z => absurd z (by decide)⟩
      · rw [a, b]
        refine ⟨fun _ => ?_, fun _ => nI_m4 v1⟩
        exact k_le (k := 0) 0 rfl (Nat.zero_le _) v1
    constructor
    · intro P X hX q y y1 y2
      rw [rmE] at y2
      have hX' := (cc X).mpr hX
      have q' := (pos X hX').mpr q
      exact (ok X y hX' q' y1 y2).mp (P X hX' q' y y1 y2)
    · intro P X hX q y y1 y2
      exact (ok X y hX q y1 y2).mpr (P X ((cc X).mp hX) ((pos X hX).mp q) y y1 (by rw [rmE]; exact y2))
  unfold PCC PVS
  rw [eG, eT, pv]
  constructor
  · rintro ⟨a, b, c, d, e⟩
    exact ⟨(cc _).mp a, (cc _).mp b, (val _ a 0 (by omega)).mp c, (val _ b l ll).mp d, e⟩
  · rintro ⟨a, b, c, d, e⟩
    exact ⟨(cc _).mpr a, (cc _).mpr b, (val _ ((cc _).mpr a) 0 (by omega)).mpr c, (val _ ((cc _).mpr b) l ll).mpr d, e⟩
set_option maxHeartbeats 1000000 in
theorem hol_c {S V : SS} {rm : Nat → Nat} {G l n : Nat} {r : Int32} (hW : WR S) (hC : CQ S G) (hA : PkA S l) (hr : Rm S rm) (h9 : ∀ i, rg (S.1 124 i) 0 9) (h9' : ∀ i, rg (S.1 122 i) 0 9) (hD : DW (S.1 125) (S.1 124)) (hD' : DW (S.1 123) (S.1 122)) (hT : TT S) (h8 : S.1 70 8 = 1) (n5 : n ≤ 5) (q1 : S.1 71 5 = nI n) (q2 : ¬ S.1 71 7 ≤ 0) (hb : NB S n) (ld : Prop) (e : f_Plans_holds S = some (r, V)) (hld : ld ↔ runK rm (mf S) (mt S) (mm S) l 0 (cfT S) = some (cfG S)) : (r = 1 ∧ ld ∧ PCC S rm n l) ∨ (r = 0 ∧ ¬ (ld ∧ PCC S rm n l)) := by
  have hh : ∀ i, rg (S.1 125 i) 0 10 := ro_125 hW
  have hh' : ∀ i, rg (S.1 123 i) 0 10 := ro_123 hW
  rw [f_Plans_holds.eq_1, if_neg (by rw [h8]; decide)] at e
  obtain ⟨r2, S1, g1, e1⟩ := bnd_i e
  clear e
  have L := ld_c hA hr hh hh' h9 h9' g1
  obtain ⟨w1, f1, -⟩ := ex_i (t_Plans_leadsToGoal hW) g1
  rcases L with ⟨a, b⟩ | ⟨a, b⟩
  · subst a
    have hl : ld := hld.mpr b
    rw [if_neg (by decide), f1.1 70 8 rfl, h8, if_neg (by decide)] at e1
    have C1 : CQ S1 G := hC.fr f1 (fun k hk i => by
      simp only [List.mem_cons, List.mem_nil_iff, or_false] at hk
      rcases hk with rfl | rfl | rfl | rfl | rfl | rfl <;> rfl) (fun i => rfl) ⟨rfl, rfl, rfl⟩
    have o1 : ∀ q, q ≠ 126 → q ≠ 127 → S1.1 q = S.1 q := fun q x y => frow f1.1 q (fun b => by
      unfold wm
      rw [List.any_eq_false.mpr]
      · rfl
      · intro m hm z
        have := Nat.eq_of_beq_eq_true z
        have : m = 126 ∨ m = 127 := by simpa using hm
        omega)
    obtain ⟨W, hw, hE⟩ := C1.qw n5 (by rw [o1 71 (by decide) (by decide)]; exact q1) (by rw [o1 71 (by decide) (by decide)]; exact q2)
    have ht : TB S n := hT n n5 q1 q2
    have ht1 : TB S1 n := ht.cg (o1 113 (by decide) (by decide)) (o1 114 (by decide) (by decide)) (o1 115 (by decide) (by decide))
    have hb1 : NB S1 n := hb.cg (o1 109 (by decide) (by decide))
    have cG1 : cfG S1 = cfG S := gX_cg (by decide) hh (o1 124 (by decide) (by decide)) (o1 125 (by decide) (by decide))
    have ndG := (gX_fl hW (by decide) hh h9 hD).1
    have ndT := (gX_fl hW (by decide) hh' h9' hD').1
    obtain ⟨r4, S3, g4, e2⟩ := bnd_i e1
    clear e1
    obtain ⟨w3, f3, r3'⟩ := ex_i (rkx_goal w1 hw.qa C1.1) g4
    obtain ⟨y1, y2⟩ := ro_goal w1 hw ht1 hb1 (by rw [o1 124 (by decide) (by decide)]; exact h9) (by rw [cG1]; exact ndG) g4
    rw [cG1] at y2
    have hw3 : QW S3 n W := hw.of f3.2 (f3.1 71 5 rfl) (f3.1 71 6 rfl) (f3.1 71 7 rfl)
    have o3 : ∀ q, q ≠ 126 → q ≠ 127 → q ≠ 110 → q ≠ 112 → S3.1 q = S.1 q := fun q a b c d => by rw [y1 q c d, o1 q a b]
    have e9 : S1.1 109 = S.1 109 := o1 109 (by decide) (by decide)
    rcases y2 with ⟨z1, z2⟩ | ⟨z1, z2⟩
    · rw [z1, ofn hw3, bnd_r, if_neg (by decide)] at e2
      exact Or.inr ⟨(so_i e2).1, fun z => z2 (z.2.1.cg e9)⟩
    · have zG : Cl S n (cfG S) := z2.cg e9.symm
      rw [rk_cg e9] at z1
      rw [z1, ofe hw3 (rk_lt n5 hb zG).2.2.1, bnd_r, o3 120 (by decide) (by decide) (by decide) (by decide)] at e2
      by_cases c0 : S.1 120 (rkC S n (cfG S)) = 0
      · rw [if_pos c0] at e2
        obtain ⟨r8, S7, g8, e3⟩ := bnd_i e2
        clear e2
        obtain ⟨w7, f7, r7'⟩ := ex_i (rkx_start w3 hw3.qa r3') g8
        have cT3 : cfT S3 = cfT S := gX_cg (by decide) hh' (o3 122 (by decide) (by decide) (by decide) (by decide)) (o3 123 (by decide) (by decide) (by decide) (by decide))
        have e93 : S3.1 109 = S.1 109 := o3 109 (by decide) (by decide) (by decide) (by decide)
        obtain ⟨u1, u2⟩ := ro_start w3 hw3 (ht.cg (o3 113 (by decide) (by decide) (by decide) (by decide)) (o3 114 (by decide) (by decide) (by decide) (by decide)) (o3 115 (by decide) (by decide) (by decide) (by decide))) (hb.cg e93) (by rw [o3 122 (by decide) (by decide) (by decide) (by decide)]; exact h9') (by rw [cT3]; exact ndT) g8
        rw [cT3] at u2
        have hw7 : QW S7 n W := hw3.of f7.2 (f7.1 71 5 rfl) (f7.1 71 6 rfl) (f7.1 71 7 rfl)
        have o7 : ∀ q, q ≠ 126 → q ≠ 127 → q ≠ 110 → q ≠ 112 → S7.1 q = S.1 q := fun q a b c d => by rw [u1 q c d, o3 q a b c d]
        have s70 : S7.1 70 7 = nI l := by rw [o7 70 (by decide) (by decide) (by decide) (by decide)]; exact hA.1
        have l128 := hA.2.2.1
        rcases u2 with ⟨z3, z4⟩ | ⟨z3, z4⟩
        · rw [z3, ofn hw7, bnd_r, s70, if_neg (fun z => nI_m4 (by omega) z.symm)] at e3
          exact Or.inr ⟨(so_i e3).1, fun z => z4 (z.2.2.1.cg e93)⟩
        · have zT : Cl S n (cfT S) := z4.cg e93.symm
          rw [rk_cg e93] at z3
          rw [z3, ofe hw7 (rk_lt n5 hb zT).2.2.1, bnd_r, o7 120 (by decide) (by decide) (by decide) (by decide), s70] at e3
          by_cases c1 : S.1 120 (rkC S n (cfT S)) = nI l
          · rw [if_pos c1] at e3
            obtain ⟨r12, S11, g12, e4⟩ := bnd_i e3
            clear e3
            have e97 : S7.1 109 = S.1 109 := o7 109 (by decide) (by decide) (by decide) (by decide)
            have e127 : S7.1 120 = S.1 120 := o7 120 (by decide) (by decide) (by decide) (by decide)
            have hE7 : QE S7 n (shN n) := hE.of (fun i => by rw [f7.1 114 i rfl, f3.1 114 i rfl])
            have pv := pve hw7 hE7 (ht.cg (o7 113 (by decide) (by decide) (by decide) (by decide)) (o7 114 (by decide) (by decide) (by decide) (by decide)) (o7 115 (by decide) (by decide) (by decide) (by decide))) (hb.cg e97) (fun t ht => by rw [o7 106 (by decide) (by decide) (by decide) (by decide)]; exact hr t ht) g12
            have pe : PvC S7 rm n ↔ PvC S rm n := by
              have ok : ∀ X y, OkC S7 n X y ↔ OkC S n X y := fun X y => by
                unfold OkC
                rw [rk_cg e97, rk_cg e97, e127]
              constructor
              · intro P X hX q y y1 y2
                exact (ok X y).mp (P X (hX.cg e97) (by rw [rk_cg e97, e127]; exact q) y y1 y2)
              · intro P X hX q y y1 y2
                rw [rk_cg e97, e127] at q
                exact (ok X y).mpr (P X (hX.cg e97.symm) q y y1 y2)
            rw [pe] at pv
            rcases pv with ⟨a1, a2⟩ | ⟨a1, a2⟩
            · subst a1
              rw [if_neg (by decide)] at e4
              exact Or.inl ⟨(so_i e4).1, hl, zG, zT, c0, c1, a2⟩
            · subst a1
              rw [if_pos rfl] at e4
              exact Or.inr ⟨(so_i e4).1, fun z => a2 z.2.2.2.2.2⟩
          · rw [if_neg c1] at e3
            exact Or.inr ⟨(so_i e3).1, fun z => c1 z.2.2.2.2.1⟩
      · rw [if_neg c0] at e2
        exact Or.inr ⟨(so_i e2).1, fun z => c0 z.2.2.2.1⟩
  · subst a
    rw [if_pos rfl] at e1
    exact Or.inr ⟨(so_i e1).1, fun z => b (hld.mp z.1)⟩
set_option maxHeartbeats 1000000 in
theorem check_eq {S S1 S2 : SS} {r1 r2 : Int32} {G : Nat} (hW : WR S) (hC : CQ S G) (hRP : RP S) (hA : A5 S) (hZ : PZ S) (w1 : WR S1) (g1 : F1 HL [] S S1) (e1 : f_Yard_check S = some (r1, S1)) (e2 : f_M_check S1 = some (r2, S2)) : r1 = r2 := by
  have hP := hRP.1
  obtain ⟨A1, A2, A3, A4, A5⟩ := hA
  have h9 : ∀ i, rg (S.1 124 i) 0 9 := fun i => by rw [A4]; exact ro_50 hW i
  have h9' : ∀ i, rg (S.1 122 i) 0 9 := fun i => by rw [A2]; exact ro_48 hW i
  have hD : DW (S.1 125) (S.1 124) := by rw [A4, A5]; exact hP.2.2
  have hD' : DW (S.1 123) (S.1 122) := by rw [A2, A3]; exact hP.2.1
  have hh : ∀ i, rg (S.1 125 i) 0 10 := ro_125 hW
  have hh' : ∀ i, rg (S.1 123 i) 0 10 := ro_123 hW
  have hr : Rm S (rmN S) := fun t _ => by
    rw [A1]
    exact ⟨(rmN_le hW t).2, (rmN_le hW t).1⟩
  have k : ∀ q, q ≤ 60 → S1.1 q = S.1 q := fun q hq => frow g1 q (fun b => by
    unfold wm
    rw [List.any_eq_false.mpr]
    · rfl
    · intro m hm z
      have := Nat.eq_of_beq_eq_true z
      have : m = 110 ∨ m = 112 ∨ m = 116 ∨ m = 117 ∨ m = 118 ∨ m = 119 ∨ m = 126 ∨ m = 127 := by simpa [HL] using hm
      omega)
  have eG : cfr S1 = cfG S := gX_cg2 (by decide) (by decide) hh (by rw [k 50 (by omega), A4]) (by rw [k 49 (by omega), A5])
  have eT : cfq S1 = cfT S := gX_cg2 (by decide) (by decide) hh' (by rw [k 48 (by omega), A2]) (by rw [k 47 (by omega), A3])
  have rmE : rmN S1 = rmN S := funext fun s => by unfold rmN; rw [k 46 (by omega)]
  have emf : mf S1 = mf S := funext fun j => by unfold mf; rw [k 51 (by omega)]
  have emt : mt S1 = mt S := funext fun j => by unfold mt; rw [k 52 (by omega)]
  have emm : mm S1 = mm S := funext fun j => by unfold mm; rw [k 53 (by omega)]
  rw [f_Yard_check.eq_1] at e1
  obtain ⟨rh, Sh, gh', e3⟩ := bnd_i e1
  clear e1
  rw [f_M_check.eq_1] at e2
  have p70 : S1.1 70 = S.1 70 := frow g1 70 (fun _ => rfl)
  have p107 : S1.1 107 = S.1 107 := frow g1 107 (fun _ => rfl)
  have pk1 : ∀ l, PkA S l → PkA S1 l := fun l h => h.cg (fun q hq => by
    have : q = 51 ∨ q = 52 ∨ q = 53 ∨ q = 70 ∨ q = 107 := by simpa using hq
    rcases this with rfl | rfl | rfl | rfl | rfl
    · exact k 51 (by omega)
    · exact k 52 (by omega)
    · exact k 53 (by omega)
    · exact p70
    · exact p107) (by rw [k 0 (by omega)])
  have cl1 : rh = 0 → r1 = 0 := fun z => by
    rw [if_pos z] at e3
    exact (so_i e3).1
  have cl2 : rh = 1 → r1 = 1 := fun z => by
    rw [z, if_neg (by decide)] at e3
    exact (so_i e3).1
  rcases hZ.2 with ⟨h1, h2, h3⟩ | ⟨h1, h2, l, h3⟩ | ⟨h1, h2, l, h3, h4⟩
  · rw [f_Plans_holds.eq_1, if_pos h1] at gh'
    rw [k 0 (by omega), if_pos h3] at e2
    rw [cl1 (so_i gh').1, (so_i e2).1]
  · rw [k 0 (by omega), if_neg (by rw [h2]; decide)] at e2
    obtain ⟨rw', Sw, gw', e4⟩ := bnd_i e2
    clear e2
    have W := wk_r w1 (pk1 l h3) gw'
    rw [rmE, emf, emt, emm, eG, eT] at W
    obtain ⟨-, fw, -⟩ := ex_i (t_M_works w1) gw'
    rw [f_Plans_holds.eq_1, if_neg (by rw [h1]; decide)] at gh'
    obtain ⟨rl, Sl, gl, e5⟩ := bnd_i gh'
    clear gh'
    have L := ld_c h3 hr hh hh' h9 h9' gl
    obtain ⟨-, fl, -⟩ := ex_i (t_Plans_leadsToGoal hW) gl
    rcases L with ⟨a, b⟩ | ⟨a, b⟩
    · have wr' : rw' = 1 := by
        rcases W with ⟨c, -⟩ | ⟨-, c⟩
        · exact c
        · exact absurd b c
      subst a wr'
      rw [if_neg (by decide), fl.1 70 8 rfl, h1, if_pos rfl] at e5
      rw [if_neg (by decide), fw.1 0 76 rfl, k 0 (by omega), h2, if_pos rfl] at e4
      rw [cl2 (so_i e5).1, (so_i e4).1]
    · have wr' : rw' = 0 := by
        rcases W with ⟨-, c⟩ | ⟨c, -⟩
        · exact absurd c b
        · exact c
      subst a wr'
      rw [if_pos rfl] at e5 e4
      rw [cl1 (so_i e5).1, (so_i e4).1]
  · obtain ⟨n, n5, q1, q2, q3, q4, q5, q6, q7⟩ := h4
    have l128 := h3.2.2.1
    have H := hol_c (n := n) hW hC h3 hr h9 h9' hD hD' hZ.1 h1 n5 q1 q2 q3 _ gh' Iff.rfl
    rw [k 0 (by omega), if_neg (by rw [h2]; decide)] at e2
    obtain ⟨rw', Sw, gw', e4⟩ := bnd_i e2
    clear e2
    have W := wk_r w1 (pk1 l h3) gw'
    rw [rmE, emf, emt, emm, eG, eT] at W
    obtain ⟨ww, fw, -⟩ := ex_i (t_M_works w1) gw'
    rcases W with ⟨a, b⟩ | ⟨a, b⟩
    · subst a
      rw [if_neg (by decide), fw.1 0 76 rfl, k 0 (by omega), h2, if_neg (by decide)] at e4
      have sw : ∀ q, q ≤ 60 → q ≠ 57 → q ≠ 58 → Sw.1 q = S.1 q := fun q hq a b => by
        rw [frow fw.1 q (fun b' => by
          unfold wm
          rw [List.any_eq_false.mpr]
          · rfl
          · intro m hm z
            have := Nat.eq_of_beq_eq_true z
            have : m = 57 ∨ m = 58 := by simpa using hm
            omega), k q hq]
      have smV : Sm S Sw := ⟨by rw [sw 0 (by omega) (by decide) (by decide)], fun j => by rw [sw 54 (by omega) (by decide) (by decide)]⟩
      have PV : PL Sw := hP.of (fun q hq i => by
        have : q = 46 ∨ q = 47 ∨ q = 48 ∨ q = 49 ∨ q = 50 := by simpa using hq
        rw [sw q (by omega) (by omega) (by omega)])
      have eGw : cfr Sw = cfG S := gX_cg2 (by decide) (by decide) hh (by rw [sw 50 (by omega) (by decide) (by decide), A4]) (by rw [sw 49 (by omega) (by decide) (by decide), A5])
      have eTw : cfq Sw = cfT S := gX_cg2 (by decide) (by decide) hh' (by rw [sw 48 (by omega) (by decide) (by decide), A2]) (by rw [sw 47 (by omega) (by decide) (by decide), A3])
      have rmw : rmN Sw = rmN S := funext fun s => by unfold rmN; rw [sw 46 (by omega) (by decide) (by decide)]
      obtain ⟨n', m', pw', -, -, -, hB'⟩ := hRP.2.2 (by rw [h2]; decide) (by rw [h2]; decide)
      have en : n' = n := nI_inj (by have := pw'.1.2.1; omega) (by omega) (pw'.1.1.symm.trans q4.1.1)
      subst en
      obtain ⟨rp, Sp, gp, e5⟩ := bnd_i e4
      clear e4
      have PR := pre (l := l) ww PV (smV.pw q4) (by rw [sw 0 (by omega) (by decide) (by decide)]; exact h3.2.1) (fun c hc q => by
        rw [sw 55 (by omega) (by decide) (by decide)] at q
        obtain ⟨X, x1, x2⟩ := hB' c hc q
        exact ⟨X, x1.rb smV, by rw [smV.cd]; exact x2⟩) gp
      rw [← pcc_pvs hW n5 q5 q6 smV (sw 55 (by omega) (by decide) (by decide)) rmw eGw eTw (by omega)] at PR
      rcases PR with ⟨c1, c2⟩ | ⟨c1, c2⟩
      · subst c1
        rw [if_neg (by decide)] at e5
        rcases H with ⟨d, -⟩ | ⟨-, d⟩
        · rw [cl2 d, (so_i e5).1]
        · exact absurd ⟨b, c2⟩ d
      · subst c1
        rw [if_pos rfl] at e5
        rcases H with ⟨-, -, d⟩ | ⟨d, -⟩
        · exact absurd d c2
        · rw [cl1 d, (so_i e5).1]
    · subst a
      rw [if_pos rfl] at e4
      rcases H with ⟨-, d, -⟩ | ⟨d, -⟩
      · exact absurd d b
      · rw [cl1 d, (so_i e4).1]
end
