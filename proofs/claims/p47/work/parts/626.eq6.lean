/-! ===== wipe ===== -/
def bcV (a : Int32) : Int32 := match f_Integer_bitCount_0f7a4 a (fun _ _ => 0, fun _ => 0) with
  | some (r, _) => r
  | none => 0
theorem bc_v (a : Int32) (S : SS) : f_Integer_bitCount_0f7a4 a S = some (bcV a, S) := rfl
def pcN : Nat → Nat → Nat
  | 0, _ => 0
  | k + 1, m => m % 2 + pcN k (m / 2)
theorem bc_all : ∀ m : Fin 1024, bcV (nI m.1) = nI (pcN 10 m.1) := by decide +kernel
theorem or_all : ∀ (w : Fin 10) (m : Fin 1024), m.1.testBit w.1 = false → pcN 10 (m.1 ||| 2 ^ w.1) = pcN 10 m.1 + 1 := by decide +kernel
theorem nI_or (a b : Nat) : nI a ||| nI b = nI (a ||| b) := by
  show Int32.ofNat a ||| Int32.ofNat b = Int32.ofNat (a ||| b)
  apply Int32.toBitVec_inj.mp
  rw [Int32.toBitVec_or]
  exact (BitVec.ofNat_or (w := 32)).symm
theorem sh_all : ∀ w : Fin 10, (1 : Int32) <<< (nI w.1 &&& 31) = nI (2 ^ w.1) := by decide +kernel
def hN (S : SS) (s : Nat) : Nat := (S.1 123 s).toNatClampNeg
theorem hN_le {S : SS} (hW : WR S) (s : Nat) : hN S s ≤ 10 ∧ S.1 123 s = nI (hN S s) := by
  obtain ⟨j, hj, h1, h2, h3⟩ := rg_ex (ro_123 hW s) (by omega)
  have e : hN S s = j := by unfold hN; rw [hj]; exact nI_clamp h3
  rw [e]
  exact ⟨by omega, hj⟩
def oH (S : SS) : Nat → Nat
  | 0 => 0
  | s + 1 => oH S s + hN S s
/-- the mask of what was read: a bit for each WAGON, and so many of them -/
def Msk (S : SS) (m s i : Nat) : Prop := m < 1024 ∧ pcN 10 m = oH S s + i ∧ ∀ w, w < 10 → (m.testBit w = true ↔ Bef (S.1 123) (S.1 122) (nI w) s i)
theorem ms_L11 {S : SS} {K : Int32 → Int32 → SS → Option (Int32 × SS)} {s : Nat} (hW : WR S) (h9 : ∀ i, rg (S.1 122 i) 0 9) (hD : DW (S.1 123) (S.1 122)) (hs : s < 4) (P : Int32 × SS → Prop) (hK : ∀ m, Msk S m (s + 1) 0 → ∃ z, K (nI m) (nI (s + 1)) S = some z ∧ P z) : ∀ (N i m : Nat), Msk S m s i → i ≤ hN S s → hN S s < N + i → ∃ z, f_Stacks_members_start_L11 K N (nI m) (nI s) (nI i) S = some z ∧ P z
  | 0, i, m, hm, hi, hN' => by omega
  | N + 1, i, m, hm, hi, hN' => by
    obtain ⟨l10, eh⟩ := hN_le hW s
    rw [f_Stacks_members_start_L11.eq_2, inb_nI hs (by omega), nI_clamp (n := s) (by omega), eh]
    show ∃ z, (if nI (hN S s) ≤ nI i then nm (nI s + 1) (fun z1 => K (nI m) z1 S) else _) = some z ∧ P z
    by_cases c : i = hN S s
    · rw [if_pos (nI_le (by omega) (by omega))]
      obtain ⟨h1, h2, h3⟩ := hm
      obtain ⟨z, e, p⟩ := hK m ⟨h1, by rw [h2, c]; rfl, fun w hw => (h3 w hw).trans (Bef_end hs (by rw [eh, nI_ti (by omega)]; omega))⟩
      refine ⟨z, ?_, p⟩
      show K (nI m) (nI s + 1) S = some z
      rw [nI_1]; exact e
    · have hi' : i < hN S s := by omega
      rw [if_neg (nI_ge hi' (by omega)), wa_start hs eh l10 hi', bnd_r]
      obtain ⟨w, ew, w1, w2, w3⟩ := rg_ex (h9 (10 * s + i)) (by omega)
      have hw : w < 10 := by omega
      obtain ⟨h1, h2, h3⟩ := hm
      have nb : m.testBit w = false := by
        cases hb : m.testBit w with
        | false => rfl
        | true =>
          obtain ⟨s', i', a1, a2, a3, a4⟩ := (h3 w hw).mp hb
          obtain ⟨d1, d2⟩ := hD s' i' s i a2 hs a3 (by rw [eh, nI_ti (by omega)]; omega) (a4.trans ew.symm)
          omega
      have e1 : nI m ||| ((1 : Int32) <<< (S.1 122 (10 * s + i) &&& 31)) = nI (m ||| 2 ^ w) := by
        rw [ew, sh_all ⟨w, hw⟩, nI_or]
      have mk : Msk S (m ||| 2 ^ w) s (i + 1) := by
        refine ⟨?_, ?_, fun v hv => ?_⟩
        · exact Nat.or_lt_two_pow (n := 10) h1 (Nat.pow_lt_pow_right (by omega) hw)
        · rw [or_all ⟨w, hw⟩ ⟨m, h1⟩ nb, h2]
          rfl
        · rw [Nat.testBit_or, Nat.testBit_two_pow, Bool.or_eq_true, decide_eq_true_eq, h3 v hv]
          constructor
          · intro k
            rcases k with ⟨s', i', a1, a2, a3, a4⟩ | k
            · exact ⟨s', i', by omega, a2, a3, a4⟩
            · subst k
              exact ⟨s, i, Or.inr ⟨rfl, by omega⟩, hs, by rw [eh, nI_ti (by omega)]; omega, ew⟩
          · intro ⟨s', i', a1, a2, a3, a4⟩
            by_cases cc : s' = s ∧ i' = i
            · obtain ⟨c1, c2⟩ := cc
              subst c1 c2
              right
              exact nI_inj (by omega) (by omega) (ew.symm.trans a4)
            · left
              exact ⟨s', i', by omega, a2, a3, a4⟩
      obtain ⟨z, e, p⟩ := ms_L11 hW h9 hD hs P hK N (i + 1) (m ||| 2 ^ w) mk (by omega) (by omega)
      refine ⟨z, ?_, p⟩
      show f_Stacks_members_start_L11 K N (nI m ||| ((1 : Int32) <<< (S.1 122 (10 * s + i) &&& 31))) (nI s) (nI i + 1) S = some z
      rw [e1, nI_1]; exact e
theorem ms_L4 {S : SS} (hW : WR S) (h9 : ∀ i, rg (S.1 122 i) 0 9) (hD : DW (S.1 123) (S.1 122)) : ∀ (N s m : Nat), Msk S m s 0 → s ≤ 4 → 4 < N + s → ∃ z, f_Stacks_members_start_L4 N (nI m) (nI s) S = some z ∧ ∃ m', z = (nI m', S) ∧ Msk S m' 4 0
  | 0, s, m, hm, hs, hN' => by omega
  | N + 1, s, m, hm, hs, hN' => by
    rw [f_Stacks_members_start_L4.eq_2]
    by_cases c : s = 4
    · subst c
      rw [if_pos (show (4 : Int32) ≤ nI 4 from nI_le (a := 4) (by omega) (by omega))]
      exact ⟨_, rfl, m, rfl, hm⟩
    · have hs4 : s < 4 := by omega
      rw [if_neg (show ¬ ((4 : Int32) ≤ nI s) from nI_ge (b := 4) hs4 (by omega))]
      have := (hN_le hW s).1
      exact ms_L11 hW h9 hD hs4 _ (fun m' hm' => ms_L4 hW h9 hD N (s + 1) m' hm' (by omega) (by omega)) NF 0 m hm (by omega) (by have : NF = 100000 := rfl; omega)
theorem msx {S : SS} (hW : WR S) (h9 : ∀ i, rg (S.1 122 i) 0 9) (hD : DW (S.1 123) (S.1 122)) : ∃ m, f_Stacks_members_start S = some (nI m, S) ∧ bcV (nI m) = nI (oH S 4) := by
  have m0 : Msk S 0 0 0 := by
    refine ⟨by omega, rfl, fun w hw => ⟨fun k => ?_, fun k => ?_⟩⟩
    · rw [Nat.zero_testBit] at k
      cases k
    · obtain ⟨s', i', a1, -⟩ := k
      omega
  obtain ⟨z, e, m, ez, h1, h2, h3⟩ := ms_L4 hW h9 hD NF 0 0 m0 (by omega) (by have : NF = 100000 := rfl; omega)
  rw [ez] at e
  refine ⟨m, e, ?_⟩
  rw [bc_all ⟨m, h1⟩, h2]
  rfl
theorem fl_s {S : SS} : ∀ (N k : Nat) (T U : SS), F1 [123] [] S T → (∀ i, T.1 123 i = if i < k ∧ i < 4 then 0 else S.1 123 i) → k ≤ 4 → f_Arrays_fill_53178_start_heights_L5 N 0 (nI k) (nI 4) T = some U → F1 [123] [] S U ∧ ∀ i, U.1 123 i = if i < 4 then 0 else S.1 123 i
  | 0, k, T, U, hF, hj, hk, h => by
    rw [f_Arrays_fill_53178_start_heights_L5.eq_1] at h
    cases h
  | N + 1, k, T, U, hF, hj, hk, h => by
    rw [f_Arrays_fill_53178_start_heights_L5.eq_2] at h
    by_cases c : k = 4
    · subst c
      rw [if_pos (nI_le (by omega) (by omega))] at h
      have := some_1 h
      subst this
      refine ⟨hF, fun i => ?_⟩
      rw [hj]
      by_cases d : i < 4
      · rw [if_pos ⟨d, d⟩, if_pos d]
      · rw [if_neg (fun q => d q.1), if_neg d]
    · rw [if_neg (nI_ge (by omega) (by omega))] at h
      replace h := (grd_t h).2
      replace h := wr_t h
      obtain ⟨T1, t1, h⟩ := h
      have h : f_Arrays_fill_53178_start_heights_L5 N 0 (nI k + 1) (nI 4) T1 = some U := h
      rw [nI_1] at h
      rw [nI_clamp (n := k) (by omega)] at t1
      refine fl_s N (k + 1) T1 U (F1.tr (L1 := [123]) (F' := []) (U := T1) hF (by rw [t1]; exact (fr_stA _ _ _ _).f1) rfl) (fun i => ?_) (by omega) h
      rw [t1, st_at, if_pos rfl]
      by_cases d : i = k
      · rw [if_pos d, if_pos (by omega)]
      · rw [if_neg d, hj]
        by_cases d2 : i < k ∧ i < 4
        · rw [if_pos d2, if_pos (by omega)]
        · rw [if_neg d2, if_neg (by omega)]
theorem em_s {S U : SS} (h : f_Stacks_empty_start S = some U) : F1 [123] [] S U ∧ ∀ i, U.1 123 i = if i < 4 then 0 else S.1 123 i := by
  rw [f_Stacks_empty_start.eq_1] at h
  replace h := bndv_t h
  obtain ⟨T, hT, h⟩ := h
  have := some_1 h
  subst this
  rw [f_Arrays_fill_53178_start_heights.eq_1] at hT
  replace hT := nm_q hT
  obtain ⟨z, ez, hT⟩ := hT
  rw [ez, show Int32.ofNat 4 = nI 4 from rfl, show (0 : Int32) = nI 0 from rfl] at hT
  exact fl_s NF 0 S T F1.rf (fun i => by rw [if_neg (by omega)]) (by omega) hT
theorem fl_g {S : SS} : ∀ (N k : Nat) (T U : SS), F1 [125] [] S T → (∀ i, T.1 125 i = if i < k ∧ i < 4 then 0 else S.1 125 i) → k ≤ 4 → f_Arrays_fill_53178_goal_heights_L5 N 0 (nI k) (nI 4) T = some U → F1 [125] [] S U ∧ ∀ i, U.1 125 i = if i < 4 then 0 else S.1 125 i
  | 0, k, T, U, hF, hj, hk, h => by
    rw [f_Arrays_fill_53178_goal_heights_L5.eq_1] at h
    cases h
  | N + 1, k, T, U, hF, hj, hk, h => by
    rw [f_Arrays_fill_53178_goal_heights_L5.eq_2] at h
    by_cases c : k = 4
    · subst c
      rw [if_pos (nI_le (by omega) (by omega))] at h
      have := some_1 h
      subst this
      refine ⟨hF, fun i => ?_⟩
      rw [hj]
      by_cases d : i < 4
      · rw [if_pos ⟨d, d⟩, if_pos d]
      · rw [if_neg (fun q => d q.1), if_neg d]
    · rw [if_neg (nI_ge (by omega) (by omega))] at h
      replace h := (grd_t h).2
      replace h := wr_t h
      obtain ⟨T1, t1, h⟩ := h
      have h : f_Arrays_fill_53178_goal_heights_L5 N 0 (nI k + 1) (nI 4) T1 = some U := h
      rw [nI_1] at h
      rw [nI_clamp (n := k) (by omega)] at t1
      refine fl_g N (k + 1) T1 U (F1.tr (L1 := [125]) (F' := []) (U := T1) hF (by rw [t1]; exact (fr_stA _ _ _ _).f1) rfl) (fun i => ?_) (by omega) h
      rw [t1, st_at, if_pos rfl]
      by_cases d : i = k
      · rw [if_pos d, if_pos (by omega)]
      · rw [if_neg d, hj]
        by_cases d2 : i < k ∧ i < 4
        · rw [if_pos d2, if_pos (by omega)]
        · rw [if_neg d2, if_neg (by omega)]
theorem em_g {S U : SS} (h : f_Stacks_empty_goal S = some U) : F1 [125] [] S U ∧ ∀ i, U.1 125 i = if i < 4 then 0 else S.1 125 i := by
  rw [f_Stacks_empty_goal.eq_1] at h
  replace h := bndv_t h
  obtain ⟨T, hT, h⟩ := h
  have := some_1 h
  subst this
  rw [f_Arrays_fill_53178_goal_heights.eq_1] at hT
  replace hT := nm_q hT
  obtain ⟨z, ez, hT⟩ := hT
  rw [ez, show Int32.ofNat 4 = nI 4 from rfl, show (0 : Int32) = nI 0 from rfl] at hT
  exact fl_g NF 0 S T F1.rf (fun i => by rw [if_neg (by omega)]) (by omega) hT
theorem mw_L10 {S : SS} {x1 : Int32} : ∀ (N k : Nat) (T U : SS) (r : Int32), F1 [47, 49] [(0, 76), (0, 77)] S T → (∀ i, T.1 47 i = if i < k ∧ i < 4 then 0 else S.1 47 i) → (∀ i, T.1 49 i = if i < k ∧ i < 4 then 0 else S.1 49 i) → k ≤ 4 → f_M_wipe_L10 N x1 (nI k) T = some (r, U) → r = x1 ∧ F1 [47, 49] [(0, 76), (0, 77)] S U ∧ (∀ i, U.1 47 i = if i < 4 then 0 else S.1 47 i) ∧ ∀ i, U.1 49 i = if i < 4 then 0 else S.1 49 i
  | 0, k, T, U, r, hF, h1, h2, hk, h => by
    rw [f_M_wipe_L10.eq_1] at h
    cases h
  | N + 1, k, T, U, r, hF, h1, h2, hk, h => by
    rw [f_M_wipe_L10.eq_2] at h
    by_cases c : k = 4
    · subst c
      rw [if_pos (show (4 : Int32) ≤ nI 4 from nI_le (a := 4) (by omega) (by omega))] at h
      replace h := wr_t h
      obtain ⟨T1, t1, h⟩ := h
      replace h := wr_t h
      obtain ⟨T2, t2, h⟩ := h
      injection h with h; injection h with a1 a2
      have g : F1 [] [(0, 76), (0, 77)] T U := by
        rw [← a2, t2, t1]
        exact F1.tr (F1.tr F1.rf (fr_stO _ _ _ _).f1 rfl) (fr_stO _ _ _ _).f1 rfl
      refine ⟨a1.symm, F1.tr hF g rfl, fun i => ?_, fun i => ?_⟩
      · rw [g 47 i rfl, h1]
        by_cases d : i < 4
        · rw [if_pos ⟨d, d⟩, if_pos d]
        · rw [if_neg (fun q => d q.1), if_neg d]
      · rw [g 49 i rfl, h2]
        by_cases d : i < 4
        · rw [if_pos ⟨d, d⟩, if_pos d]
        · rw [if_neg (fun q => d q.1), if_neg d]
    · rw [if_neg (show ¬ ((4 : Int32) ≤ nI k) from nI_ge (b := 4) (by omega) (by omega))] at h
      replace h := (grd_t h).2
      replace h := wr_t h
      obtain ⟨T1, t1, h⟩ := h
      replace h := (grd_t h).2
      replace h := wr_t h
      obtain ⟨T2, t2, h⟩ := h
      have h : f_M_wipe_L10 N x1 (nI k + 1) T2 = some (r, U) := h
      rw [nI_1] at h
      rw [nI_clamp (n := k) (by omega)] at t1 t2
      refine mw_L10 N (k + 1) T2 U r (F1.tr (L1 := [49]) (F' := []) (T := T1) (U := T2) (F1.tr (L1 := [47]) (F' := []) (U := T1) hF (by rw [t1]; exact (fr_stA _ _ _ _).f1) rfl) (by rw [t2]; exact (fr_stA _ _ _ _).f1) rfl) (fun i => ?_) (fun i => ?_) (by omega) h
      · rw [t2, st_at, if_neg (by decide), t1, st_at, if_pos rfl]
        by_cases d : i = k
        · rw [if_pos d, if_pos (by omega)]
        · rw [if_neg d, h1]
          by_cases d2 : i < k ∧ i < 4
          · rw [if_pos d2, if_pos (by omega)]
          · rw [if_neg d2, if_neg (by omega)]
      · rw [t2, st_at, if_pos rfl]
        by_cases d : i = k
        · rw [if_pos d, if_pos (by omega)]
        · rw [if_neg d, t1, st_at, if_neg (by decide), h2]
          by_cases d2 : i < k ∧ i < 4
          · rw [if_pos d2, if_pos (by omega)]
          · rw [if_neg d2, if_neg (by omega)]
theorem wipe_eq {r1 r2 : Int32} {S S1 S2 : SS} (hW : WR S) (w1 : WR S1) (hP : PL S) (h1 : ∀ i, S.1 122 i = S.1 48 i) (h2 : ∀ i, S.1 123 i = S.1 47 i) (h4 : ∀ i, S.1 125 i = S.1 49 i) (e1 : f_Yard_wipe S = some (r1, S1)) (e2 : f_M_wipe S1 = some (r2, S2)) (g1 : F1 [123, 125] [(70, 7), (70, 8)] S S1) (g2 : F1 [47, 49] [(0, 76), (0, 77)] S1 S2) : r1 = r2 ∧ (∀ i, S2.1 123 i = S2.1 47 i) ∧ ∀ i, S2.1 125 i = S2.1 49 i := by
  have e123 : S.1 123 = S.1 47 := funext h2
  have e122 : S.1 122 = S.1 48 := funext h1
  obtain ⟨m, em, bm⟩ := msx hW (fun i => by rw [h1]; exact ro_48 hW i) (by rw [e123, e122]; exact hP.2.1)
  rw [f_Yard_wipe.eq_1] at e1
  replace e1 := bnd_t e1
  obtain ⟨v, T, hT, e1⟩ := e1
  injection e1 with e1; injection e1 with a1 a2
  rw [f_Plans_clear.eq_1] at hT
  replace hT := bnd_s hT em
  replace hT := bnd_s hT (bc_v _ _)
  replace hT := bndv_t hT
  obtain ⟨T1, t1, hT⟩ := hT
  replace hT := bndv_t hT
  obtain ⟨T2, t2, hT⟩ := hT
  replace hT := bndv_t hT
  obtain ⟨T3, t3, hT⟩ := hT
  injection hT with hT; injection hT with c1 c2
  have g3 : F1 [] [(70, 7), (70, 8)] T2 T3 := by
    have t3 : some (st (st T2 70 8 0) 70 7 0) = some T3 := t3
    rw [← some_1 t3]
    exact F1.tr (F1.tr F1.rf (fr_stO _ _ _ _).f1 rfl) (fr_stO _ _ _ _).f1 rfl
  obtain ⟨f1, z1⟩ := em_s t1
  obtain ⟨f2, z2⟩ := em_g t2
  rw [f_M_wipe.eq_1] at e2
  obtain ⟨rs, Us, es, eU, ers, -⟩ := smx w1
  subst eU
  replace e2 := bnd_s e2 es
  obtain ⟨q1, q2, q3, q4⟩ := mw_L10 NF 0 Us S2 r2 F1.rf (fun i => by rw [if_neg (by omega)]) (fun i => by rw [if_neg (by omega)]) (by omega) e2
  have sN : StN Us = oH S 4 := by
    show (Us.1 47 0).toNatClampNeg + (Us.1 47 1).toNatClampNeg + (Us.1 47 2).toNatClampNeg + (Us.1 47 3).toNatClampNeg = 0 + hN S 0 + hN S 1 + hN S 2 + hN S 3
    unfold hN
    rw [g1 47 0 rfl, g1 47 1 rfl, g1 47 2 rfl, g1 47 3 rfl, h2, h2, h2, h2]
    omega
  refine ⟨?_, fun i => ?_, fun i => ?_⟩
  · rw [← a1, ← c1, bm, q1, ers, sN]
  · rw [q3, q2 123 i rfl, ← a2, ← c2, g3 123 i rfl, f2 123 i rfl, z1]
    by_cases d : i < 4
    · rw [if_pos d, if_pos d]
    · rw [if_neg d, if_neg d, c2, a2, g1 47 i rfl, h2]
  · rw [q4, q2 125 i rfl, ← a2, ← c2, g3 125 i rfl, z2]
    by_cases d : i < 4
    · rw [if_pos d, if_pos d]
    · rw [if_neg d, if_neg d, f1 125 i rfl, c2, a2, g1 49 i rfl, h4]
