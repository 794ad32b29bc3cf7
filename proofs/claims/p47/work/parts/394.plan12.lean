/-! ===== take told exactly ===== -/
def tkO (x : Int32) : Nat := if x = 0 then 48 else 50
def tkM (x : Int32) : Nat := if x = 0 then 47 else 49
theorem tk_L34 {S : SS} {K : Int32 → Int32 → SS → Option SS} {P : SS → Prop} {x1 : Int32} {s m : Nat} (hs : s < 4) (hm : m ≤ 10) (h58 : S.1 58 s = nI m) (hk : ∀ U, WR U → Fr [57] [] S U → (∀ j, U.1 57 j = if 10 * s ≤ j ∧ j < 10 * s + m then S.1 (tkO x1) j else S.1 57 j) → Ew (K x1 (nI (s + 1)) U) P) : ∀ (N i : Nat) (T : SS), WR T → Fr [57] [] S T → (∀ j, T.1 57 j = if 10 * s ≤ j ∧ j < 10 * s + i then S.1 (tkO x1) j else S.1 57 j) → i ≤ m → m < N + i → Ew (f_M_take_L34 K N x1 (nI s) (nI i) T) P
  | 0, i, T, hW, hF, hj, hi, hN => by omega
  | N + 1, i, T, hW, hF, hj, hi, hN => by
    refine v_eq (f_M_take_L34.eq_2 _ _ _ _ _ _) ?_
    rw [nI_clamp (n := s) (by omega), hF.1 58 s rfl, h58]
    refine v_grd (inb_nI hs (by omega)) ?_
    refine v_i (fun q => ?_) (fun q => ?_)
    · have : i = m := by
        rcases Nat.lt_or_ge i m with c | c
        · exact absurd q (nI_ge c (by omega))
        · omega
      subst this
      refine v_nm ?_
      rw [nI_1]
      exact hk T hW hF hj
    · have hlt : i < m := by
        rcases Nat.lt_or_ge i m with c | c
        · exact c
        · exact absurd (nI_le c (by omega)) q
      have e : (10 : Int32) * nI s + nI i = nI (10 * s + i) := by
        rw [show (10 : Int32) * nI s = nI (10 * s) from nI_mul 10 s, nI_add]
      have go : ∀ v, v = S.1 (tkO x1) (10 * s + i) → Ew (f_M_take_j83 (fun v0 v1 v2 S => f_M_take_L34 K N v0 v1 v2 S) x1 (nI s) (nI i) v (nI (10 * s + i)) T) P := fun v hv => by
        refine v_eq (f_M_take_j83.eq_1 _ _ _ _ _ _ _) ?_
        refine v_grd (inb_nI (by omega) (by omega)) ?_
        rw [nI_clamp (n := 10 * s + i) (by omega)]
        refine v_wrA (fun U eU gU vU => ?_)
        have hW1 := WR.st (k := 57) hW trivial rfl eU
        refine v_nm ?_
        rw [nI_1]
        refine tk_L34 hs hm h58 hk N (i + 1) U hW1 (hF.tr gU rfl) (fun j => ?_) (by omega) (by omega)
        rw [eU, st_at, if_pos rfl]
        by_cases c : j = 10 * s + i
        · rw [if_pos c, if_pos (by omega), hv, c]
        · rw [if_neg c, hj j]
          by_cases d : 10 * s ≤ j ∧ j < 10 * s + i
          · rw [if_pos d, if_pos (by omega)]
          · rw [if_neg d, if_neg (by omega)]
      rw [e, nI_clamp (n := 10 * s + i) (by omega)]
      refine v_i (fun q2 => ?_) (fun q2 => ?_)
      · refine v_grd (inb_nI (by omega) (by omega)) (go _ ?_)
        rw [hF.1 48 _ rfl]
        unfold tkO
        rw [if_pos q2]
      · refine v_grd (inb_nI (by omega) (by omega)) (go _ ?_)
        rw [hF.1 50 _ rfl]
        unfold tkO
        rw [if_neg q2]
theorem tkM_rg {S : SS} (hW : WR S) (x : Int32) (s : Nat) : ∃ m, S.1 (tkM x) s = nI m ∧ m ≤ 10 := by
  unfold tkM
  by_cases c : x = 0
  · rw [if_pos c]
    obtain ⟨j, hj, h1, h2, h3⟩ := rg_ex (ro_47 hW s) (by omega)
    exact ⟨j, hj, by omega⟩
  · rw [if_neg c]
    obtain ⟨j, hj, h1, h2, h3⟩ := rg_ex (ro_49 hW s) (by omega)
    exact ⟨j, hj, by omega⟩
theorem tk_L2 {S : SS} {x1 : Int32} (hW0 : WR S) : ∀ (N s : Nat) (T : SS), WR T → Fr [57, 58] [] S T → (∀ s', s' < s → T.1 58 s' = S.1 (tkM x1) s' ∧ ∀ j, j < (S.1 (tkM x1) s').toNatClampNeg → T.1 57 (10 * s' + j) = S.1 (tkO x1) (10 * s' + j)) → s ≤ 4 → 4 < N + s → Ew (f_M_take_L2 N x1 (nI s) T) (fun U => WR U ∧ Fr [57, 58] [] S U ∧ ∀ s', s' < 4 → U.1 58 s' = S.1 (tkM x1) s' ∧ ∀ j, j < (S.1 (tkM x1) s').toNatClampNeg → U.1 57 (10 * s' + j) = S.1 (tkO x1) (10 * s' + j))
  | 0, s, T, hW, hF, hj, hs, hN => by omega
  | N + 1, s, T, hW, hF, hj, hs, hN => by
    refine v_eq (f_M_take_L2.eq_2 _ _ _ _) ?_
    by_cases c4 : s = 4
    · subst c4
      refine v_t (by decide) ?_
      exact v_some ⟨hW, hF, hj⟩
    · refine v_f (nI_ge (a := s) (b := 4) (by omega) (by omega)) ?_
      obtain ⟨m, em, lm⟩ := tkM_rg hW0 x1 s
      have go : ∀ v, v = nI m → Ew (f_M_take_j31 (fun v0 v1 S => f_M_take_L2 N v0 v1 S) x1 (nI s) v (nI s) T) (fun U => WR U ∧ Fr [57, 58] [] S U ∧ ∀ s', s' < 4 → U.1 58 s' = S.1 (tkM x1) s' ∧ ∀ j, j < (S.1 (tkM x1) s').toNatClampNeg → U.1 57 (10 * s' + j) = S.1 (tkO x1) (10 * s' + j)) := fun v hv => by
        subst hv
        refine v_eq (f_M_take_j31.eq_1 _ _ _ _ _ _) ?_
        refine v_grd (inb_nI (by omega) (by omega)) ?_
        rw [nI_clamp (n := s) (by omega)]
        refine v_wrA (fun V eV gV vV => ?_)
        have hW1 := wo_58 hW (rg_nI (by omega) (by omega) (by omega)) eV
        have oV : ∀ j, V.1 (tkO x1) j = S.1 (tkO x1) j := fun j => by
          unfold tkO
          by_cases c : x1 = 0
          · rw [if_pos c, gV.1 48 j rfl, hF.1 48 j rfl]
          · rw [if_neg c, gV.1 50 j rfl, hF.1 50 j rfl]
        refine tk_L34 (S := V) (s := s) (m := m) (by omega) lm vV (fun U hU fU aU => ?_) NF 0 V hW1 Fr.rf (fun j => by rw [if_neg (by omega)]) (by omega) (by have : NF = 100000 := rfl; omega)
        refine tk_L2 hW0 N (s + 1) U hU ((hF.tr gV rfl).tr fU rfl) (fun s' h1 => ?_) (by omega) (by omega)
        obtain ⟨m', em', lm'⟩ := tkM_rg hW0 x1 s'
        have cl : (S.1 (tkM x1) s').toNatClampNeg = m' := by rw [em']; exact nI_clamp (by omega)
        by_cases c : s' = s
        · subst c
          refine ⟨by rw [fU.1 58 s' rfl, vV, em], fun j h2 => ?_⟩
          have mm : m' = m := (nI_eq (by omega) (by omega)).mp (em'.symm.trans em)
          rw [cl, mm] at h2
          rw [aU, if_pos (by omega), oV]
        · obtain ⟨p1, p2⟩ := hj s' (by omega)
          refine ⟨by rw [fU.1 58 s' rfl, eV, st_at, if_pos rfl, if_neg c]; exact p1, fun j h2 => ?_⟩
          have h3 := h2
          rw [cl] at h3
          rw [aU, if_neg (by omega), gV.1 57 _ rfl]
          exact p2 j h2
      rw [nI_clamp (n := s) (by omega)]
      refine v_i (fun q2 => ?_) (fun q2 => ?_)
      · refine v_grd (inb_nI (by omega) (by omega)) (go _ ?_)
        rw [hF.1 47 _ rfl, ← em]
        unfold tkM
        rw [if_pos q2]
      · refine v_grd (inb_nI (by omega) (by omega)) (go _ ?_)
        rw [hF.1 49 _ rfl, ← em]
        unfold tkM
        rw [if_neg q2]
theorem tkx {S : SS} {x1 : Int32} (hW : WR S) : Ew (f_M_take x1 S) (fun U => WR U ∧ Fr [57, 58] [] S U ∧ ∀ s, s < 4 → U.1 58 s = S.1 (tkM x1) s ∧ ∀ j, j < (S.1 (tkM x1) s).toNatClampNeg → U.1 57 (10 * s + j) = S.1 (tkO x1) (10 * s + j)) := by
  refine v_eq (f_M_take.eq_1 _ _) ?_
  exact tk_L2 hW NF 0 S hW Fr.rf (fun s' h => by omega) (by omega) (by have : NF = 100000 := rfl; omega)
