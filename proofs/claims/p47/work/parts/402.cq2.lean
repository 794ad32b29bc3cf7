theorem oo56_seq {S : SS} (hW : WR S) : ∀ (N i : Nat) (x3 x4 : Int32), ((i = 0 ∧ x4 = -1) ∨ (0 < i ∧ i ≤ 5 ∧ x4 = nI (i - 1))) → i < N → Ex2 (f_Potentials_orderOf_Potentials_sequence_L56 N x3 x4 S) (fun _ U => U = S)
  | 0, i, x3, x4, hx, hN => by omega
  | N + 1, i, x3, x4, hx, hN => by
    refine e_eq (f_Potentials_orderOf_Potentials_sequence_L56.eq_2 _ _ _ _) ?_
    rcases hx with ⟨h1, rfl⟩ | ⟨h1, h2, rfl⟩
    · exact e_t (by decide) (e_some rfl)
    · refine e_f (nI_nn (by omega)) ?_
      refine e_grd (inb_nI (by omega) (by omega)) ?_
      refine e_nm ?_
      refine e_nm ?_
      refine oo56_seq hW N (i - 1) _ _ ?_ (by omega)
      by_cases c : i = 1
      · subst c
        exact Or.inl ⟨rfl, by decide⟩
      · refine Or.inr ⟨by omega, by omega, ?_⟩
        rw [show nI (i - 1) + (-1 : Int32) = nI (i - 1) - (1 : Int32) by rw [Int32.sub_eq_add_neg]]
        exact nI_sb (b := 1) (by omega) (by omega)
theorem oo4_seq {S : SS} {w : Nat} (hw : w ≤ 5) (h71 : S.1 71 5 = nI w) (hr : ∀ i, rg (S.1 110 i) 0 4) : ∀ (N i : Nat) (x2 : Int32) (T : SS), WR T → Fr [112] [] S T → i ≤ w → w < N + i → Ex2 (f_Potentials_orderOf_Potentials_sequence_L4 N x2 (nI i) T) (fun _ U => WR U ∧ Fr [112] [] S U)
  | 0, i, x2, T, hW, hF, hi, hN => by omega
  | N + 1, i, x2, T, hW, hF, hi, hN => by
    refine e_eq (f_Potentials_orderOf_Potentials_sequence_L4.eq_2 _ _ _ _) ?_
    rw [hF.1 71 5 rfl, h71]
    by_cases c : i = w
    · refine e_t (nI_le (by omega) (by omega)) ?_
      refine e_nm ?_
      refine e_mono (oo56_seq hW NF w 0 _ ?_ (by have : NF = 100000 := rfl; omega)) (fun r U e => by rw [e]; exact ⟨hW, hF⟩)
      by_cases c0 : w = 0
      · subst c0; exact Or.inl ⟨rfl, by decide⟩
      · exact Or.inr ⟨by omega, hw, nI_sb (b := 1) (by omega) (by omega)⟩
    · have hi' : i < w := by omega
      refine e_f (nI_ge hi' (by omega)) ?_
      refine e_grd (inb_nI (by omega) (by omega)) ?_
      refine e_grd (inb_nI (by omega) (by omega)) ?_
      refine e_cE (t_Integer_bitCount_0f7a4 hW) (fun r T1 h1 => ?_)
      obtain ⟨-, g1, -⟩ := h1
      have := fr_nil g1
      subst this
      rw [nI_clamp (n := i) (by omega), hF.1 110 i rfl]
      refine e_grd (inb_g (hr i) rfl) ?_
      refine e_wrA (fun T2 e2 g2 v2 => ?_)
      have w2 := WR.st (k := 112) hW trivial rfl e2
      refine e_grd (inb_nI (by omega) (by omega)) ?_
      refine e_nm ?_
      refine e_nm ?_
      rw [nI_1]
      exact oo4_seq hw h71 hr N (i + 1) _ T2 w2 (hF.tr g2 rfl) (by omega) (by omega)
theorem oox_seq {S : SS} {w : Nat} (hW : WR S) (hw : w ≤ 5) (h71 : S.1 71 5 = nI w) (hr : ∀ i, rg (S.1 110 i) 0 4) : Ex2 (f_Potentials_orderOf_Potentials_sequence S) (fun _ U => WR U ∧ Fr [112] [] S U) := by
  refine e_eq (f_Potentials_orderOf_Potentials_sequence.eq_1 _) ?_
  exact oo4_seq hw h71 hr NF 0 0 S hW Fr.rf (by omega) (by have : NF = 100000 := rfl; omega)
theorem oo56_swp {S : SS} (hW : WR S) : ∀ (N i : Nat) (x3 x4 : Int32), ((i = 0 ∧ x4 = -1) ∨ (0 < i ∧ i ≤ 5 ∧ x4 = nI (i - 1))) → i < N → Ex2 (f_Potentials_orderOf_Potentials_swapped_L56 N x3 x4 S) (fun _ U => U = S)
  | 0, i, x3, x4, hx, hN => by omega
  | N + 1, i, x3, x4, hx, hN => by
    refine e_eq (f_Potentials_orderOf_Potentials_swapped_L56.eq_2 _ _ _ _) ?_
    rcases hx with ⟨h1, rfl⟩ | ⟨h1, h2, rfl⟩
    · exact e_t (by decide) (e_some rfl)
    · refine e_f (nI_nn (by omega)) ?_
      refine e_grd (inb_nI (by omega) (by omega)) ?_
      refine e_nm ?_
      refine e_nm ?_
      refine oo56_swp hW N (i - 1) _ _ ?_ (by omega)
      by_cases c : i = 1
      · subst c
        exact Or.inl ⟨rfl, by decide⟩
      · refine Or.inr ⟨by omega, by omega, ?_⟩
        rw [show nI (i - 1) + (-1 : Int32) = nI (i - 1) - (1 : Int32) by rw [Int32.sub_eq_add_neg]]
        exact nI_sb (b := 1) (by omega) (by omega)
theorem oo4_swp {S : SS} {w : Nat} (hw : w ≤ 5) (h71 : S.1 71 5 = nI w) (hr : ∀ i, rg (S.1 111 i) 0 4) : ∀ (N i : Nat) (x2 : Int32) (T : SS), WR T → Fr [112] [] S T → i ≤ w → w < N + i → Ex2 (f_Potentials_orderOf_Potentials_swapped_L4 N x2 (nI i) T) (fun _ U => WR U ∧ Fr [112] [] S U)
  | 0, i, x2, T, hW, hF, hi, hN => by omega
  | N + 1, i, x2, T, hW, hF, hi, hN => by
    refine e_eq (f_Potentials_orderOf_Potentials_swapped_L4.eq_2 _ _ _ _) ?_
    rw [hF.1 71 5 rfl, h71]
    by_cases c : i = w
    · refine e_t (nI_le (by omega) (by omega)) ?_
      refine e_nm ?_
      refine e_mono (oo56_swp hW NF w 0 _ ?_ (by have : NF = 100000 := rfl; omega)) (fun r U e => by rw [e]; exact ⟨hW, hF⟩)
      by_cases c0 : w = 0
      · subst c0; exact Or.inl ⟨rfl, by decide⟩
      · exact Or.inr ⟨by omega, hw, nI_sb (b := 1) (by omega) (by omega)⟩
    · have hi' : i < w := by omega
      refine e_f (nI_ge hi' (by omega)) ?_
      refine e_grd (inb_nI (by omega) (by omega)) ?_
      refine e_grd (inb_nI (by omega) (by omega)) ?_
      refine e_cE (t_Integer_bitCount_0f7a4 hW) (fun r T1 h1 => ?_)
      obtain ⟨-, g1, -⟩ := h1
      have := fr_nil g1
      subst this
      rw [nI_clamp (n := i) (by omega), hF.1 111 i rfl]
      refine e_grd (inb_g (hr i) rfl) ?_
      refine e_wrA (fun T2 e2 g2 v2 => ?_)
      have w2 := WR.st (k := 112) hW trivial rfl e2
      refine e_grd (inb_nI (by omega) (by omega)) ?_
      refine e_nm ?_
      refine e_nm ?_
      rw [nI_1]
      exact oo4_swp hw h71 hr N (i + 1) _ T2 w2 (hF.tr g2 rfl) (by omega) (by omega)
theorem oox_swp {S : SS} {w : Nat} (hW : WR S) (hw : w ≤ 5) (h71 : S.1 71 5 = nI w) (hr : ∀ i, rg (S.1 111 i) 0 4) : Ex2 (f_Potentials_orderOf_Potentials_swapped S) (fun _ U => WR U ∧ Fr [112] [] S U) := by
  refine e_eq (f_Potentials_orderOf_Potentials_swapped.eq_1 _) ?_
  exact oo4_swp hw h71 hr NF 0 0 S hW Fr.rf (by omega) (by have : NF = 100000 := rfl; omega)
theorem qr_110 {S T U : SS} {j : Nat} {v : Int32} (h : QR S) (hF : Fr [110, 112] [] T S) (hv : rg v 0 4) (e : U = st S 110 j v) : QR U := by
  subst e
  refine ⟨fun i => ?_, fun i => ?_, fun i => ?_, fun i => ?_, fun i => ?_, fun i => ?_⟩
  · rw [st_at, if_neg (by decide)]; exact h.1 _
  · rw [st_at, if_pos rfl]
    by_cases c : i = j
    · rw [if_pos c]; exact hv
    · rw [if_neg c]; exact h.2.1 _
  · rw [st_at, if_neg (by decide)]; exact h.2.2.1 _
  · rw [st_at, if_neg (by decide)]; exact h.2.2.2.1 _
  · rw [st_at, if_neg (by decide)]; exact h.2.2.2.2.1 _
  · rw [st_at, if_neg (by decide)]; exact h.2.2.2.2.2 _
theorem rk16_goal {S : SS} {K : Int32 → Int32 → Int32 → SS → Option (Int32 × SS)} {w s key : Nat} (hw : w ≤ 5) (h71 : S.1 71 5 = nI w) (hs : s < 4) (hk : key ≤ kyb s) (hK : ∀ U m key', WR U → Fr [110, 112] [] S U → QR U → m ≤ w → key' ≤ kyb (s + 1) → Ex2 (K (nI m) (nI key') (nI (s + 1)) U) (fun _ U => WR U ∧ Fr [110, 112] [] S U ∧ QR U)) : ∀ (N i m : Nat) (T : SS), WR T → Fr [110, 112] [] S T → QR T → m ≤ w → i ≤ 10 → 10 < N + i → Ex2 (f_Potentials_rankOf_goal_L16 K N (nI m) (nI key) (nI s) (nI i) T) (fun _ U => WR U ∧ Fr [110, 112] [] S U ∧ QR U)
  | 0, i, m, T, hW, hF, hQ, hm, hi, hN => by omega
  | N + 1, i, m, T, hW, hF, hQ, hm, hi, hN => by
    refine e_eq (f_Potentials_rankOf_goal_L16.eq_2 _ _ _ _ _ _ _) ?_
    have hh : f_Stacks_height_goal (nI s) T = some (T.1 125 s, T) := by
      rw [f_Stacks_height_goal.eq_1, if_neg (nI_nn (by omega)), if_neg (show ¬ ((4 : Int32) ≤ nI s) from nI_ge (b := 4) hs (by omega)), inb_nI hs (by omega), nI_clamp (by omega)]
      rfl
    rw [hh, bnd_r]
    obtain ⟨hgt, eh, h1, h2, h3⟩ := rg_ex (ro_125 hW s) (by omega)
    rw [eh]
    by_cases c : hgt ≤ i
    · refine e_t (nI_le c (by omega)) ?_
      obtain ⟨k', k1, k2⟩ := kw_n (k := key) (s := s) (e := m) T hs hk (by omega)
      rw [k2, bnd_r]
      refine e_nm ?_
      rw [nI_1]
      exact hK T m k' hW hF hQ hm k1
    · refine e_f (nI_ge (by omega) (by omega)) ?_
      refine e_cE (t_Stacks_wagonAt_goal hW) (fun r T1 p => ?_)
      obtain ⟨-, g1, -⟩ := p
      have := fr_nil g1
      subst this
      have out : Ex2 (some ((-4 : Int32), T1)) (fun _ U => WR U ∧ Fr [110, 112] [] S U ∧ QR U) := e_some ⟨hW, hF, hQ⟩
      refine e_i (fun _ => out) (fun q1 => ?_)
      refine e_i (fun _ => out) (fun q2 => ?_)
      have hr := nle_r 9 (rgl 10 10 10 rfl) (nlt_l (rgt r) (rgl 0 0 0 rfl) q1) q2 rfl
      refine e_grd (inb_g hr rfl) ?_
      refine e_i (fun _ => out) (fun q3 => ?_)
      rw [hF.1 71 5 rfl, h71]
      by_cases cm : m < w
      · refine e_t ((nI_ltJ (by omega) (by omega)).mpr cm) ?_
        refine e_grd (inb_g hr rfl) ?_
        refine e_grd (inb_nI (by omega) (by omega)) ?_
        refine e_wrA (fun T2 e2 g2 v2 => ?_)
        have w2 := WR.st (k := 110) hW trivial rfl e2
        refine e_nm ?_
        refine e_nm ?_
        rw [nI_1, nI_1]
        exact rk16_goal hw h71 hs hk hK N (i + 1) (m + 1) T2 w2 (hF.tr g2 rfl) (qr_110 hQ hF (rn.ne (hQ.1 _) q3) e2) (by omega) (by omega) (by omega)
      · exact e_f (fun k => cm ((nI_ltJ (by omega) (by omega)).mp k)) out
theorem rk7_goal {S : SS} {w : Nat} (hw : w ≤ 5) (h71 : S.1 71 5 = nI w) : ∀ (N s m key : Nat) (T : SS), WR T → Fr [110, 112] [] S T → QR T → m ≤ w → key ≤ kyb s → s ≤ 4 → 4 < N + s → Ex2 (f_Potentials_rankOf_goal_L7 N (nI m) (nI key) (nI s) T) (fun _ U => WR U ∧ Fr [110, 112] [] S U ∧ QR U)
  | 0, s, m, key, T, hW, hF, hQ, hm, hk, hs, hN => by omega
  | N + 1, s, m, key, T, hW, hF, hQ, hm, hk, hs, hN => by
    refine e_eq (f_Potentials_rankOf_goal_L7.eq_2 _ _ _ _ _) ?_
    by_cases c : s = 4
    · subst c
      refine e_t (nI_le (a := 4) (by omega) (by omega)) ?_
      refine e_i (fun _ => ?_) (fun _ => e_some ⟨hW, hF, hQ⟩)
      refine e_cE (oox_seq hW hw ((hF.1 71 5 rfl).trans h71) hQ.2.1) (fun r T1 p => ?_)
      obtain ⟨w1, g1⟩ := p
      have := kyb_le 4
      refine e_grd (inb_nI (by omega) (by omega)) ?_
      exact e_some ⟨w1, hF.tr g1 rfl, hQ.fr g1 (fun k hk i => by
        simp only [List.mem_cons, List.mem_nil_iff, or_false] at hk
        rcases hk with rfl | rfl | rfl | rfl | rfl | rfl <;> rfl)⟩
    · have hs4 : s < 4 := by omega
      refine e_f (nI_ge (b := 4) hs4 (by omega)) ?_
      exact rk16_goal hw h71 hs4 hk (fun U m' k' a1 a2 a3 a4 a5 => rk7_goal hw h71 N (s + 1) m' k' U a1 a2 a3 a4 a5 (by omega) (by omega)) NF 0 m T hW hF hQ hm (by omega) (by have : NF = 100000 := rfl; omega)
theorem rkx_goal {S : SS} {w o sh : Nat} (hW : WR S) (h : QA S w o sh) (hQ : QR S) : Ex2 (f_Potentials_rankOf_goal S) (fun _ U => WR U ∧ Fr [110, 112] [] S U ∧ QR U) := by
  refine e_eq (f_Potentials_rankOf_goal.eq_1 _) ?_
  exact rk7_goal h.1 h.2.2.2.2.2.1 NF 0 0 0 S hW Fr.rf hQ (by omega) (Nat.zero_le _) (by omega) (by have : NF = 100000 := rfl; omega)
theorem rk16_start {S : SS} {K : Int32 → Int32 → Int32 → SS → Option (Int32 × SS)} {w s key : Nat} (hw : w ≤ 5) (h71 : S.1 71 5 = nI w) (hs : s < 4) (hk : key ≤ kyb s) (hK : ∀ U m key', WR U → Fr [110, 112] [] S U → QR U → m ≤ w → key' ≤ kyb (s + 1) → Ex2 (K (nI m) (nI key') (nI (s + 1)) U) (fun _ U => WR U ∧ Fr [110, 112] [] S U ∧ QR U)) : ∀ (N i m : Nat) (T : SS), WR T → Fr [110, 112] [] S T → QR T → m ≤ w → i ≤ 10 → 10 < N + i → Ex2 (f_Potentials_rankOf_start_L16 K N (nI m) (nI key) (nI s) (nI i) T) (fun _ U => WR U ∧ Fr [110, 112] [] S U ∧ QR U)
  | 0, i, m, T, hW, hF, hQ, hm, hi, hN => by omega
  | N + 1, i, m, T, hW, hF, hQ, hm, hi, hN => by
    refine e_eq (f_Potentials_rankOf_start_L16.eq_2 _ _ _ _ _ _ _) ?_
    have hh : f_Stacks_height_start (nI s) T = some (T.1 123 s, T) := by
      rw [f_Stacks_height_start.eq_1, if_neg (nI_nn (by omega)), if_neg (show ¬ ((4 : Int32) ≤ nI s) from nI_ge (b := 4) hs (by omega)), inb_nI hs (by omega), nI_clamp (by omega)]
      rfl
    rw [hh, bnd_r]
    obtain ⟨hgt, eh, h1, h2, h3⟩ := rg_ex (ro_123 hW s) (by omega)
    rw [eh]
    by_cases c : hgt ≤ i
    · refine e_t (nI_le c (by omega)) ?_
      obtain ⟨k', k1, k2⟩ := kw_n (k := key) (s := s) (e := m) T hs hk (by omega)
      rw [k2, bnd_r]
      refine e_nm ?_
      rw [nI_1]
      exact hK T m k' hW hF hQ hm k1
    · refine e_f (nI_ge (by omega) (by omega)) ?_
      refine e_cE (t_Stacks_wagonAt_start hW) (fun r T1 p => ?_)
      obtain ⟨-, g1, -⟩ := p
      have := fr_nil g1
      subst this
      have out : Ex2 (some ((-4 : Int32), T1)) (fun _ U => WR U ∧ Fr [110, 112] [] S U ∧ QR U) := e_some ⟨hW, hF, hQ⟩
      refine e_i (fun _ => out) (fun q1 => ?_)
      refine e_i (fun _ => out) (fun q2 => ?_)
      have hr := nle_r 9 (rgl 10 10 10 rfl) (nlt_l (rgt r) (rgl 0 0 0 rfl) q1) q2 rfl
      refine e_grd (inb_g hr rfl) ?_
      refine e_i (fun _ => out) (fun q3 => ?_)
      rw [hF.1 71 5 rfl, h71]
      by_cases cm : m < w
      · refine e_t ((nI_ltJ (by omega) (by omega)).mpr cm) ?_
        refine e_grd (inb_g hr rfl) ?_
        refine e_grd (inb_nI (by omega) (by omega)) ?_
        refine e_wrA (fun T2 e2 g2 v2 => ?_)
        have w2 := WR.st (k := 110) hW trivial rfl e2
        refine e_nm ?_
        refine e_nm ?_
        rw [nI_1, nI_1]
        exact rk16_start hw h71 hs hk hK N (i + 1) (m + 1) T2 w2 (hF.tr g2 rfl) (qr_110 hQ hF (rn.ne (hQ.1 _) q3) e2) (by omega) (by omega) (by omega)
      · exact e_f (fun k => cm ((nI_ltJ (by omega) (by omega)).mp k)) out
theorem rk7_start {S : SS} {w : Nat} (hw : w ≤ 5) (h71 : S.1 71 5 = nI w) : ∀ (N s m key : Nat) (T : SS), WR T → Fr [110, 112] [] S T → QR T → m ≤ w → key ≤ kyb s → s ≤ 4 → 4 < N + s → Ex2 (f_Potentials_rankOf_start_L7 N (nI m) (nI key) (nI s) T) (fun _ U => WR U ∧ Fr [110, 112] [] S U ∧ QR U)
  | 0, s, m, key, T, hW, hF, hQ, hm, hk, hs, hN => by omega
  | N + 1, s, m, key, T, hW, hF, hQ, hm, hk, hs, hN => by
    refine e_eq (f_Potentials_rankOf_start_L7.eq_2 _ _ _ _ _) ?_
    by_cases c : s = 4
    · subst c
      refine e_t (nI_le (a := 4) (by omega) (by omega)) ?_
      refine e_i (fun _ => ?_) (fun _ => e_some ⟨hW, hF, hQ⟩)
      refine e_cE (oox_seq hW hw ((hF.1 71 5 rfl).trans h71) hQ.2.1) (fun r T1 p => ?_)
      obtain ⟨w1, g1⟩ := p
      have := kyb_le 4
      refine e_grd (inb_nI (by omega) (by omega)) ?_
      exact e_some ⟨w1, hF.tr g1 rfl, hQ.fr g1 (fun k hk i => by
        simp only [List.mem_cons, List.mem_nil_iff, or_false] at hk
        rcases hk with rfl | rfl | rfl | rfl | rfl | rfl <;> rfl)⟩
    · have hs4 : s < 4 := by omega
      refine e_f (nI_ge (b := 4) hs4 (by omega)) ?_
      exact rk16_start hw h71 hs4 hk (fun U m' k' a1 a2 a3 a4 a5 => rk7_start hw h71 N (s + 1) m' k' U a1 a2 a3 a4 a5 (by omega) (by omega)) NF 0 m T hW hF hQ hm (by omega) (by have : NF = 100000 := rfl; omega)
theorem rkx_start {S : SS} {w o sh : Nat} (hW : WR S) (h : QA S w o sh) (hQ : QR S) : Ex2 (f_Potentials_rankOf_start S) (fun _ U => WR U ∧ Fr [110, 112] [] S U ∧ QR U) := by
  refine e_eq (f_Potentials_rankOf_start.eq_1 _) ?_
  exact rk7_start h.1 h.2.2.2.2.2.1 NF 0 0 0 S hW Fr.rf hQ (by omega) (Nat.zero_le _) (by omega) (by have : NF = 100000 := rfl; omega)
