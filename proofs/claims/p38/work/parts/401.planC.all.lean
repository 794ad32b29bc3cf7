section
/-! ===== the class's POTENTIALS: lengths, ranges ===== -/
def shN (w : Nat) : Nat := (w + 1) * (w + 2) * (w + 3) / 6
theorem qn_all : ∀ w W : Fin 6, w.1 ≤ W.1 → shN w.1 ≤ shN W.1 ∧ fcN w.1 ≤ fcN W.1 ∧ fcN w.1 * shN w.1 ≤ fcN W.1 * shN W.1 ∧ shN w.1 * w.1 * 3 ≤ shN W.1 * W.1 * 3 ∧ fcN W.1 ≤ 120 ∧ shN W.1 ≤ 56 ∧ fcN W.1 * shN W.1 ≤ 6720 ∧ shN W.1 * W.1 * 3 ≤ 840 ∧ 1 ≤ shN w.1 ∧ 1 ≤ fcN w.1 ∧ 1 ≤ fcN w.1 * shN w.1 ∧ (w.1 < W.1 → fcN w.1 * shN w.1 < fcN W.1 * shN W.1) := by decide +kernel
theorem qn {w W : Nat} (h : w ≤ W) (hW : W ≤ 5) : shN w ≤ shN W ∧ fcN w ≤ fcN W ∧ fcN w * shN w ≤ fcN W * shN W ∧ shN w * w * 3 ≤ shN W * W * 3 ∧ fcN W ≤ 120 ∧ shN W ≤ 56 ∧ fcN W * shN W ≤ 6720 ∧ shN W * W * 3 ≤ 840 ∧ 1 ≤ shN w ∧ 1 ≤ fcN w ∧ 1 ≤ fcN w * shN w ∧ (w < W → fcN w * shN w < fcN W * shN W) :=
  qn_all ⟨w, by omega⟩ ⟨W, by omega⟩ h
def QA (S : SS) (w o sh : Nat) : Prop := w ≤ 5 ∧ o * sh ≤ S.2 120 ∧ S.2 120 ≤ 6720 ∧ o ≤ 120 ∧ sh ≤ 56 ∧ S.1 71 5 = nI w ∧ S.1 71 6 = nI o ∧ S.1 71 7 = nI sh
def QW (S : SS) (w W : Nat) : Prop := w ≤ W ∧ W ≤ 5 ∧ S.1 71 5 = nI w ∧ S.1 71 6 = nI (fcN w) ∧ S.1 71 7 = nI (shN w) ∧ S.2 114 = shN W * 4 ∧ S.2 115 = fcN W * 20 ∧ S.2 116 = shN W + 1 ∧ S.2 117 = shN W * W * 3 ∧ S.2 118 = shN W * W * 3 ∧ S.2 119 = shN W * W * 3 ∧ S.2 120 = fcN W * shN W ∧ S.2 121 = fcN W * shN W
theorem QW.qa {S : SS} {w W : Nat} (h : QW S w W) : QA S w (fcN w) (shN w) := by
  obtain ⟨h1, h2, h3, h4, h5, -, -, -, -, -, -, h6, -⟩ := h
  have q := qn h1 h2
  have q' := qn (Nat.le_refl w) (by omega : w ≤ 5)
  exact ⟨by omega, by omega, by omega, by omega, by omega, h3, h4, h5⟩
def QR (S : SS) : Prop := (∀ i, rn (S.1 109 i) 0 4) ∧ (∀ i, rg (S.1 110 i) 0 4) ∧ (∀ i, rg (S.1 111 i) 0 4) ∧ (∀ i, rg (S.1 116 i) 0 840) ∧ (∀ i, rn (S.1 119 i) 0 19) ∧ ∀ i, rn (S.1 120 i) 0 6720
def QE (S : SS) (w k : Nat) : Prop := ∀ sh, sh < k → ∃ a b c, a ≤ b ∧ b ≤ c ∧ c ≤ w ∧ S.1 114 (4 * sh) = nI a ∧ S.1 114 (4 * sh + 1) = nI b ∧ S.1 114 (4 * sh + 2) = nI c ∧ S.1 114 (4 * sh + 3) = nI w
/-- all that the class's POTENTIALS have: G counts how often their rows were made -/
def CQ (S : SS) (G : Nat) : Prop := QR S ∧ ((G = 0 ∧ S.1 71 5 = 0 ∧ S.1 71 6 = 0 ∧ S.1 71 7 = 0 ∧ S.2 120 = 0) ∨ ∃ w W, G = W + 1 ∧ QW S w W ∧ QE S w (shN w))
theorem CQ.qa {S : SS} {G : Nat} (h : CQ S G) : ∃ w o sh, QA S w o sh := by
  rcases h.2 with ⟨-, h1, h2, h3, h4⟩ | ⟨w, W, -, h, -⟩
  · exact ⟨0, 0, 0, by omega, by omega, by omega, by omega, by omega, h1, h2, h3⟩
  · exact ⟨w, _, _, h.qa⟩
theorem isR {S : SS} {w o sh : Nat} {a : Int32} (h : QA S w o sh) : Ex2 (f_Potentials_isRank a S) (fun r U => U = S ∧ (r = 0 ∨ (r = 1 ∧ ∃ k, k < o * sh ∧ a = nI k))) := by
  obtain ⟨h1, h2, h3, h4, h5, h6, h7, h8⟩ := h
  refine e_eq (f_Potentials_isRank.eq_1 _ _) ?_
  refine e_i (fun _ => e_some ⟨rfl, Or.inl rfl⟩) (fun q => ?_)
  rw [h7, h8, nI_mul]
  refine e_i (fun _ => e_some ⟨rfl, Or.inl rfl⟩) (fun q2 => ?_)
  obtain ⟨k, rfl, -, -, k3⟩ := rg_ex (nlt_l (rgt a) (rgl 0 0 0 rfl) q) (by omega)
  refine e_some ⟨rfl, Or.inr ⟨rfl, k, ?_, rfl⟩⟩
  rcases Nat.lt_or_ge k (o * sh) with c | c
  · exact c
  · exact absurd (nI_le c k3) q2
theorem ofx {S : SS} {w o sh : Nat} {a : Int32} (h : QA S w o sh) (hr : ∀ i, rn (S.1 120 i) 0 6720) : Ex2 (f_Potentials_of a S) (fun r U => U = S ∧ rn r 0 6720) := by
  refine e_eq (f_Potentials_of.eq_1 _ _) ?_
  refine e_cE (isR h) (fun r T p => ?_)
  obtain ⟨e, p⟩ := p
  subst e
  obtain ⟨h1, h2, h3, h4, h5, h6, h7, h8⟩ := h
  rcases p with p | ⟨p, k, k1, rfl⟩
  · exact e_t p (e_some ⟨rfl, rn4l _ _⟩)
  · refine e_f (by rw [p]; decide) ?_
    refine e_grd (inb_nI (by omega) (by omega)) ?_
    exact e_some ⟨rfl, hr _⟩
theorem QR.fr {S U : SS} {L : List Nat} {F : List (Nat × Nat)} (h : QR S) (g : Fr L F S U) (e : ∀ k, k ∈ [109, 110, 111, 116, 119, 120] → ∀ i, wm L F k i = false) : QR U :=
  ⟨fun i => by rw [g.1 109 i (e _ (by decide) i)]; exact h.1 i, fun i => by rw [g.1 110 i (e _ (by decide) i)]; exact h.2.1 i, fun i => by rw [g.1 111 i (e _ (by decide) i)]; exact h.2.2.1 i, fun i => by rw [g.1 116 i (e _ (by decide) i)]; exact h.2.2.2.1 i, fun i => by rw [g.1 119 i (e _ (by decide) i)]; exact h.2.2.2.2.1 i, fun i => by rw [g.1 120 i (e _ (by decide) i)]; exact h.2.2.2.2.2 i⟩
theorem stx {S : SS} {w o sh : Nat} {a v : Int32} (hW : WR S) (h : QA S w o sh) (hr : QR S) (hv : rn v 0 6720) : Ew (f_Potentials_setTo a v S) (fun U => WR U ∧ Fr [120] [] S U ∧ QR U) := by
  refine v_eq (f_Potentials_setTo.eq_1 _ _ _) ?_
  refine v_cE (isR h) (fun r T p => ?_)
  obtain ⟨e, p⟩ := p
  subst e
  obtain ⟨h1, h2, h3, h4, h5, h6, h7, h8⟩ := h
  rcases p with p | ⟨p, k, k1, rfl⟩
  · exact v_t p (v_some ⟨hW, Fr.rf, hr⟩)
  · refine v_f (by rw [p]; decide) ?_
    refine v_grd (inb_nI (by omega) (by omega)) ?_
    refine v_wrA (fun U e g vv => ?_)
    refine v_some ⟨WR.st (k := 120) hW trivial rfl e, g, fun i => ?_, fun i => ?_, fun i => ?_, fun i => ?_, fun i => ?_, fun i => ?_⟩
    · rw [g.1 109 i rfl]; exact hr.1 i
    · rw [g.1 110 i rfl]; exact hr.2.1 i
    · rw [g.1 111 i rfl]; exact hr.2.2.1 i
    · rw [g.1 116 i rfl]; exact hr.2.2.2.1 i
    · rw [g.1 119 i rfl]; exact hr.2.2.2.2.1 i
    · rw [e, st_at, if_pos rfl]
      by_cases c : i = (nI k).toNatClampNeg
      · rw [if_pos c]; exact hv
      · rw [if_neg c]; exact hr.2.2.2.2.2 i
theorem kwx (a0 a1 a2 : Int32) (S : SS) : f_Potentials_keyWith a0 a1 a2 S = some (if (3 : Int32) ≤ a1 then a0 else (6 : Int32) * a0 + a2, S) := by
  rw [f_Potentials_keyWith.eq_1]
  by_cases c : (3 : Int32) ≤ a1
  · rw [if_pos c, if_pos c]
  · rw [if_neg c, if_neg c]
def kyb (s : Nat) : Nat := if s = 0 then 0 else if s = 1 then 5 else if s = 2 then 35 else 215
theorem kw_n {k s e : Nat} (S : SS) (hs : s < 4) (hk : k ≤ kyb s) (he : e ≤ 5) : ∃ k', k' ≤ kyb (s + 1) ∧ f_Potentials_keyWith (nI k) (nI s) (nI e) S = some (nI k', S) := by
  rw [kwx]
  rcases (show s = 0 ∨ s = 1 ∨ s = 2 ∨ s = 3 by omega) with rfl | rfl | rfl | rfl
  · refine ⟨6 * k + e, ?_, ?_⟩
    · have : k ≤ 0 := hk
      show 6 * k + e ≤ 5
      omega
    · rw [if_neg (by decide), show (6 : Int32) * nI k = nI (6 * k) from nI_mul 6 k, nI_add]
  · refine ⟨6 * k + e, ?_, ?_⟩
    · have : k ≤ 5 := hk
      show 6 * k + e ≤ 35
      omega
    · rw [if_neg (by decide), show (6 : Int32) * nI k = nI (6 * k) from nI_mul 6 k, nI_add]
  · refine ⟨6 * k + e, ?_, ?_⟩
    · have : k ≤ 35 := hk
      show 6 * k + e ≤ 215
      omega
    · rw [if_neg (by decide), show (6 : Int32) * nI k = nI (6 * k) from nI_mul 6 k, nI_add]
  · exact ⟨k, hk, by rw [if_pos (by decide)]⟩
theorem kyb_le (s : Nat) : kyb s ≤ 215 := by
  unfold kyb
  by_cases c0 : s = 0
  · rw [if_pos c0]; omega
  · rw [if_neg c0]
    by_cases c1 : s = 1
    · rw [if_pos c1]; omega
    · rw [if_neg c1]
      by_cases c2 : s = 2
      · rw [if_pos c2]; omega
      · rw [if_neg c2]; omega
end
section
theorem oo56_seq {S : SS} (hW : WR S) : ∀ (N i : Nat) (x3 x4 : Int32), ((i = 0 ∧ x4 = -1) ∨ (0 < i ∧ i ≤ 5 ∧ x4 = nI (i - 1))) → i < N → Ex2 (f_Potentials_orderOf_Potentials_sequence_L56 N x3 x4 S) (fun _ U => U = S)
  | 0, i, x3, x4, hx, hN => by omega
  | N + 1, i, x3, x4, hx, hN => by
    refine e_eq (f_Potentials_orderOf_Potentials_sequence_L56.eq_2 _ _ _ _) ?_
    rcases hx with ⟨h1, rfl⟩ | ⟨h1, h2, rfl⟩
    · exact e_t (by decide) (e_some rfl)
    · refine e_f (nI_nn (by omega)) ?_
      refine e_grd (inb_nI (by omega) (by omega)) ?_
      refine e_nm ?_
      refine e_nm ?_
      refine oo56_seq hW N (i - 1) _ _ ?_ (by omega)
      by_cases c : i = 1
      · subst c
        exact Or.inl ⟨rfl, by decide⟩
      · refine Or.inr ⟨by omega, by omega, ?_⟩
        rw [show nI (i - 1) + (-1 : Int32) = nI (i - 1) - (1 : Int32) by rw [Int32.sub_eq_add_neg]]
        exact nI_sb (b := 1) (by omega) (by omega)
theorem oo4_seq {S : SS} {w : Nat} (hw : w ≤ 5) (h71 : S.1 71 5 = nI w) (hr : ∀ i, rg (S.1 110 i) 0 4) : ∀ (N i : Nat) (x2 : Int32) (T : SS), WR T → Fr [112] [] S T → i ≤ w → w < N + i → Ex2 (f_Potentials_orderOf_Potentials_sequence_L4 N x2 (nI i) T) (fun _ U => WR U ∧ Fr [112] [] S U)
  | 0, i, x2, T, hW, hF, hi, hN => by omega
  | N + 1, i, x2, T, hW, hF, hi, hN => by
    refine e_eq (f_Potentials_orderOf_Potentials_sequence_L4.eq_2 _ _ _ _) ?_
    rw [hF.1 71 5 rfl, h71]
    by_cases c : i = w
    · refine e_t (nI_le (by omega) (by omega)) ?_
      refine e_nm ?_
      refine e_mono (oo56_seq hW NF w 0 _ ?_ (by have : NF = 100000 := rfl; omega)) (fun r U e => by rw [e]; exact ⟨hW, hF⟩)
      by_cases c0 : w = 0
      · subst c0; exact Or.inl ⟨rfl, by decide⟩
      · exact Or.inr ⟨by omega, hw, nI_sb (b := 1) (by omega) (by omega)⟩
    · have hi' : i < w := by omega
      refine e_f (nI_ge hi' (by omega)) ?_
      refine e_grd (inb_nI (by omega) (by omega)) ?_
      refine e_grd (inb_nI (by omega) (by omega)) ?_
      refine e_cE (t_Integer_bitCount_0f7a4 hW) (fun r T1 h1 => ?_)
      obtain ⟨-, g1, -⟩ := h1
      have := fr_nil g1
      subst this
      rw [nI_clamp (n := i) (by omega), hF.1 110 i rfl]
      refine e_grd (inb_g (hr i) rfl) ?_
      refine e_wrA (fun T2 e2 g2 v2 => ?_)
      have w2 := WR.st (k := 112) hW trivial rfl e2
      refine e_grd (inb_nI (by omega) (by omega)) ?_
      refine e_nm ?_
      refine e_nm ?_
      rw [nI_1]
      exact oo4_seq hw h71 hr N (i + 1) _ T2 w2 (hF.tr g2 rfl) (by omega) (by omega)
theorem oox_seq {S : SS} {w : Nat} (hW : WR S) (hw : w ≤ 5) (h71 : S.1 71 5 = nI w) (hr : ∀ i, rg (S.1 110 i) 0 4) : Ex2 (f_Potentials_orderOf_Potentials_sequence S) (fun _ U => WR U ∧ Fr [112] [] S U) := by
  refine e_eq (f_Potentials_orderOf_Potentials_sequence.eq_1 _) ?_
  exact oo4_seq hw h71 hr NF 0 0 S hW Fr.rf (by omega) (by have : NF = 100000 := rfl; omega)
theorem oo56_swp {S : SS} (hW : WR S) : ∀ (N i : Nat) (x3 x4 : Int32), ((i = 0 ∧ x4 = -1) ∨ (0 < i ∧ i ≤ 5 ∧ x4 = nI (i - 1))) → i < N → Ex2 (f_Potentials_orderOf_Potentials_swapped_L56 N x3 x4 S) (fun _ U => U = S)
  | 0, i, x3, x4, hx, hN => by omega
  | N + 1, i, x3, x4, hx, hN => by
    refine e_eq (f_Potentials_orderOf_Potentials_swapped_L56.eq_2 _ _ _ _) ?_
    rcases hx with ⟨h1, rfl⟩ | ⟨h1, h2, rfl⟩
    · exact e_t (by decide) (e_some rfl)
    · refine e_f (nI_nn (by omega)) ?_
      refine e_grd (inb_nI (by omega) (by omega)) ?_
      refine e_nm ?_
      refine e_nm ?_
      refine oo56_swp hW N (i - 1) _ _ ?_ (by omega)
      by_cases c : i = 1
      · subst c
        exact Or.inl ⟨rfl, by decide⟩
      · refine Or.inr ⟨by omega, by omega, ?_⟩
        rw [show nI (i - 1) + (-1 : Int32) = nI (i - 1) - (1 : Int32) by rw [Int32.sub_eq_add_neg]]
        exact nI_sb (b := 1) (by omega) (by omega)
theorem oo4_swp {S : SS} {w : Nat} (hw : w ≤ 5) (h71 : S.1 71 5 = nI w) (hr : ∀ i, rg (S.1 111 i) 0 4) : ∀ (N i : Nat) (x2 : Int32) (T : SS), WR T → Fr [112] [] S T → i ≤ w → w < N + i → Ex2 (f_Potentials_orderOf_Potentials_swapped_L4 N x2 (nI i) T) (fun _ U => WR U ∧ Fr [112] [] S U)
  | 0, i, x2, T, hW, hF, hi, hN => by omega
  | N + 1, i, x2, T, hW, hF, hi, hN => by
    refine e_eq (f_Potentials_orderOf_Potentials_swapped_L4.eq_2 _ _ _ _) ?_
    rw [hF.1 71 5 rfl, h71]
    by_cases c : i = w
    · refine e_t (nI_le (by omega) (by omega)) ?_
      refine e_nm ?_
      refine e_mono (oo56_swp hW NF w 0 _ ?_ (by have : NF = 100000 := rfl; omega)) (fun r U e => by rw [e]; exact ⟨hW, hF⟩)
      by_cases c0 : w = 0
      · subst c0; exact Or.inl ⟨rfl, by decide⟩
      · exact Or.inr ⟨by omega, hw, nI_sb (b := 1) (by omega) (by omega)⟩
    · have hi' : i < w := by omega
      refine e_f (nI_ge hi' (by omega)) ?_
      refine e_grd (inb_nI (by omega) (by omega)) ?_
      refine e_grd (inb_nI (by omega) (by omega)) ?_
      refine e_cE (t_Integer_bitCount_0f7a4 hW) (fun r T1 h1 => ?_)
      obtain ⟨-, g1, -⟩ := h1
      have := fr_nil g1
      subst this
      rw [nI_clamp (n := i) (by omega), hF.1 111 i rfl]
      refine e_grd (inb_g (hr i) rfl) ?_
      refine e_wrA (fun T2 e2 g2 v2 => ?_)
      have w2 := WR.st (k := 112) hW trivial rfl e2
      refine e_grd (inb_nI (by omega) (by omega)) ?_
      refine e_nm ?_
      refine e_nm ?_
      rw [nI_1]
      exact oo4_swp hw h71 hr N (i + 1) _ T2 w2 (hF.tr g2 rfl) (by omega) (by omega)
theorem oox_swp {S : SS} {w : Nat} (hW : WR S) (hw : w ≤ 5) (h71 : S.1 71 5 = nI w) (hr : ∀ i, rg (S.1 111 i) 0 4) : Ex2 (f_Potentials_orderOf_Potentials_swapped S) (fun _ U => WR U ∧ Fr [112] [] S U) := by
  refine e_eq (f_Potentials_orderOf_Potentials_swapped.eq_1 _) ?_
  exact oo4_swp hw h71 hr NF 0 0 S hW Fr.rf (by omega) (by have : NF = 100000 := rfl; omega)
theorem qr_110 {S T U : SS} {j : Nat} {v : Int32} (h : QR S) (hF : Fr [110, 112] [] T S) (hv : rg v 0 4) (e : U = st S 110 j v) : QR U := by
  subst e
  refine ⟨fun i => ?_, fun i => ?_, fun i => ?_, fun i => ?_, fun i => ?_, fun i => ?_⟩
  · rw [st_at, if_neg (by decide)]; exact h.1 _
  · rw [st_at, if_pos rfl]
    by_cases c : i = j
    · rw [if_pos c]; exact hv
    · rw [if_neg c]; exact h.2.1 _
  · rw [st_at, if_neg (by decide)]; exact h.2.2.1 _
  · rw [st_at, if_neg (by decide)]; exact h.2.2.2.1 _
  · rw [st_at, if_neg (by decide)]; exact h.2.2.2.2.1 _
  · rw [st_at, if_neg (by decide)]; exact h.2.2.2.2.2 _
theorem rk16_goal {S : SS} {K : Int32 → Int32 → Int32 → SS → Option (Int32 × SS)} {w s key : Nat} (hw : w ≤ 5) (h71 : S.1 71 5 = nI w) (hs : s < 4) (hk : key ≤ kyb s) (hK : ∀ U m key', WR U → Fr [110, 112] [] S U → QR U → m ≤ w → key' ≤ kyb (s + 1) → Ex2 (K (nI m) (nI key') (nI (s + 1)) U) (fun _ U => WR U ∧ Fr [110, 112] [] S U ∧ QR U)) : ∀ (N i m : Nat) (T : SS), WR T → Fr [110, 112] [] S T → QR T → m ≤ w → i ≤ 10 → 10 < N + i → Ex2 (f_Potentials_rankOf_goal_L16 K N (nI m) (nI key) (nI s) (nI i) T) (fun _ U => WR U ∧ Fr [110, 112] [] S U ∧ QR U)
  | 0, i, m, T, hW, hF, hQ, hm, hi, hN => by omega
  | N + 1, i, m, T, hW, hF, hQ, hm, hi, hN => by
    refine e_eq (f_Potentials_rankOf_goal_L16.eq_2 _ _ _ _ _ _ _) ?_
    have hh : f_Stacks_height_goal (nI s) T = some (T.1 125 s, T) := by
      rw [f_Stacks_height_goal.eq_1, if_neg (nI_nn (by omega)), if_neg (show ¬ ((4 : Int32) ≤ nI s) from nI_ge (b := 4) hs (by omega)), inb_nI hs (by omega), nI_clamp (by omega)]
      rfl
    rw [hh, bnd_r]
    obtain ⟨hgt, eh, h1, h2, h3⟩ := rg_ex (ro_125 hW s) (by omega)
    rw [eh]
    by_cases c : hgt ≤ i
    · refine e_t (nI_le c (by omega)) ?_
      obtain ⟨k', k1, k2⟩ := kw_n (k := key) (s := s) (e := m) T hs hk (by omega)
      rw [k2, bnd_r]
      refine e_nm ?_
      rw [nI_1]
      exact hK T m k' hW hF hQ hm k1
    · refine e_f (nI_ge (by omega) (by omega)) ?_
      refine e_cE (t_Stacks_wagonAt_goal hW) (fun r T1 p => ?_)
      obtain ⟨-, g1, -⟩ := p
      have := fr_nil g1
      subst this
      have out : Ex2 (some ((-4 : Int32), T1)) (fun _ U => WR U ∧ Fr [110, 112] [] S U ∧ QR U) := e_some ⟨hW, hF, hQ⟩
      refine e_i (fun _ => out) (fun q1 => ?_)
      refine e_i (fun _ => out) (fun q2 => ?_)
      have hr := nle_r 9 (rgl 10 10 10 rfl) (nlt_l (rgt r) (rgl 0 0 0 rfl) q1) q2 rfl
      refine e_grd (inb_g hr rfl) ?_
      refine e_i (fun _ => out) (fun q3 => ?_)
      rw [hF.1 71 5 rfl, h71]
      by_cases cm : m < w
      · refine e_t ((nI_ltJ (by omega) (by omega)).mpr cm) ?_
        refine e_grd (inb_g hr rfl) ?_
        refine e_grd (inb_nI (by omega) (by omega)) ?_
        refine e_wrA (fun T2 e2 g2 v2 => ?_)
        have w2 := WR.st (k := 110) hW trivial rfl e2
        refine e_nm ?_
        refine e_nm ?_
        rw [nI_1, nI_1]
        exact rk16_goal hw h71 hs hk hK N (i + 1) (m + 1) T2 w2 (hF.tr g2 rfl) (qr_110 hQ hF (rn.ne (hQ.1 _) q3) e2) (by omega) (by omega) (by omega)
      · exact e_f (fun k => cm ((nI_ltJ (by omega) (by omega)).mp k)) out
theorem rk7_goal {S : SS} {w : Nat} (hw : w ≤ 5) (h71 : S.1 71 5 = nI w) : ∀ (N s m key : Nat) (T : SS), WR T → Fr [110, 112] [] S T → QR T → m ≤ w → key ≤ kyb s → s ≤ 4 → 4 < N + s → Ex2 (f_Potentials_rankOf_goal_L7 N (nI m) (nI key) (nI s) T) (fun _ U => WR U ∧ Fr [110, 112] [] S U ∧ QR U)
  | 0, s, m, key, T, hW, hF, hQ, hm, hk, hs, hN => by omega
  | N + 1, s, m, key, T, hW, hF, hQ, hm, hk, hs, hN => by
    refine e_eq (f_Potentials_rankOf_goal_L7.eq_2 _ _ _ _ _) ?_
    by_cases c : s = 4
    · subst c
      refine e_t (nI_le (a := 4) (by omega) (by omega)) ?_
      refine e_i (fun _ => ?_) (fun _ => e_some ⟨hW, hF, hQ⟩)
      refine e_cE (oox_seq hW hw ((hF.1 71 5 rfl).trans h71) hQ.2.1) (fun r T1 p => ?_)
      obtain ⟨w1, g1⟩ := p
      have := kyb_le 4
      refine e_grd (inb_nI (by omega) (by omega)) ?_
      exact e_some ⟨w1, hF.tr g1 rfl, hQ.fr g1 (fun k hk i => by
        simp only [List.mem_cons, List.mem_nil_iff, or_false] at hk
        rcases hk with rfl | rfl | rfl | rfl | rfl | rfl <;> rfl)⟩
    · have hs4 : s < 4 := by omega
      refine e_f (nI_ge (b := 4) hs4 (by omega)) ?_
      exact rk16_goal hw h71 hs4 hk (fun U m' k' a1 a2 a3 a4 a5 => rk7_goal hw h71 N (s + 1) m' k' U a1 a2 a3 a4 a5 (by omega) (by omega)) NF 0 m T hW hF hQ hm (by omega) (by have : NF = 100000 := rfl; omega)
theorem rkx_goal {S : SS} {w o sh : Nat} (hW : WR S) (h : QA S w o sh) (hQ : QR S) : Ex2 (f_Potentials_rankOf_goal S) (fun _ U => WR U ∧ Fr [110, 112] [] S U ∧ QR U) := by
  refine e_eq (f_Potentials_rankOf_goal.eq_1 _) ?_
  exact rk7_goal h.1 h.2.2.2.2.2.1 NF 0 0 0 S hW Fr.rf hQ (by omega) (Nat.zero_le _) (by omega) (by have : NF = 100000 := rfl; omega)
theorem rk16_start {S : SS} {K : Int32 → Int32 → Int32 → SS → Option (Int32 × SS)} {w s key : Nat} (hw : w ≤ 5) (h71 : S.1 71 5 = nI w) (hs : s < 4) (hk : key ≤ kyb s) (hK : ∀ U m key', WR U → Fr [110, 112] [] S U → QR U → m ≤ w → key' ≤ kyb (s + 1) → Ex2 (K (nI m) (nI key') (nI (s + 1)) U) (fun _ U => WR U ∧ Fr [110, 112] [] S U ∧ QR U)) : ∀ (N i m : Nat) (T : SS), WR T → Fr [110, 112] [] S T → QR T → m ≤ w → i ≤ 10 → 10 < N + i → Ex2 (f_Potentials_rankOf_start_L16 K N (nI m) (nI key) (nI s) (nI i) T) (fun _ U => WR U ∧ Fr [110, 112] [] S U ∧ QR U)
  | 0, i, m, T, hW, hF, hQ, hm, hi, hN => by omega
  | N + 1, i, m, T, hW, hF, hQ, hm, hi, hN => by
    refine e_eq (f_Potentials_rankOf_start_L16.eq_2 _ _ _ _ _ _ _) ?_
    have hh : f_Stacks_height_start (nI s) T = some (T.1 123 s, T) := by
      rw [f_Stacks_height_start.eq_1, if_neg (nI_nn (by omega)), if_neg (show ¬ ((4 : Int32) ≤ nI s) from nI_ge (b := 4) hs (by omega)), inb_nI hs (by omega), nI_clamp (by omega)]
      rfl
    rw [hh, bnd_r]
    obtain ⟨hgt, eh, h1, h2, h3⟩ := rg_ex (ro_123 hW s) (by omega)
    rw [eh]
    by_cases c : hgt ≤ i
    · refine e_t (nI_le c (by omega)) ?_
      obtain ⟨k', k1, k2⟩ := kw_n (k := key) (s := s) (e := m) T hs hk (by omega)
      rw [k2, bnd_r]
      refine e_nm ?_
      rw [nI_1]
      exact hK T m k' hW hF hQ hm k1
    · refine e_f (nI_ge (by omega) (by omega)) ?_
      refine e_cE (t_Stacks_wagonAt_start hW) (fun r T1 p => ?_)
      obtain ⟨-, g1, -⟩ := p
      have := fr_nil g1
      subst this
      have out : Ex2 (some ((-4 : Int32), T1)) (fun _ U => WR U ∧ Fr [110, 112] [] S U ∧ QR U) := e_some ⟨hW, hF, hQ⟩
      refine e_i (fun _ => out) (fun q1 => ?_)
      refine e_i (fun _ => out) (fun q2 => ?_)
      have hr := nle_r 9 (rgl 10 10 10 rfl) (nlt_l (rgt r) (rgl 0 0 0 rfl) q1) q2 rfl
      refine e_grd (inb_g hr rfl) ?_
      refine e_i (fun _ => out) (fun q3 => ?_)
      rw [hF.1 71 5 rfl, h71]
      by_cases cm : m < w
      · refine e_t ((nI_ltJ (by omega) (by omega)).mpr cm) ?_
        refine e_grd (inb_g hr rfl) ?_
        refine e_grd (inb_nI (by omega) (by omega)) ?_
        refine e_wrA (fun T2 e2 g2 v2 => ?_)
        have w2 := WR.st (k := 110) hW trivial rfl e2
        refine e_nm ?_
        refine e_nm ?_
        rw [nI_1, nI_1]
        exact rk16_start hw h71 hs hk hK N (i + 1) (m + 1) T2 w2 (hF.tr g2 rfl) (qr_110 hQ hF (rn.ne (hQ.1 _) q3) e2) (by omega) (by omega) (by omega)
      · exact e_f (fun k => cm ((nI_ltJ (by omega) (by omega)).mp k)) out
theorem rk7_start {S : SS} {w : Nat} (hw : w ≤ 5) (h71 : S.1 71 5 = nI w) : ∀ (N s m key : Nat) (T : SS), WR T → Fr [110, 112] [] S T → QR T → m ≤ w → key ≤ kyb s → s ≤ 4 → 4 < N + s → Ex2 (f_Potentials_rankOf_start_L7 N (nI m) (nI key) (nI s) T) (fun _ U => WR U ∧ Fr [110, 112] [] S U ∧ QR U)
  | 0, s, m, key, T, hW, hF, hQ, hm, hk, hs, hN => by omega
  | N + 1, s, m, key, T, hW, hF, hQ, hm, hk, hs, hN => by
    refine e_eq (f_Potentials_rankOf_start_L7.eq_2 _ _ _ _ _) ?_
    by_cases c : s = 4
    · subst c
      refine e_t (nI_le (a := 4) (by omega) (by omega)) ?_
      refine e_i (fun _ => ?_) (fun _ => e_some ⟨hW, hF, hQ⟩)
      refine e_cE (oox_seq hW hw ((hF.1 71 5 rfl).trans h71) hQ.2.1) (fun r T1 p => ?_)
      obtain ⟨w1, g1⟩ := p
      have := kyb_le 4
      refine e_grd (inb_nI (by omega) (by omega)) ?_
      exact e_some ⟨w1, hF.tr g1 rfl, hQ.fr g1 (fun k hk i => by
        simp only [List.mem_cons, List.mem_nil_iff, or_false] at hk
        rcases hk with rfl | rfl | rfl | rfl | rfl | rfl <;> rfl)⟩
    · have hs4 : s < 4 := by omega
      refine e_f (nI_ge (b := 4) hs4 (by omega)) ?_
      exact rk16_start hw h71 hs4 hk (fun U m' k' a1 a2 a3 a4 a5 => rk7_start hw h71 N (s + 1) m' k' U a1 a2 a3 a4 a5 (by omega) (by omega)) NF 0 m T hW hF hQ hm (by omega) (by have : NF = 100000 := rfl; omega)
theorem rkx_start {S : SS} {w o sh : Nat} (hW : WR S) (h : QA S w o sh) (hQ : QR S) : Ex2 (f_Potentials_rankOf_start S) (fun _ U => WR U ∧ Fr [110, 112] [] S U ∧ QR U) := by
  refine e_eq (f_Potentials_rankOf_start.eq_1 _) ?_
  exact rk7_start h.1 h.2.2.2.2.2.1 NF 0 0 0 S hW Fr.rf hQ (by omega) (Nat.zero_le _) (by omega) (by have : NF = 100000 := rfl; omega)
end
section
/-! ===== the class: the shapes' ends, and the MOVES of each shape ===== -/
/-- where a STACK of a shape ends -/
def en (S : SS) (sh s : Nat) : Nat := (S.1 114 (4 * sh + s)).toNatClampNeg
def eb (S : SS) (sh s : Nat) : Nat := if s = 0 then 0 else en S sh (s - 1)
def ShOk (S : SS) (sh w : Nat) : Prop := 4 * sh + 4 ≤ S.2 114 ∧ S.2 114 ≤ 224 ∧ w ≤ 5 ∧ (∀ s, s < 4 → S.1 114 (4 * sh + s) = nI (en S sh s)) ∧ en S sh 0 ≤ en S sh 1 ∧ en S sh 1 ≤ en S sh 2 ∧ en S sh 2 ≤ en S sh 3 ∧ en S sh 3 = w
theorem ShOk.of {S : SS} {w W sh : Nat} (h : QW S w W) (hE : QE S w (shN w)) (hs : sh < shN w) : ShOk S sh w := by
  obtain ⟨a, b, c, h1, h2, h3, e0, e1, e2, e3⟩ := hE sh hs
  obtain ⟨q1, q2, -, -, -, q3, -⟩ := h
  have q := qn q1 q2
  have n0 : en S sh 0 = a := by unfold en; rw [show 4 * sh + 0 = 4 * sh by omega, e0, nI_clamp (by omega)]
  have n1 : en S sh 1 = b := by unfold en; rw [e1, nI_clamp (by omega)]
  have n2 : en S sh 2 = c := by unfold en; rw [e2, nI_clamp (by omega)]
  have n3 : en S sh 3 = w := by unfold en; rw [e3, nI_clamp (by omega)]
  refine ⟨by omega, by omega, by omega, fun s hs4 => ?_, by omega, by omega, by omega, n3⟩
  rcases (show s = 0 ∨ s = 1 ∨ s = 2 ∨ s = 3 by omega) with rfl | rfl | rfl | rfl
  · rw [n0]; exact e0
  · rw [n1]; exact e1
  · rw [n2]; exact e2
  · rw [n3]; exact e3
theorem ShOk.cg {S T : SS} {sh w : Nat} (h : ShOk S sh w) (e : ∀ i, T.1 114 i = S.1 114 i) (e2 : T.2 114 = S.2 114) : ShOk T sh w ∧ ∀ s, en T sh s = en S sh s := by
  have n : ∀ s, en T sh s = en S sh s := fun s => by unfold en; rw [e]
  obtain ⟨h1, h2, h3, h4, h5, h6, h7, h8⟩ := h
  exact ⟨⟨by rw [e2]; exact h1, by rw [e2]; exact h2, h3, fun s hs => by rw [e, n]; exact h4 s hs, by rw [n, n]; exact h5, by rw [n, n]; exact h6, by rw [n, n]; exact h7, by rw [n]; exact h8⟩, n⟩
theorem ShOk.le {S : SS} {sh w : Nat} (h : ShOk S sh w) {s : Nat} (hs : s < 4) : en S sh s ≤ w ∧ eb S sh s ≤ en S sh s := by
  obtain ⟨h1, h2, h3, h4, h5, h6, h7, h8⟩ := h
  rcases (show s = 0 ∨ s = 1 ∨ s = 2 ∨ s = 3 by omega) with rfl | rfl | rfl | rfl
  · exact ⟨by omega, Nat.zero_le _⟩
  · exact ⟨by omega, h5⟩
  · exact ⟨by omega, h6⟩
  · exact ⟨by omega, h7⟩
theorem enx {S : SS} {sh w s : Nat} (h : ShOk S sh w) (hs : s < 4) : f_Potentials_endIn (nI sh) (nI s) S = some (nI (en S sh s), S) := by
  obtain ⟨h1, h2, h3, h4, -⟩ := h
  rw [f_Potentials_endIn.eq_1]
  have e : (4 : Int32) * nI sh + nI s = nI (4 * sh + s) := by
    rw [show (4 : Int32) * nI sh = nI (4 * sh) from nI_mul 4 sh, nI_add]
  rw [if_pos (show (0 : Int32) ≤ nI s from nI_le (a := 0) (Nat.zero_le s) (by omega)), e, inb_nI (by omega) (by omega), nI_clamp (n := 4 * sh + s) (by omega), h4 s hs]
  rfl
theorem hex {S : SS} {sh w s : Nat} (h : ShOk S sh w) (hs : s < 4) : f_Potentials_heightIn (nI sh) (nI s) S = some (nI (en S sh s - eb S sh s), S) := by
  have l := h.le hs
  have l5 := h.2.2.1
  rw [f_Potentials_heightIn.eq_1, enx h hs, bnd_r]
  by_cases c : s = 0
  · subst c
    rw [show nI 0 - (1 : Int32) = -1 by decide, f_Potentials_endIn.eq_1, if_neg (by decide), bnd_r]
    show some (nI (en S sh 0) - 0, S) = some (nI (en S sh 0 - 0), S)
    rw [Int32.sub_zero, Nat.sub_zero]
  · rw [show nI s - (1 : Int32) = nI (s - 1) from nI_sb (b := 1) (by omega) (by omega), enx h (by omega), bnd_r]
    unfold eb at l ⊢
    rw [if_neg c] at l ⊢
    rw [nI_sb l.2 (by omega)]
/-- where STACK s ends behind the MOVE -/
def vaf (S : SS) (sh f t n s : Nat) : Nat := if f ≤ s ∧ s < t then en S sh s - n else if t ≤ s ∧ s < f then en S sh s + n else en S sh s
theorem sa_step {S : SS} {sh w f t n s key : Nat} {K : Int32 → Int32 → Int32 → Int32 → Int32 → Int32 → SS → Option (Int32 × SS)} {P : Int32 → SS → Prop} (h : ShOk S sh w) (hf : f < 4) (ht : t < 4) (hft : f ≠ t) (hn : n ≤ en S sh f - eb S sh f) (hs : s < 4) (hk : key ≤ kyb s) (hK : ∀ key', key' ≤ kyb (s + 1) → Ex2 (K (nI sh) (nI f) (nI t) (nI n) (nI key') (nI (s + 1)) S) P) (N : Nat) : Ex2 (if (4 : Int32) ≤ nI s then grd (inb (nI key) 216) (some (S.1 113 (nI key).toNatClampNeg, S)) else if nI s < nI f then f_Potentials_shapeAfter_j29 K (nI sh) (nI f) (nI t) (nI n) (nI key) (nI s) S else if nI t ≤ nI s then f_Potentials_shapeAfter_j29 K (nI sh) (nI f) (nI t) (nI n) (nI key) (nI s) S else f_Potentials_shapeAfter_j30 K (nI sh) (nI f) (nI t) (nI n) (nI key) (nI s) (nI n) S) P := by
  obtain ⟨h1, h2, h3, h4, h5, h6, h7, h8⟩ := id h
  have ls := h.le hs
  have lf := h.le hf
  have lt := h.le ht
  have mono : ∀ a b, a ≤ b → b < 4 → en S sh a ≤ en S sh b := fun a b hab hb => by
    rcases (show b = 0 ∨ b = 1 ∨ b = 2 ∨ b = 3 by omega) with rfl | rfl | rfl | rfl
    · rw [show a = 0 by omega]; exact Nat.le_refl _
    · rcases (show a = 0 ∨ a = 1 by omega) with rfl | rfl <;> omega
    · rcases (show a = 0 ∨ a = 1 ∨ a = 2 by omega) with rfl | rfl | rfl <;> omega
    · rcases (show a = 0 ∨ a = 1 ∨ a = 2 ∨ a = 3 by omega) with rfl | rfl | rfl | rfl <;> omega
  have below : ∀ a, a < f → en S sh a ≤ eb S sh f := fun a ha => by
    unfold eb
    rw [if_neg (by omega)]
    exact mono a (f - 1) (by omega) (by omega)
  refine e_f (nI_ge (b := 4) hs (by omega)) ?_
  have fin : ∀ (x7 y0 : Int32) (v : Nat), v ≤ 5 → (nI (en S sh s) - x7) + y0 = nI v → Ex2 (f_Potentials_shapeAfter_j50 K (nI sh) (nI f) (nI t) (nI n) (nI key) (nI s) x7 y0 S) P := fun x7 y0 v hv e => by
    refine e_eq (f_Potentials_shapeAfter_j50.eq_1 _ _ _ _ _ _ _ _ _ _) ?_
    rw [enx h hs, bnd_r, e]
    obtain ⟨k', k1, k2⟩ := kw_n (k := key) (s := s) (e := v) S hs hk hv
    rw [k2, bnd_r]
    refine e_nm ?_
    rw [nI_1]
    exact hK k' k1
  have j30 : ∀ x7 : Int32, (x7 = 0 ∨ (f ≤ s ∧ s < t ∧ x7 = nI n)) → Ex2 (f_Potentials_shapeAfter_j30 K (nI sh) (nI f) (nI t) (nI n) (nI key) (nI s) x7 S) P := fun x7 hx => by
    refine e_eq (f_Potentials_shapeAfter_j30.eq_1 _ _ _ _ _ _ _ _ _) ?_
    have j49 : Ex2 (f_Potentials_shapeAfter_j49 K (nI sh) (nI f) (nI t) (nI n) (nI key) (nI s) x7 S) P := by
      refine e_eq (f_Potentials_shapeAfter_j49.eq_1 _ _ _ _ _ _ _ _ _) ?_
      rcases hx with rfl | ⟨c1, c2, rfl⟩
      · exact fin 0 0 (en S sh s) (by omega) (by rw [Int32.sub_zero, Int32.add_zero])
      · have := mono f s c1 hs
        exact fin (nI n) 0 (en S sh s - n) (by omega) (by rw [nI_sb (by omega) (by omega), Int32.add_zero])
    refine e_i (fun _ => j49) (fun q1 => ?_)
    refine e_i (fun _ => j49) (fun q2 => ?_)
    have c1 : t ≤ s := by
      rcases Nat.lt_or_ge s t with c | c
      · exact absurd ((nI_ltJ (by omega) (by omega)).mpr c) q1
      · exact c
    have c2 : s < f := by
      rcases Nat.lt_or_ge s f with c | c
      · exact c
      · exact absurd (nI_le c (by omega)) q2
    have b := below s c2
    rcases hx with rfl | ⟨d1, d2, -⟩
    · exact fin 0 (nI n) (en S sh s + n) (by omega) (by rw [Int32.sub_zero, nI_add])
    · omega
  have j29 : Ex2 (f_Potentials_shapeAfter_j29 K (nI sh) (nI f) (nI t) (nI n) (nI key) (nI s) S) P := e_eq (f_Potentials_shapeAfter_j29.eq_1 _ _ _ _ _ _ _ _) (j30 0 (Or.inl rfl))
  refine e_i (fun _ => j29) (fun q1 => ?_)
  refine e_i (fun _ => j29) (fun q2 => ?_)
  refine j30 (nI n) (Or.inr ⟨?_, ?_, rfl⟩)
  · rcases Nat.lt_or_ge s f with c | c
    · exact absurd ((nI_ltJ (by omega) (by omega)).mpr c) q1
    · exact c
  · rcases Nat.lt_or_ge s t with c | c
    · exact c
    · exact absurd (nI_le c (by omega)) q2
theorem sa_L6 {S : SS} {sh w f t n : Nat} (h : ShOk S sh w) (hf : f < 4) (ht : t < 4) (hft : f ≠ t) (hn : n ≤ en S sh f - eb S sh f) : ∀ (N s key : Nat), s ≤ 4 → key ≤ kyb s → 4 < N + s → Ex2 (f_Potentials_shapeAfter_L6 N (nI sh) (nI f) (nI t) (nI n) (nI key) (nI s) S) (fun _ U => U = S)
  | 0, s, key, hs, hk, hN => by omega
  | N + 1, s, key, hs, hk, hN => by
    refine e_eq (f_Potentials_shapeAfter_L6.eq_2 _ _ _ _ _ _ _ _) ?_
    by_cases c : s = 4
    · subst c
      have := kyb_le 4
      refine e_t (nI_le (a := 4) (by omega) (by omega)) ?_
      refine e_grd (inb_nI (by omega) (by omega)) ?_
      exact e_some rfl
    · exact sa_step h hf ht hft hn (by omega) hk (fun k' hk' => sa_L6 h hf ht hft hn N (s + 1) k' (by omega) hk' (by omega)) N
theorem sax {S : SS} {sh w f t n : Nat} (h : ShOk S sh w) (hf : f < 4) (ht : t < 4) (hft : f ≠ t) (hn : n ≤ en S sh f - eb S sh f) : Ex2 (f_Potentials_shapeAfter (nI sh) (nI f) (nI t) (nI n) S) (fun _ U => U = S) := by
  refine e_eq (f_Potentials_shapeAfter.eq_1 _ _ _ _ _) ?_
  exact sa_L6 h hf ht hft hn NF 0 0 (by omega) (Nat.zero_le _) (by have : NF = 100000 := rfl; omega)
def swN (i j k : Nat) : Nat := k * (k - 1) * (k - 2) / 6 + j * (j - 1) / 2 + i
theorem sw_all : ∀ i j k : Fin 6, i.1 < j.1 → j.1 < k.1 → ((((nI k.1 * (nI k.1 - (1 : Int32))) * (nI k.1 - (2 : Int32))) / (6 : Int32)) + ((nI j.1 * (nI j.1 - (1 : Int32))) / (2 : Int32))) + nI i.1 = nI (swN i.1 j.1 k.1) ∧ swN i.1 j.1 k.1 < 20 := by decide +kernel
theorem swx {S : SS} {i j k : Nat} (hi : i ≤ 5) (hj : j ≤ 5) (hk : k ≤ 5) : Ex2 (f_Potentials_swapOf (nI i) (nI j) (nI k) S) (fun r U => U = S ∧ rn r 0 19 ∧ (i < j → j < k → r = nI (swN i j k) ∧ swN i j k < 20)) := by
  refine e_eq (f_Potentials_swapOf.eq_1 _ _ _ _) ?_
  refine e_i (fun q => e_some ⟨rfl, rn4l _ _, fun c => absurd q (nI_ge c (by omega))⟩) (fun q => ?_)
  refine e_i (fun q2 => e_some ⟨rfl, rn4l _ _, fun _ c => absurd q2 (nI_ge c (by omega))⟩) (fun q2 => ?_)
  have c1 : i < j := by
    rcases Nat.lt_or_ge i j with c | c
    · exact c
    · exact absurd (nI_le c (by omega)) q
  have c2 : j < k := by
    rcases Nat.lt_or_ge j k with c | c
    · exact c
    · exact absurd (nI_le c (by omega)) q2
  have a := sw_all ⟨i, by omega⟩ ⟨j, by omega⟩ ⟨k, by omega⟩ c1 c2
  refine e_some ⟨rfl, ?_, fun _ _ => a⟩
  have a1 := a.1
  have a2 := a.2
  simp only at a1 a2
  rw [a1]
  exact Or.inr (rg_nI (by omega) (by omega) (by omega))
theorem sbx {S : SS} {sh w f t n : Nat} (h : ShOk S sh w) (hf : f < 4) (ht : t < 4) (hn : n ≤ en S sh f - eb S sh f) : Ex2 (f_Potentials_swapBy (nI sh) (nI f) (nI t) (nI n) S) (fun r U => U = S ∧ rn r 0 19) := by
  have lf := h.le hf
  have lt := h.le ht
  have l5 := h.2.2.1
  refine e_eq (f_Potentials_swapBy.eq_1 _ _ _ _ _) ?_
  rw [enx h hf, bnd_r, enx h ht, nI_sb (by omega) (by omega)]
  refine e_i (fun _ => ?_) (fun _ => ?_)
  · rw [bnd_r]
    refine e_cE (swx (by omega) (by omega) (by omega)) (fun r T p => ?_)
    obtain ⟨e, p, -⟩ := p
    subst e
    exact e_some ⟨rfl, p⟩
  · rw [bnd_r]
    refine e_cE (swx (by omega) (by omega) (by omega)) (fun r T p => ?_)
    obtain ⟨e, p, -⟩ := p
    subst e
    exact e_some ⟨rfl, p⟩
/-- what listEntries leaves as it was -/
def LF (S T : SS) : Prop := Fr [116, 117, 118, 119] [] S T
def LQ (T : SS) : Prop := WR T ∧ QR T
theorem lq_117 {S U : SS} {i : Nat} {v : Int32} (h : LQ S) (e : U = st S 117 i v) (g : Fr [117] [] S U) : LQ U := ⟨WR.st (k := 117) h.1 trivial rfl e, h.2.fr g (fun k hk i => by
  simp only [List.mem_cons, List.mem_nil_iff, or_false] at hk
  rcases hk with rfl | rfl | rfl | rfl | rfl | rfl <;> rfl)⟩
theorem lq_118 {S U : SS} {i : Nat} {v : Int32} (h : LQ S) (e : U = st S 118 i v) (g : Fr [118] [] S U) : LQ U := ⟨WR.st (k := 118) h.1 trivial rfl e, h.2.fr g (fun k hk i => by
  simp only [List.mem_cons, List.mem_nil_iff, or_false] at hk
  rcases hk with rfl | rfl | rfl | rfl | rfl | rfl <;> rfl)⟩
theorem lq_119 {S U : SS} {j : Nat} {v : Int32} (h : LQ S) (hv : rn v 0 19) (e : U = st S 119 j v) : LQ U := ⟨WR.st (k := 119) h.1 trivial rfl e, by
  obtain ⟨-, h1, h2, h3, h4, h5, h6⟩ := h
  subst e
  refine ⟨fun i => ?_, fun i => ?_, fun i => ?_, fun i => ?_, fun i => ?_, fun i => ?_⟩
  · rw [st_at, if_neg (by decide)]; exact h1 _
  · rw [st_at, if_neg (by decide)]; exact h2 _
  · rw [st_at, if_neg (by decide)]; exact h3 _
  · rw [st_at, if_neg (by decide)]; exact h4 _
  · rw [st_at, if_pos rfl]
    by_cases c : i = j
    · rw [if_pos c]; exact hv
    · rw [if_neg c]; exact h5 _
  · rw [st_at, if_neg (by decide)]; exact h6 _⟩
theorem lq_116 {S U : SS} {j : Nat} {v : Int32} (h : LQ S) (hv : rg v 0 840) (e : U = st S 116 j v) : LQ U := ⟨WR.st (k := 116) h.1 trivial rfl e, by
  obtain ⟨-, h1, h2, h3, h4, h5, h6⟩ := h
  subst e
  refine ⟨fun i => ?_, fun i => ?_, fun i => ?_, fun i => ?_, fun i => ?_, fun i => ?_⟩
  · rw [st_at, if_neg (by decide)]; exact h1 _
  · rw [st_at, if_neg (by decide)]; exact h2 _
  · rw [st_at, if_neg (by decide)]; exact h3 _
  · rw [st_at, if_pos rfl]
    by_cases c : i = j
    · rw [if_pos c]; exact hv
    · rw [if_neg c]; exact h4 _
  · rw [st_at, if_neg (by decide)]; exact h5 _
  · rw [st_at, if_neg (by decide)]; exact h6 _⟩
set_option maxHeartbeats 1000000 in
theorem le_L75 {S : SS} {K : Int32 → Int32 → Int32 → Int32 → SS → Option SS} {V : SS → Prop} {sh w f t mo B : Nat} (h : ShOk S sh w) (hf : f < 4) (ht : t < 4) (hft : f ≠ t) (hmo : mo ≤ en S sh f - eb S sh f) (hB : B ≤ S.2 117) (hB8 : S.2 118 = S.2 117) (hB9 : S.2 119 = S.2 117) (hB0 : S.2 117 ≤ 840) (hK : ∀ U e, LQ U → LF S U → e ≤ B → Ew (K (nI e) (nI sh) (nI f) (nI (t + 1)) U) V) : ∀ (N n e : Nat) (T : SS), LQ T → LF S T → 1 ≤ n → n ≤ mo + 1 → e + (mo + 1 - n) ≤ B → mo + 1 < N + n → Ew (f_Potentials_listEntries_Plans_rooms_L75 K N (nI e) (nI sh) (nI f) (nI t) (nI mo) (nI n) T) V
  | 0, n, e, T, hQ, hF, h1, hn, he, hN => by omega
  | N + 1, n, e, T, hQ, hF, h1, hn, he, hN => by
    have l5 := h.2.2.1
    have lf := h.le hf
    refine v_eq (f_Potentials_listEntries_Plans_rooms_L75.eq_2 _ _ _ _ _ _ _ _ _) ?_
    by_cases c : n = mo + 1
    · refine v_t ((nI_ltJ (by omega) (by omega)).mpr (by omega)) ?_
      refine v_nm ?_
      rw [nI_1]
      exact hK T e hQ hF (by omega)
    · refine v_f (fun k => c (by have := (nI_ltJ (by omega) (by omega)).mp k; omega)) ?_
      have s2 : T.2 = S.2 := hF.2
      rw [s2]
      refine v_grd (inb_nI (by omega) (by omega)) ?_
      refine v_wrA (fun T1 e1 g1 v1 => ?_)
      have q1 := lq_117 hQ e1 g1
      have F1 : LF S T1 := Fr.tr hF g1 rfl
      have o1 := h.cg (T := T1) (fun i => F1.1 114 i rfl) (by rw [F1.2])
      refine v_cE (sax (n := n) o1.1 hf ht hft (by rw [show eb T1 sh f = eb S sh f by unfold eb; rw [o1.2], o1.2]; omega)) (fun r T2 p => ?_)
      subst p
      rw [show T2.2 118 = S.2 117 by rw [F1.2]; exact hB8]
      refine v_grd (inb_nI (by omega) (by omega)) ?_
      refine v_wrA (fun T3 e3 g3 v3 => ?_)
      have q3 := lq_118 q1 e3 g3
      have F3 : LF S T3 := Fr.tr F1 g3 rfl
      have o3 := h.cg (T := T3) (fun i => F3.1 114 i rfl) (by rw [F3.2])
      refine v_cE (sbx (n := n) o3.1 hf ht (by rw [show eb T3 sh f = eb S sh f by unfold eb; rw [o3.2], o3.2]; omega)) (fun r T4 p => ?_)
      obtain ⟨p1, p2⟩ := p
      subst p1
      rw [show T4.2 119 = S.2 117 by rw [F3.2]; exact hB9]
      refine v_grd (inb_nI (by omega) (by omega)) ?_
      refine v_wrA (fun T5 e5 g5 v5 => ?_)
      have q5 := lq_119 q3 p2 e5
      refine v_nm ?_
      refine v_nm ?_
      rw [nI_1, nI_1]
      exact le_L75 h hf ht hft hmo hB hB8 hB9 hB0 hK N (n + 1) (e + 1) T5 q5 (Fr.tr F3 g5 rfl) (by omega) (by omega) (by omega) (by omega)
end
section
/-! ===== the class: listEntries ===== -/
def ctt (f t : Nat) : Nat := if f < t then t - 1 else t
theorem j70x {S : SS} {K : Int32 → Int32 → Int32 → Int32 → SS → Option SS} {V : SS → Prop} {sh w f t B : Nat} (h : ShOk S sh w) (hf : f < 4) (ht : t < 4) (hB8 : S.2 118 = S.2 117) (hB9 : S.2 119 = S.2 117) (hB0 : S.2 117 ≤ 840) (hB : B ≤ S.2 117) {e : Nat} {T : SS} {x6 : Int32} (hQ : LQ T) (hF : LF S T) (hx : x6 < 1 ∨ (f ≠ t ∧ ∃ mo, x6 = nI mo ∧ mo ≤ en S sh f - eb S sh f ∧ e + mo ≤ B)) (he : e ≤ B) (hK : ∀ U e, LQ U → LF S U → e ≤ B → Ew (K (nI e) (nI sh) (nI f) (nI (t + 1)) U) V) : Ew (f_Potentials_listEntries_Plans_rooms_j70 K (nI e) (nI sh) (nI f) (nI t) x6 T) V := by
  refine v_eq (f_Potentials_listEntries_Plans_rooms_j70.eq_1 _ _ _ _ _ _ _) ?_
  rcases hx with hx | ⟨hft, mo, rfl, h1, h2⟩
  · refine v_eq (f_Potentials_listEntries_Plans_rooms_L75.eq_2 _ _ _ _ _ _ _ _ 99999) ?_
    refine v_t hx ?_
    refine v_nm ?_
    rw [nI_1]
    exact hK T e hQ hF he
  · have lf := h.le hf
    have l5 := h.2.2.1
    exact le_L75 h hf ht hft h1 hB hB8 hB9 hB0 hK NF 1 e T hQ hF (by omega) (by omega) (by omega) (by have : NF = 100000 := rfl; omega)
set_option maxHeartbeats 1000000 in
theorem le_L31 {S : SS} {K : Int32 → Int32 → Int32 → SS → Option SS} {V : SS → Prop} {sh w f c : Nat} (h : ShOk S sh w) (hf : f < 4) (hB8 : S.2 118 = S.2 117) (hB9 : S.2 119 = S.2 117) (hB0 : S.2 117 ≤ 840) (hc : c + 3 * w ≤ S.2 117) (hK : ∀ U e, LQ U → LF S U → e ≤ c + 3 * en S sh f → Ew (K (nI e) (nI sh) (nI (f + 1)) U) V) : ∀ (N t e : Nat) (T : SS), LQ T → LF S T → t ≤ 4 → e ≤ c + 3 * eb S sh f + ctt f t * (en S sh f - eb S sh f) → 4 < N + t → Ew (f_Potentials_listEntries_Plans_rooms_L31 K N (nI e) (nI sh) (nI f) (nI t) T) V
  | 0, t, e, T, hQ, hF, ht, he, hN => by omega
  | N + 1, t, e, T, hQ, hF, ht, he, hN => by
    have lf := h.le hf
    have l5 := h.2.2.1
    refine v_eq (f_Potentials_listEntries_Plans_rooms_L31.eq_2 _ _ _ _ _ _ _) ?_
    by_cases ct : t = 4
    · subst ct
      refine v_t (nI_le (a := 4) (by omega) (by omega)) ?_
      refine v_nm ?_
      rw [nI_1]
      refine hK T e hQ hF ?_
      have : ctt f 4 = 3 := by unfold ctt; rw [if_pos hf]
      rw [this] at he
      omega
    · have ht4 : t < 4 := by omega
      refine v_f (nI_ge (b := 4) ht4 (by omega)) ?_
      have c3 : ctt f t ≤ 3 := by
        unfold ctt
        by_cases d : f < t
        · rw [if_pos d]; omega
        · rw [if_neg d]; omega
      have m3 : ctt f t * (en S sh f - eb S sh f) ≤ 3 * (en S sh f - eb S sh f) := Nat.mul_le_mul_right _ c3
      by_cases d : f = t
      · subst d
        refine v_t rfl ?_
        refine j70x h hf ht4 hB8 hB9 hB0 (B := c + 3 * eb S sh f + ctt f f * (en S sh f - eb S sh f)) (by omega) hQ hF (Or.inl (by decide)) he (fun U e' u1 u2 u3 => ?_)
        refine le_L31 h hf hB8 hB9 hB0 hc hK N (f + 1) e' U u1 u2 (by omega) ?_ (by omega)
        have : ctt f (f + 1) = ctt f f := by unfold ctt; rw [if_pos (by omega), if_neg (by omega)]; omega
        rw [this]; exact u3
      · refine v_f (fun k => d (nI_inj (by omega) (by omega) k)) ?_
        have o := h.cg (T := T) (fun i => hF.1 114 i rfl) (by rw [hF.2])
        have ob : ∀ s, eb T sh s = eb S sh s := fun s => by unfold eb; rw [o.2]
        rw [hex o.1 hf, bnd_r]
        refine v_grd (inb_nI ht4 (by omega)) ?_
        rw [hex o.1 ht4, bnd_r, o.2, ob, o.2, ob]
        have cs : ctt f (t + 1) = ctt f t + 1 := by
          unfold ctt
          by_cases e1 : f < t
          · rw [if_pos e1, if_pos (by omega)]; omega
          · rw [if_neg e1, if_neg (by omega)]
        have sm : (ctt f t + 1) * (en S sh f - eb S sh f) = ctt f t * (en S sh f - eb S sh f) + (en S sh f - eb S sh f) := Nat.succ_mul _ _
        have key : ∀ x6 : Int32, (x6 < 1 ∨ ∃ mo, x6 = nI mo ∧ mo ≤ en S sh f - eb S sh f) → Ew (f_Potentials_listEntries_Plans_rooms_j70 (fun v0 v1 v2 v3 S => f_Potentials_listEntries_Plans_rooms_L31 K N v0 v1 v2 v3 S) (nI e) (nI sh) (nI f) (nI t) x6 T) V := fun x6 hx => by
          have hx' : x6 < 1 ∨ (f ≠ t ∧ ∃ mo, x6 = nI mo ∧ mo ≤ en S sh f - eb S sh f ∧ e + mo ≤ c + 3 * eb S sh f + (ctt f t + 1) * (en S sh f - eb S sh f)) := by
            rcases hx with hx | ⟨mo, m1, m2⟩
            · exact Or.inl hx
            · refine Or.inr ⟨d, mo, m1, m2, ?_⟩
              omega
          have c4 : ctt f t + 1 ≤ 3 := by
            unfold ctt
            by_cases e1 : f < t
            · rw [if_pos e1]; omega
            · rw [if_neg e1]; omega
          have m4 : (ctt f t + 1) * (en S sh f - eb S sh f) ≤ 3 * (en S sh f - eb S sh f) := Nat.mul_le_mul_right _ c4
          refine j70x h hf ht4 hB8 hB9 hB0 (B := c + 3 * eb S sh f + (ctt f t + 1) * (en S sh f - eb S sh f)) (by omega) hQ hF hx' (by omega) (fun U e' u1 u2 u3 => ?_)
          refine le_L31 h hf hB8 hB9 hB0 hc hK N (t + 1) e' U u1 u2 (by omega) ?_ (by omega)
          rw [cs]; exact u3
        refine v_bnd ?_
        refine e_eq (f_Math_min_7cf53.eq_1 _ _ _) ?_
        refine e_i (fun q => ?_) (fun q => ?_)
        · refine e_some (key _ ?_)
          generalize (T.1 106 (nI t).toNatClampNeg - nI (en S sh t - eb S sh t)) = y at q ⊢
          by_cases c1 : y < 1
          · exact Or.inl c1
          · obtain ⟨mo, rfl, -, -, m3'⟩ := rg_ex (nlt_l (rgt y) (rgl 1 1 1 rfl) c1) (by omega)
            have := (nI_ltJ m3' (by omega)).mp q
            exact Or.inr ⟨mo, rfl, by omega⟩
        · exact e_some (key _ (Or.inr ⟨_, rfl, Nat.le_refl _⟩))
theorem le_L22 {S : SS} {K : Int32 → Int32 → SS → Option SS} {V : SS → Prop} {sh w c : Nat} (h : ShOk S sh w) (hB8 : S.2 118 = S.2 117) (hB9 : S.2 119 = S.2 117) (hB0 : S.2 117 ≤ 840) (hc : c + 3 * w ≤ S.2 117) (hK : ∀ U e, LQ U → LF S U → e ≤ c + 3 * w → Ew (K (nI e) (nI (sh + 1)) U) V) : ∀ (N f e : Nat) (T : SS), LQ T → LF S T → f ≤ 4 → e ≤ c + 3 * eb S sh f → 4 < N + f → Ew (f_Potentials_listEntries_Plans_rooms_L22 K N (nI e) (nI sh) (nI f) T) V
  | 0, f, e, T, hQ, hF, hf, he, hN => by omega
  | N + 1, f, e, T, hQ, hF, hf, he, hN => by
    refine v_eq (f_Potentials_listEntries_Plans_rooms_L22.eq_2 _ _ _ _ _ _) ?_
    by_cases c4 : f = 4
    · subst c4
      refine v_t (nI_le (a := 4) (by omega) (by omega)) ?_
      refine v_nm ?_
      rw [nI_1]
      refine hK T e hQ hF ?_
      have : eb S sh 4 = w := h.2.2.2.2.2.2.2
      rw [this] at he
      exact he
    · have hf4 : f < 4 := by omega
      have lf := h.le hf4
      refine v_f (nI_ge (b := 4) hf4 (by omega)) ?_
      refine le_L31 h hf4 hB8 hB9 hB0 hc (fun U e' u1 u2 u3 => le_L22 h hB8 hB9 hB0 hc hK N (f + 1) e' U u1 u2 (by omega) ?_ (by omega)) NF 0 e T hQ hF (by omega) ?_ (by have : NF = 100000 := rfl; omega)
      · have : eb S sh (f + 1) = en S sh f := by
          unfold eb
          rw [if_neg (by omega)]
          rfl
        rw [this]; exact u3
      · have : ctt f 0 = 0 := rfl
        rw [this]
        omega
theorem le_L4 {S : SS} {w W : Nat} (hw : QW S w W) (hE : QE S w (shN w)) : ∀ (N sh e : Nat) (T : SS), LQ T → LF S T → sh ≤ shN w → e ≤ sh * (3 * w) → shN w < N + sh → Ew (f_Potentials_listEntries_Plans_rooms_L4 N (nI e) (nI sh) T) (fun U => LQ U ∧ LF S U)
  | 0, sh, e, T, hQ, hF, hs, he, hN => by omega
  | N + 1, sh, e, T, hQ, hF, hs, he, hN => by
    obtain ⟨q1, q2, q5, q6, q7, l4, l5, l6, l7, l8, l9, l0, l1⟩ := id hw
    have q := qn q1 q2
    have m1 : sh * (3 * w) ≤ shN w * (3 * w) := Nat.mul_le_mul_right _ hs
    have m2 : shN w * (3 * w) = shN w * w * 3 := by rw [Nat.mul_comm 3 w, Nat.mul_assoc]
    refine v_eq (f_Potentials_listEntries_Plans_rooms_L4.eq_2 _ _ _ _) ?_
    rw [hF.1 71 7 rfl, q7, hF.2, l6]
    by_cases c : sh = shN w
    · refine v_t (nI_le (by omega) (by omega)) ?_
      refine v_grd (inb_nI (by omega) (by omega)) ?_
      refine v_wrA (fun U e1 g1 v1 => ?_)
      exact v_some ⟨lq_116 hQ (rg_nI (by omega) (by omega) (by omega)) e1, Fr.tr hF g1 rfl⟩
    · have hsh : sh < shN w := by omega
      refine v_f (nI_ge hsh (by omega)) ?_
      refine v_grd (inb_nI (by omega) (by omega)) ?_
      refine v_wrA (fun U e1 g1 v1 => ?_)
      have sm : (sh + 1) * (3 * w) = sh * (3 * w) + 3 * w := Nat.succ_mul _ _
      have m3 : sh * (3 * w) + 3 * w ≤ shN w * (3 * w) := by
        rw [← sm]
        exact Nat.mul_le_mul_right _ hsh
      refine le_L22 (c := sh * (3 * w)) (ShOk.of hw hE hsh) (by omega) (by omega) (by omega) (by omega) (fun U' e' u1 u2 u3 => le_L4 hw hE N (sh + 1) e' U' u1 u2 (by omega) (by omega) (by omega)) NF 0 e U (lq_116 hQ (rg_nI (by omega) (by omega) (by omega)) e1) (Fr.tr hF g1 rfl) (by omega) ?_ (by have : NF = 100000 := rfl; omega)
      show e ≤ sh * (3 * w) + 3 * 0
      omega
theorem lex {S : SS} {w W : Nat} (hW : WR S) (hR : QR S) (hw : QW S w W) (hE : QE S w (shN w)) : Ew (f_Potentials_listEntries_Plans_rooms S) (fun U => LQ U ∧ LF S U) := by
  have q := qn hw.1 hw.2.1
  refine v_eq (f_Potentials_listEntries_Plans_rooms.eq_1 _) ?_
  exact le_L4 hw hE NF 0 0 S ⟨hW, hR⟩ Fr.rf (by omega) (by omega) (by have : NF = 100000 := rfl; omega)
/-! ===== the class: where a MOVE leads; prove; the first MOVE down ===== -/
theorem rax {S : SS} {w W : Nat} {a b : Int32} (hw : QW S w W) (hR : QR S) : Ex2 (f_Potentials_rankAfter a b S) (fun _ U => U = S) := by
  obtain ⟨q1, q2, q5, q6, q7, l4, l5, l6, l7, l8, l9, l0, l1⟩ := id hw
  have q := qn q1 q2
  refine e_eq (f_Potentials_rankAfter.eq_1 _ _ _) ?_
  refine e_cE (isR hw.qa) (fun r T p => ?_)
  obtain ⟨e, p⟩ := p
  subst e
  rcases p with p | ⟨p, k, k1, rfl⟩
  · exact e_t p (e_some rfl)
  · refine e_f (by rw [p]; decide) ?_
    refine e_i (fun _ => e_some rfl) (fun qb => ?_)
    refine e_i (fun qc => ?_) (fun _ => e_some rfl)
    obtain ⟨j, rfl, -, -, j3⟩ := rg_ex (nlt_l (rgt b) (rgl 0 0 0 rfl) qb) (by omega)
    have hj : j < T.2 117 := (nI_ltJ j3 (by omega)).mp qc
    rw [q7]
    refine e_grd (nI_nz (by omega) (by omega)) ?_
    refine e_nm ?_
    refine e_grd (inb_nI (by omega) (by omega)) ?_
    refine e_nm ?_
    have fin : ∀ y : Int32, Ex2 (f_Potentials_rankAfter_j62 (nI j) y T) (fun _ U => U = T) := fun y => by
      refine e_eq (f_Potentials_rankAfter_j62.eq_1 _ _ _) ?_
      refine e_grd (inb_nI (by omega) (by omega)) ?_
      exact e_some rfl
    rw [nI_clamp (n := j) j3]
    refine e_i (fun _ => fin _) (fun q4 => ?_)
    obtain ⟨v, ev, v1, v2, v3⟩ := rg_ex (rn.ne (hR.2.2.2.2.1 j) q4) (by omega)
    have hd : k / shN w < fcN w := by
      rw [Nat.mul_comm] at k1
      exact Nat.div_lt_of_lt_mul k1
    have f120 : fcN w ≤ 120 := fcN_le (by omega)
    rw [ev, nI_div (by omega) (by omega) (by omega), show (20 : Int32) * nI (k / shN w) = nI (20 * (k / shN w)) from nI_mul 20 _, nI_add]
    refine e_grd (inb_nI (by omega) (by omega)) ?_
    exact fin _
end
section
/-! ===== the class: prove; the first MOVE down ===== -/
theorem ip_L14 {S : SS} {w W k z : Nat} (hw : QW S w W) (hR : QR S) (hk : k < fcN w * shN w) (hz : z < shN w) : ∀ (N x : Nat), x ≤ 840 → 840 < N + x → Ex2 (f_Potentials_isProved_L14 N (nI k) (nI z) (nI x) S) (fun _ U => U = S)
  | 0, x, hx, hN => by omega
  | N + 1, x, hx, hN => by
    obtain ⟨q1, q2, q5, q6, q7, l4, l5, l6, l7, l8, l9, l0, l1⟩ := id hw
    have q := qn q1 q2
    refine e_eq (f_Potentials_isProved_L14.eq_2 _ _ _ _ _) ?_
    rw [nI_1]
    refine e_grd (inb_nI (by omega) (by omega)) ?_
    obtain ⟨fb, ef, f1, f2, f3⟩ := rg_ex (hR.2.2.2.1 (nI (z + 1)).toNatClampNeg) (by omega)
    rw [ef]
    by_cases c : fb ≤ x
    · exact e_t (nI_le c (by omega)) (e_some rfl)
    · refine e_f (nI_ge (by omega) (by omega)) ?_
      refine e_cE (rax hw hR) (fun r T p => ?_)
      subst p
      refine e_cE (ofx hw.qa hR.2.2.2.2.2) (fun r2 T2 p => ?_)
      obtain ⟨e2, -⟩ := p
      subst e2
      refine e_i (fun _ => e_some rfl) (fun _ => ?_)
      refine e_grd (inb_nI (by omega) (by omega)) ?_
      refine e_i (fun _ => ?_) (fun _ => e_some rfl)
      refine e_nm ?_
      rw [nI_1]
      exact ip_L14 hw hR hk hz N (x + 1) (by omega) (by omega)
theorem ipx {S : SS} {w W k : Nat} (hw : QW S w W) (hR : QR S) (hk : k < fcN w * shN w) : Ex2 (f_Potentials_isProved (nI k) S) (fun _ U => U = S) := by
  obtain ⟨q1, q2, q5, q6, q7, l4, l5, l6, l7, l8, l9, l0, l1⟩ := id hw
  have q := qn q1 q2
  have hm : k % shN w < shN w := Nat.mod_lt _ (by omega)
  refine e_eq (f_Potentials_isProved.eq_1 _ _) ?_
  rw [q7]
  refine e_grd (nI_nz (by omega) (by omega)) ?_
  refine e_nm ?_
  rw [nI_rem (by omega) (by omega) (by omega)]
  refine e_grd (inb_nI (by omega) (by omega)) ?_
  refine e_nm ?_
  obtain ⟨fb, ef, f1, f2, f3⟩ := rg_ex (hR.2.2.2.1 (nI (k % shN w)).toNatClampNeg) (by omega)
  rw [ef]
  exact ip_L14 hw hR hk hm NF fb (by omega) (by have : NF = 100000 := rfl; omega)
theorem pv_L7 {S : SS} {w W : Nat} (hw : QW S w W) (hR : QR S) : ∀ (N k : Nat), k ≤ fcN w * shN w → fcN w * shN w < N + k → Ex2 (f_Potentials_prove_Plans_rooms_L7 N (nI k) S) (fun _ U => U = S)
  | 0, k, hk, hN => by omega
  | N + 1, k, hk, hN => by
    obtain ⟨q1, q2, q5, q6, q7, l4, l5, l6, l7, l8, l9, l0, l1⟩ := id hw
    have q := qn q1 q2
    refine e_eq (f_Potentials_prove_Plans_rooms_L7.eq_2 _ _ _) ?_
    rw [q6, q7, nI_mul]
    by_cases c : k = fcN w * shN w
    · exact e_t (nI_le (by omega) (by omega)) (e_some rfl)
    · have hk' : k < fcN w * shN w := by omega
      refine e_f (nI_ge hk' (by omega)) ?_
      refine e_grd (inb_nI (by omega) (by omega)) ?_
      have go : Ex2 (f_Potentials_prove_Plans_rooms_j41 (fun v0 S => f_Potentials_prove_Plans_rooms_L7 N v0 S) (nI k) S) (fun _ U => U = S) := by
        refine e_eq (f_Potentials_prove_Plans_rooms_j41.eq_1 _ _ _) ?_
        refine e_nm ?_
        rw [nI_1]
        exact pv_L7 hw hR N (k + 1) (by omega) (by omega)
      refine e_i (fun _ => go) (fun _ => ?_)
      refine e_cE (ipx hw hR hk') (fun r T p => ?_)
      subst p
      exact e_i (fun _ => e_some rfl) (fun _ => go)
theorem QW.of {S U : SS} {w W : Nat} (h : QW S w W) (e2 : U.2 = S.2) (e5 : U.1 71 5 = S.1 71 5) (e6 : U.1 71 6 = S.1 71 6) (e7 : U.1 71 7 = S.1 71 7) : QW U w W := by
  obtain ⟨q1, q2, q5, q6, q7, r⟩ := h
  refine ⟨q1, q2, e5.trans q5, e6.trans q6, e7.trans q7, ?_⟩
  rw [e2]
  exact r
theorem QE.of {S U : SS} {w k : Nat} (h : QE S w k) (e : ∀ i, U.1 114 i = S.1 114 i) : QE U w k := fun sh hs => by
  obtain ⟨a, b, c, h1, h2, h3, h4, h5, h6, h7⟩ := h sh hs
  exact ⟨a, b, c, h1, h2, h3, by rw [e]; exact h4, by rw [e]; exact h5, by rw [e]; exact h6, by rw [e]; exact h7⟩
theorem LF.qw {S U : SS} {w W : Nat} (h : QW S w W) (g : LF S U) : QW U w W := h.of g.2 (g.1 71 5 rfl) (g.1 71 6 rfl) (g.1 71 7 rfl)
theorem LF.qe {S U : SS} {w k : Nat} (h : QE S w k) (g : LF S U) : QE U w k := h.of (fun i => g.1 114 i rfl)
theorem pvx {S : SS} {w W : Nat} (hW : WR S) (hR : QR S) (hw : QW S w W) (hE : QE S w (shN w)) : Ex2 (f_Potentials_prove_Plans_rooms S) (fun _ U => LQ U ∧ LF S U) := by
  have q := qn hw.1 hw.2.1
  have q' := qn (Nat.le_refl w) (by have := hw.1; have := hw.2.1; omega : w ≤ 5)
  refine e_eq (f_Potentials_prove_Plans_rooms.eq_1 _) ?_
  refine e_cV (lex hW hR hw hE) (fun T p => ?_)
  obtain ⟨p1, p2⟩ := p
  refine e_mono (pv_L7 (LF.qw hw p2) p1.2 NF 0 (by omega) (by have : NF = 100000 := rfl; omega)) (fun r U e => ?_)
  rw [e]
  exact ⟨p1, p2⟩
theorem ed_L26 {S : SS} {w W z : Nat} {a : Int32} (hw : QW S w W) (hR : QR S) (hz : z < shN w) : ∀ (N x : Nat), x ≤ 840 → 840 < N + x → Ex2 (f_Potentials_entryDown_L26 N a (nI z) (nI x) S) (fun _ U => U = S)
  | 0, x, hx, hN => by omega
  | N + 1, x, hx, hN => by
    obtain ⟨q1, q2, q5, q6, q7, l4, l5, l6, l7, l8, l9, l0, l1⟩ := id hw
    have q := qn q1 q2
    refine e_eq (f_Potentials_entryDown_L26.eq_2 _ _ _ _ _) ?_
    rw [nI_1]
    refine e_grd (inb_nI (by omega) (by omega)) ?_
    obtain ⟨fb, ef, f1, f2, f3⟩ := rg_ex (hR.2.2.2.1 (nI (z + 1)).toNatClampNeg) (by omega)
    rw [ef]
    by_cases c : fb ≤ x
    · exact e_t (nI_le c (by omega)) (e_some rfl)
    · refine e_f (nI_ge (by omega) (by omega)) ?_
      refine e_cE (rax hw hR) (fun r T p => ?_)
      subst p
      refine e_cE (ofx hw.qa hR.2.2.2.2.2) (fun r2 T2 p => ?_)
      obtain ⟨e2, -⟩ := p
      subst e2
      refine e_cE (ofx hw.qa hR.2.2.2.2.2) (fun r3 T3 p => ?_)
      obtain ⟨e3, -⟩ := p
      subst e3
      refine e_i (fun _ => e_some rfl) (fun _ => ?_)
      refine e_nm ?_
      rw [nI_1]
      exact ed_L26 hw hR hz N (x + 1) (by omega) (by omega)
theorem edx {S : SS} {w W : Nat} {a : Int32} (hw : QW S w W) (hR : QR S) : Ex2 (f_Potentials_entryDown a S) (fun _ U => U = S) := by
  obtain ⟨q1, q2, q5, q6, q7, l4, l5, l6, l7, l8, l9, l0, l1⟩ := id hw
  have q := qn q1 q2
  have j18 : ∀ z, z < shN w → Ex2 (f_Potentials_entryDown_j18 a (nI z) S) (fun _ U => U = S) := fun z hz => by
    refine e_eq (f_Potentials_entryDown_j18.eq_1 _ _ _) ?_
    refine e_grd (inb_nI (by omega) (by omega)) ?_
    refine e_nm ?_
    obtain ⟨fb, ef, f1, f2, f3⟩ := rg_ex (hR.2.2.2.1 (nI z).toNatClampNeg) (by omega)
    rw [ef]
    exact ed_L26 hw hR hz NF fb (by omega) (by have : NF = 100000 := rfl; omega)
  refine e_eq (f_Potentials_entryDown.eq_1 _ _) ?_
  refine e_cE (isR hw.qa) (fun r T p => ?_)
  obtain ⟨e, p⟩ := p
  subst e
  rcases p with p | ⟨p, k, k1, rfl⟩
  · exact e_t p (j18 0 (by omega))
  · refine e_f (by rw [p]; decide) ?_
    rw [q7]
    refine e_grd (nI_nz (by omega) (by omega)) ?_
    have q' := qn (Nat.le_refl w) (by omega : w ≤ 5)
    rw [nI_rem (by omega) (by omega) (by omega)]
    exact j18 _ (Nat.mod_lt _ (by omega))
theorem mox {S : SS} {w W : Nat} {a : Int32} (hw : QW S w W) : Ex2 (f_Potentials_moveOf a S) (fun _ U => U = S) := by
  obtain ⟨q1, q2, q5, q6, q7, l4, l5, l6, l7, l8, l9, l0, l1⟩ := id hw
  have q := qn q1 q2
  refine e_eq (f_Potentials_moveOf.eq_1 _ _) ?_
  refine e_i (fun _ => e_some rfl) (fun qa => ?_)
  refine e_i (fun qb => ?_) (fun _ => e_some rfl)
  obtain ⟨j, rfl, -, -, j3⟩ := rg_ex (nlt_l (rgt a) (rgl 0 0 0 rfl) qa) (by omega)
  have hj : j < S.2 117 := (nI_ltJ j3 (by omega)).mp qb
  refine e_grd (inb_nI (by omega) (by omega)) ?_
  exact e_some rfl
/-! ===== the class: filling, and spreading ===== -/
theorem QR.s120 {S U : SS} {j : Nat} {v : Int32} (h : QR S) (hv : rn v 0 6720) (e : U = st S 120 j v) : QR U := by
  obtain ⟨h1, h2, h3, h4, h5, h6⟩ := h
  subst e
  refine ⟨fun i => ?_, fun i => ?_, fun i => ?_, fun i => ?_, fun i => ?_, fun i => ?_⟩
  · rw [st_at, if_neg (by decide)]; exact h1 _
  · rw [st_at, if_neg (by decide)]; exact h2 _
  · rw [st_at, if_neg (by decide)]; exact h3 _
  · rw [st_at, if_neg (by decide)]; exact h4 _
  · rw [st_at, if_neg (by decide)]; exact h5 _
  · rw [st_at, if_pos rfl]
    by_cases c : i = j
    · rw [if_pos c]; exact hv
    · rw [if_neg c]; exact h6 _
theorem fi_L5 {S : SS} {n : Nat} (hn : S.2 120 = n) (h6 : n ≤ 6720) : ∀ (N i : Nat) (T : SS), WR T → QR T → Fr [120] [] S T → i ≤ n → n < N + i → Ew (f_Arrays_fill_53178_Potentials_least_L5 N (-4) (nI i) (nI n) T) (fun U => WR U ∧ QR U ∧ Fr [120] [] S U)
  | 0, i, T, hW, hQ, hF, hi, hN => by omega
  | N + 1, i, T, hW, hQ, hF, hi, hN => by
    refine v_eq (f_Arrays_fill_53178_Potentials_least_L5.eq_2 _ _ _ _ _) ?_
    by_cases c : i = n
    · exact v_t (nI_le (by omega) (by omega)) (v_some ⟨hW, hQ, hF⟩)
    · refine v_f (nI_ge (by omega) (by omega)) ?_
      rw [hF.2]
      refine v_grd (inb_nI (by omega) (by omega)) ?_
      refine v_wrA (fun U e g v => ?_)
      refine v_nm ?_
      rw [nI_1]
      exact fi_L5 hn h6 N (i + 1) U (WR.st (k := 120) hW trivial rfl e) (hQ.s120 (rn4l _ _) e) (Fr.tr hF g rfl) (by omega) (by omega)
theorem fix {S : SS} (hW : WR S) (hQ : QR S) (h6 : S.2 120 ≤ 6720) : Ew (f_Arrays_fill_53178_Potentials_least (-4) S) (fun U => WR U ∧ QR U ∧ Fr [120] [] S U) := by
  refine v_eq (f_Arrays_fill_53178_Potentials_least.eq_1 _ _) ?_
  refine v_nm ?_
  exact fi_L5 rfl h6 NF 0 S hW hQ Fr.rf (by omega) (by have : NF = 100000 := rfl; omega)
/-- the queue: ranks, each with its POTENTIAL -/
def SQ (T : SS) (M t : Nat) : Prop := ∀ i, i < t → ∃ q p, q < M ∧ p ≤ i ∧ T.1 121 i = nI q ∧ T.1 120 q = nI p
def SF (S T : SS) : Prop := Fr [120, 121] [] S T
set_option maxHeartbeats 1000000 in
theorem sp_L105 {S : SS} {K : Int32 → Int32 → SS → Option SS} {V : SS → Prop} {w W h z q : Nat} (hw : QW S w W) (hz : z < shN w) (hq : q < fcN w * shN w) (hK : ∀ U t, WR U → QR U → SF S U → SQ U (fcN w * shN w) t → h < t → t ≤ fcN W * shN W → Ew (K (nI t) (nI (h + 1)) U) V) : ∀ (N x t : Nat) (T : SS), WR T → QR T → SF S T → SQ T (fcN w * shN w) t → T.1 121 h = nI q → h < t → t ≤ fcN W * shN W → x ≤ 840 → 840 < N + x → Ew (f_Potentials_spreadFrom_goal_Plans_rooms_L105 K N (nI t) (nI h) (nI q) (nI z) (nI x) T) V
  | 0, x, t, T, hW, hR, hF, hS, hh, ht, htt, hx, hN => by omega
  | N + 1, x, t, T, hW, hR, hF, hS, hh, ht, htt, hx, hN => by
    have hwT : QW T w W := hw.of hF.2 (hF.1 71 5 rfl) (hF.1 71 6 rfl) (hF.1 71 7 rfl)
    obtain ⟨q1, q2, q5, q6, q7, l4, l5, l6, l7, l8, l9, l0, l1⟩ := id hwT
    have qq := qn q1 q2
    refine v_eq (f_Potentials_spreadFrom_goal_Plans_rooms_L105.eq_2 _ _ _ _ _ _ _ _) ?_
    rw [nI_1]
    refine v_grd (inb_nI (by omega) (by omega)) ?_
    obtain ⟨fb, ef, f1, f2, f3⟩ := rg_ex (hR.2.2.2.1 (nI (z + 1)).toNatClampNeg) (by omega)
    rw [ef]
    by_cases c : fb ≤ x
    · refine v_t (nI_le c (by omega)) ?_
      refine v_nm ?_
      rw [nI_1]
      exact hK T t hW hR hF hS ht htt
    · refine v_f (nI_ge (by omega) (by omega)) ?_
      have go : ∀ (U : SS) (t' : Nat), WR U → QR U → SF S U → SQ U (fcN w * shN w) t' → U.1 121 h = nI q → h < t' → t' ≤ fcN W * shN W → Ew (f_Potentials_spreadFrom_goal_Plans_rooms_j188 (fun v0 v1 v2 v3 v4 S => f_Potentials_spreadFrom_goal_Plans_rooms_L105 K N v0 v1 v2 v3 v4 S) (nI t') (nI h) (nI q) (nI z) (nI x) U) V := fun U t' a1 a2 a3 a4 a5 a6 a7 => by
        refine v_eq (f_Potentials_spreadFrom_goal_Plans_rooms_j188.eq_1 _ _ _ _ _ _ _) ?_
        refine v_nm ?_
        rw [nI_1]
        exact sp_L105 hw hz hq hK N (x + 1) t' U a1 a2 a3 a4 a5 a6 a7 (by omega) (by omega)
      refine v_cE (rax hwT hR) (fun r T1 p => ?_)
      subst p
      refine v_cE (isR hwT.qa) (fun r2 T2 p => ?_)
      obtain ⟨e2, p⟩ := p
      subst e2
      rcases p with p | ⟨p, k, k1, rfl⟩
      · exact v_t p (go T2 t hW hR hF hS hh ht htt)
      · refine v_f (by rw [p]; decide) ?_
        refine v_grd (inb_nI (by omega) (by omega)) ?_
        refine v_i (fun q4 => ?_) (fun _ => go T2 t hW hR hF hS hh ht htt)
        refine v_i (fun _ => go T2 t hW hR hF hS hh ht htt) (fun qt => ?_)
        have htl : t < T2.2 121 := by
          rcases Nat.lt_or_ge t (T2.2 121) with d | d
          · exact d
          · exact absurd (nI_le d (by omega)) qt
        rw [nI_clamp (n := k) (by omega)] at q4 ⊢
        refine v_grd (inb_nI (by omega) (by omega)) ?_
        refine v_grd (inb_nI (by omega) (by omega)) ?_
        rw [nI_clamp (n := q) (by omega)]
        obtain ⟨q', p', s1, s2, s3, s4⟩ := hS h ht
        have eq' : q' = q := nI_inj (by omega) (by omega) (s3.symm.trans hh)
        subst eq'
        rw [s4, nI_1]
        refine v_wrA (fun T3 e3 g3 v3 => ?_)
        have w3 := WR.st (k := 120) hW trivial rfl e3
        have r3 := hR.s120 (Or.inr (rg_nI (j := p' + 1) (by omega) (by omega) (by omega))) e3
        rw [g3.2]
        refine v_grd (inb_nI (by omega) (by omega)) ?_
        rw [nI_clamp (n := t) (by omega)]
        refine v_wrA (fun T4 e4 g4 v4 => ?_)
        have w4 := WR.st (k := 121) w3 trivial rfl e4
        have r4 : QR T4 := r3.fr g4 (fun k hk i => by
          simp only [List.mem_cons, List.mem_nil_iff, or_false] at hk
          rcases hk with rfl | rfl | rfl | rfl | rfl | rfl <;> rfl)
        refine v_nm ?_
        rw [nI_1]
        refine go T4 (t + 1) w4 r4 (Fr.tr (Fr.tr hF g3 rfl) g4 rfl) (fun i hi => ?_) ?_ (by omega) (by omega)
        · by_cases ci : i = t
          · refine ⟨k, p' + 1, k1, by omega, by rw [ci]; exact v4, by rw [g4.1 120 k rfl]; exact v3⟩
          · obtain ⟨q2', p2', b1, b2, b3, b4⟩ := hS i (by omega)
            refine ⟨q2', p2', b1, b2, ?_, ?_⟩
            · rw [e4, st_at, if_pos rfl, if_neg ci, g3.1 121 i rfl]; exact b3
            · rw [g4.1 120 _ rfl, e3, st_at, if_pos rfl, if_neg (fun ck => ?_)]
              · exact b4
              · rw [ck, q4] at b4
                exact absurd b4.symm (nI_m4 (by omega))
        · rw [e4, st_at, if_pos rfl, if_neg (by omega), g3.1 121 h rfl]; exact hh
theorem sp_L57 {S : SS} {w W : Nat} (hw : QW S w W) : ∀ (N h t : Nat) (T : SS), WR T → QR T → SF S T → SQ T (fcN w * shN w) t → h ≤ t → t ≤ fcN W * shN W → 6720 < N + h → Ew (f_Potentials_spreadFrom_goal_Plans_rooms_L57 N (nI t) (nI h) T) (fun U => WR U ∧ QR U ∧ SF S U)
  | 0, h, t, T, hW, hR, hF, hS, hh, ht, hN => by
    have q := qn hw.1 hw.2.1
    omega
  | N + 1, h, t, T, hW, hR, hF, hS, hh, ht, hN => by
    have hwT : QW T w W := hw.of hF.2 (hF.1 71 5 rfl) (hF.1 71 6 rfl) (hF.1 71 7 rfl)
    obtain ⟨q1, q2, q5, q6, q7, l4, l5, l6, l7, l8, l9, l0, l1⟩ := id hwT
    have qq := qn q1 q2
    refine v_eq (f_Potentials_spreadFrom_goal_Plans_rooms_L57.eq_2 _ _ _ _) ?_
    by_cases c : h = t
    · exact v_t (nI_le (by omega) (by omega)) (v_some ⟨hW, hR, hF⟩)
    · have hlt : h < t := by omega
      refine v_f (nI_ge hlt (by omega)) ?_
      refine v_i (fun _ => v_some ⟨hW, hR, hF⟩) (fun _ => ?_)
      refine v_grd (inb_nI (by omega) (by omega)) ?_
      obtain ⟨q, p, s1, s2, s3, s4⟩ := hS h hlt
      rw [nI_clamp (n := h) (by omega), s3]
      refine v_nm ?_
      rw [q7]
      refine v_grd (nI_nz (by omega) (by omega)) ?_
      refine v_nm ?_
      rw [nI_rem (by omega) (by omega) (by omega)]
      have hm : q % shN w < shN w := Nat.mod_lt _ (by omega)
      refine v_grd (inb_nI (by omega) (by omega)) ?_
      refine v_nm ?_
      obtain ⟨fb, ef, f1, f2, f3⟩ := rg_ex (hR.2.2.2.1 (nI (q % shN w)).toNatClampNeg) (by omega)
      rw [ef]
      exact sp_L105 hw hm s1 (fun U t' u1 u2 u3 u4 u5 u6 => sp_L57 hw N (h + 1) t' U u1 u2 u3 u4 (by omega) u6 (by omega)) NF fb t T hW hR hF hS s3 hlt ht (by omega) (by have : NF = 100000 := rfl; omega)
end
section
/-! ===== the class: rows made anew; shapes and orders listed ===== -/
def F1 (L : List Nat) (F : List (Nat × Nat)) (S T : SS) : Prop := ∀ a b, wm L F a b = false → T.1 a b = S.1 a b
theorem F1.tr {L : List Nat} {F : List (Nat × Nat)} {L1 : List Nat} {F' : List (Nat × Nat)} {S T U : SS} (h : F1 L F S T) (k : F1 L1 F' T U) (e : sb L1 F' L F = true) : F1 L F S U := fun a b q => (k a b (sb_wm e q)).trans (h a b q)
theorem F1.rf {L : List Nat} {F : List (Nat × Nat)} {S : SS} : F1 L F S S := fun _ _ _ => rfl
theorem Fr.f1 {L : List Nat} {F : List (Nat × Nat)} {S T : SS} (h : Fr L F S T) : F1 L F S T := h.1
theorem f1_gw (S : SS) (t n : Nat) : F1 [t] [] S (gw S t n) := fun a b q => by
  simp only [wm, List.any_cons, List.any_nil, Bool.or_false] at q
  show (if a = t then (fun _ => 0) else S.1 a) b = S.1 a b
  rw [if_neg (fun e => by rw [e, Nat.beq_refl] at q; cases q)]
theorem gw_0 (S : SS) (t n i : Nat) : (gw S t n).1 t i = 0 := by
  show (if t = t then (fun _ => 0) else S.1 t) i = 0
  rw [if_pos rfl]
theorem wr_gw {S : SS} {t n : Nat} (h : WR S) (hv : ∀ i, ok t i 0) (hj : ∀ i, jm t i = false) : WR (gw S t n) := by
  have e : ∀ a b, a ≠ t → (gw S t n).1 a b = S.1 a b := fun a b ha => by
    show (if a = t then (fun _ => 0) else S.1 a) b = S.1 a b
    rw [if_neg ha]
  refine ⟨fun k i => ?_, h.2.of (fun a b q => ?_)⟩
  · by_cases hk : k = t
    · subst hk
      rw [gw_0]; exact hv i
    · rw [e k i hk]; exact h.1 k i
  · refine e a b (fun ha => ?_)
    rw [ha, hj] at q; cases q
theorem qr_gw {S : SS} {t n : Nat} (h : QR S) : QR (gw S t n) := by
  have e : ∀ a b, (gw S t n).1 a b = S.1 a b ∨ (gw S t n).1 a b = 0 := fun a b => by
    by_cases c : a = t
    · subst c; exact Or.inr (gw_0 _ _ _ _)
    · left
      show (if a = t then (fun _ => 0) else S.1 a) b = S.1 a b
      rw [if_neg c]
  obtain ⟨h1, h2, h3, h4, h5, h6⟩ := h
  refine ⟨fun i => ?_, fun i => ?_, fun i => ?_, fun i => ?_, fun i => ?_, fun i => ?_⟩
  · rcases e 109 i with c | c
    · rw [c]; exact h1 i
    · rw [c]; exact Or.inr (rgl 0 0 4 rfl)
  · rcases e 110 i with c | c
    · rw [c]; exact h2 i
    · rw [c]; exact rgl 0 0 4 rfl
  · rcases e 111 i with c | c
    · rw [c]; exact h3 i
    · rw [c]; exact rgl 0 0 4 rfl
  · rcases e 116 i with c | c
    · rw [c]; exact h4 i
    · rw [c]; exact rgl 0 0 840 rfl
  · rcases e 119 i with c | c
    · rw [c]; exact h5 i
    · rw [c]; exact Or.inr (rgl 0 0 19 rfl)
  · rcases e 120 i with c | c
    · rw [c]; exact h6 i
    · rw [c]; exact Or.inr (rgl 0 0 6720 rfl)
theorem nwok_n {n lim : Nat} (h : n ≤ lim) (hn : n < 2 ^ 31) : nwok (nI n) lim = true := by
  unfold nwok
  rw [nI_clamp hn]
  simp only [Bool.and_eq_true, Bool.not_eq_true', decide_eq_false_iff_not, decide_eq_true_eq]
  exact ⟨nI_nn hn, h⟩
def QL (S : SS) (W : Nat) : Prop := S.2 114 = shN W * 4 ∧ S.2 115 = fcN W * 20 ∧ S.2 116 = shN W + 1 ∧ S.2 117 = shN W * W * 3 ∧ S.2 118 = shN W * W * 3 ∧ S.2 119 = shN W * W * 3 ∧ S.2 120 = fcN W * shN W ∧ S.2 121 = fcN W * shN W
theorem ql_gw (S : SS) (t n a : Nat) : (gw S t n).2 a = if a = t then n else S.2 a := rfl
theorem v_gw {S : SS} {t n : Nat} {f : SS → Option SS} {V : SS → Prop} (h : ∀ T, T = gw S t n → Ew (f T) V) : Ew (gwr S t n f) V := h _ rfl
theorem gw_k {S T : SS} {t n : Nat} (e : T = gw S t n) (h : t ≠ 71) (j : Nat) : T.1 71 j = S.1 71 j := by
  subst e
  show (if 71 = t then (fun _ => 0) else S.1 71) j = S.1 71 j
  rw [if_neg (Ne.symm h)]
set_option maxHeartbeats 1000000 in
theorem grx {S : SS} {m : Nat} (hW : WR S) (hR : QR S) (hm : m ≤ 5) (h5 : S.1 71 5 = nI m) (h6 : S.1 71 6 = nI (fcN m)) (h7 : S.1 71 7 = nI (shN m)) (hl : S.2 120 ≤ 6720) (hg : S.2 120 < fcN m * shN m → S.2 200 = 1) : Ew (f_Potentials_growRows S) (fun U => WR U ∧ QR U ∧ F1 [114, 115, 116, 117, 118, 119, 120, 121] [] S U ∧ ((U.2 = S.2 ∧ fcN m * shN m ≤ S.2 120) ∨ (S.2 120 < fcN m * shN m ∧ QL U m))) := by
  have q := qn (Nat.le_refl m) hm
  refine v_eq (f_Potentials_growRows.eq_1 _) ?_
  by_cases c : S.2 120 < fcN m * shN m
  · refine v_t (by rw [h6, h7, nI_mul]; exact (nI_ltJ (by omega) (by omega)).mpr c) ?_
    refine v_grd (decide_eq_true (hg c)) ?_
    refine v_grd (by rw [h6, h7, nI_mul]; exact nwok_n (by omega) (by omega)) ?_
    rw [show (S.1 71 6 * S.1 71 7).toNatClampNeg = fcN m * shN m by rw [h6, h7, nI_mul, nI_clamp (by omega)]]
    refine v_gw (fun T1 e1 => ?_)
    have a6 : T1.1 71 6 = nI (fcN m) := (gw_k e1 (by decide) 6).trans h6
    have a7 : T1.1 71 7 = nI (shN m) := (gw_k e1 (by decide) 7).trans h7
    have a5 : T1.1 71 5 = nI m := (gw_k e1 (by decide) 5).trans h5
    refine v_grd (by rw [a6, a7, nI_mul]; exact nwok_n (by omega) (by omega)) ?_
    rw [show (T1.1 71 6 * T1.1 71 7).toNatClampNeg = fcN m * shN m by rw [a6, a7, nI_mul, nI_clamp (by omega)]]
    refine v_gw (fun T2 e2 => ?_)
    have b6 : T2.1 71 6 = nI (fcN m) := (gw_k e2 (by decide) 6).trans a6
    have b7 : T2.1 71 7 = nI (shN m) := (gw_k e2 (by decide) 7).trans a7
    have b5 : T2.1 71 5 = nI m := (gw_k e2 (by decide) 5).trans a5
    refine v_grd (by rw [b6, show nI (fcN m) * (20 : Int32) = nI (fcN m * 20) from nI_mul _ 20]; exact nwok_n (by omega) (by omega)) ?_
    rw [show (T2.1 71 6 * (20 : Int32)).toNatClampNeg = fcN m * 20 by rw [b6, show nI (fcN m) * (20 : Int32) = nI (fcN m * 20) from nI_mul _ 20, nI_clamp (by omega)]]
    refine v_gw (fun T3 e3 => ?_)
    have c7 : T3.1 71 7 = nI (shN m) := (gw_k e3 (by decide) 7).trans b7
    have c5 : T3.1 71 5 = nI m := (gw_k e3 (by decide) 5).trans b5
    refine v_grd (by rw [c7, show nI (shN m) * (4 : Int32) = nI (shN m * 4) from nI_mul _ 4]; exact nwok_n (by omega) (by omega)) ?_
    rw [show (T3.1 71 7 * (4 : Int32)).toNatClampNeg = shN m * 4 by rw [c7, show nI (shN m) * (4 : Int32) = nI (shN m * 4) from nI_mul _ 4, nI_clamp (by omega)]]
    refine v_gw (fun T4 e4 => ?_)
    have d7 : T4.1 71 7 = nI (shN m) := (gw_k e4 (by decide) 7).trans c7
    have d5 : T4.1 71 5 = nI m := (gw_k e4 (by decide) 5).trans c5
    refine v_grd (by rw [d7, nI_1]; exact nwok_n (by omega) (by omega)) ?_
    rw [show (T4.1 71 7 + (1 : Int32)).toNatClampNeg = shN m + 1 by rw [d7, nI_1, nI_clamp (by omega)]]
    refine v_gw (fun T5 e5 => ?_)
    have f7 : T5.1 71 7 = nI (shN m) := (gw_k e5 (by decide) 7).trans d7
    have f5 : T5.1 71 5 = nI m := (gw_k e5 (by decide) 5).trans d5
    refine v_nm ?_
    rw [show (T5.1 71 7 * T5.1 71 5) * (3 : Int32) = nI (shN m * m * 3) by rw [f7, f5, nI_mul]; exact nI_mul _ 3]
    refine v_grd (nwok_n (by omega) (by omega)) ?_
    rw [nI_clamp (n := shN m * m * 3) (by omega)]
    refine v_gw (fun T6 e6 => ?_)
    refine v_grd (nwok_n (by omega) (by omega)) ?_
    refine v_gw (fun T7 e7 => ?_)
    refine v_grd (nwok_n (by omega) (by omega)) ?_
    refine v_gw (fun T8 e8 => ?_)
    have w1 : WR T1 := by rw [e1]; exact wr_gw hW (fun _ => trivial) (fun _ => rfl)
    have w2 : WR T2 := by rw [e2]; exact wr_gw w1 (fun _ => trivial) (fun _ => rfl)
    have w3 : WR T3 := by rw [e3]; exact wr_gw w2 (fun _ => trivial) (fun _ => rfl)
    have w4 : WR T4 := by rw [e4]; exact wr_gw w3 (fun _ => trivial) (fun _ => rfl)
    have w5 : WR T5 := by rw [e5]; exact wr_gw w4 (fun _ => trivial) (fun _ => rfl)
    have w6 : WR T6 := by rw [e6]; exact wr_gw w5 (fun _ => trivial) (fun _ => rfl)
    have w7 : WR T7 := by rw [e7]; exact wr_gw w6 (fun _ => trivial) (fun _ => rfl)
    have w8 : WR T8 := by rw [e8]; exact wr_gw w7 (fun _ => trivial) (fun _ => rfl)
    have r8 : QR T8 := by
      rw [e8, e7, e6, e5, e4, e3, e2, e1]
      exact qr_gw (qr_gw (qr_gw (qr_gw (qr_gw (qr_gw (qr_gw (qr_gw hR)))))))
    refine v_some ⟨w8, r8, ?_, Or.inr ⟨c, ?_⟩⟩
    · rw [e8, e7, e6, e5, e4, e3, e2, e1]
      exact F1.tr (F1.tr (F1.tr (F1.tr (F1.tr (F1.tr (F1.tr (F1.tr F1.rf (f1_gw _ _ _) rfl) (f1_gw _ _ _) rfl) (f1_gw _ _ _) rfl) (f1_gw _ _ _) rfl) (f1_gw _ _ _) rfl) (f1_gw _ _ _) rfl) (f1_gw _ _ _) rfl) (f1_gw _ _ _) rfl
    · rw [e8, e7, e6, e5, e4, e3, e2, e1]
      exact ⟨rfl, rfl, rfl, rfl, rfl, rfl, rfl, rfl⟩
  · exact v_f (by rw [h6, h7, nI_mul]; exact fun k => c ((nI_ltJ (by omega) (by omega)).mp k)) (v_some ⟨hW, hR, F1.rf, Or.inl ⟨rfl, by omega⟩⟩)
/-! ===== listShapes ===== -/
def t1 : Nat → Nat
  | 0 => 0
  | m + 1 => t1 m + (m + 1)
def t2 : Nat → Nat
  | 0 => 0
  | m + 1 => t2 m + t1 (m + 1)
theorem sh_t2 {w : Nat} (h : w ≤ 5) : shN w = (w + 1) + t1 w + t2 w := by
  rcases (show w = 0 ∨ w = 1 ∨ w = 2 ∨ w = 3 ∨ w = 4 ∨ w = 5 by omega) with rfl | rfl | rfl | rfl | rfl | rfl <;> rfl
def ZF (S T : SS) : Prop := Fr [113, 114] [] S T
theorem qr_zf {S T : SS} (h : QR S) (g : ZF S T) : QR T := h.fr g (fun k hk i => by
  simp only [List.mem_cons, List.mem_nil_iff, or_false] at hk
  rcases hk with rfl | rfl | rfl | rfl | rfl | rfl <;> rfl)
set_option maxHeartbeats 1000000 in
theorem ls_L25 {S : SS} {K : Int32 → Int32 → Int32 → SS → Option SS} {V : SS → Prop} {w W a b : Nat} (hw : w ≤ W) (hW5 : W ≤ 5) (h71 : S.1 71 5 = nI w) (h114 : S.2 114 = shN W * 4) (hab : a ≤ b) (hb : b ≤ w) (hK : ∀ U x, WR U → ZF S U → QE U w x → x + (t1 (w - b) + t2 (w - a)) = shN w → Ew (K (nI x) (nI a) (nI (b + 1)) U) V) : ∀ (N c x : Nat) (T : SS), WR T → ZF S T → QE T w x → b ≤ c → c ≤ w + 1 → x + ((w + 1 - c) + t1 (w - b) + t2 (w - a)) = shN w → w + 1 < N + c → Ew (f_Potentials_listShapes_L25 K N (nI x) (nI a) (nI b) (nI c) T) V
  | 0, c, x, T, hW, hF, hE, hc, hcw, hx, hN => by omega
  | N + 1, c, x, T, hW, hF, hE, hc, hcw, hx, hN => by
    have q := qn hw hW5
    refine v_eq (f_Potentials_listShapes_L25.eq_2 _ _ _ _ _ _ _) ?_
    rw [hF.1 71 5 rfl, h71]
    by_cases cc : c = w + 1
    · refine v_t ((nI_ltJ (by omega) (by omega)).mpr (by omega)) ?_
      refine v_nm ?_
      rw [nI_1]
      exact hK T x hW hF hE (by omega)
    · refine v_f (fun k => by have := (nI_ltJ (by omega) (by omega)).mp k; omega) ?_
      have ex : (4 : Int32) * nI x = nI (4 * x) := nI_mul 4 x
      rw [ex]
      have s2 : T.2 114 = shN W * 4 := by rw [hF.2]; exact h114
      refine v_grd (inb_nI (by omega) (by omega)) ?_
      rw [nI_clamp (n := 4 * x) (by omega)]
      refine v_wrA (fun T1 e1 g1 v1 => ?_)
      have w1 := WR.st (k := 114) hW trivial rfl e1
      rw [nI_1, g1.2]
      refine v_grd (inb_nI (by omega) (by omega)) ?_
      rw [nI_clamp (n := 4 * x + 1) (by omega)]
      refine v_wrA (fun T2 e2 g2 v2 => ?_)
      have w2 := WR.st (k := 114) w1 trivial rfl e2
      rw [show nI (4 * x) + (2 : Int32) = nI (4 * x + 2) from nI_add (4 * x) 2, g2.2, g1.2]
      refine v_grd (inb_nI (by omega) (by omega)) ?_
      rw [nI_clamp (n := 4 * x + 2) (by omega)]
      refine v_wrA (fun T3 e3 g3 v3 => ?_)
      have w3 := WR.st (k := 114) w2 trivial rfl e3
      rw [show nI (4 * x) + (3 : Int32) = nI (4 * x + 3) from nI_add (4 * x) 3, g3.2, g2.2, g1.2]
      refine v_grd (inb_nI (by omega) (by omega)) ?_
      rw [nI_clamp (n := 4 * x + 3) (by omega), g3.1 71 5 rfl, g2.1 71 5 rfl, g1.1 71 5 rfl, hF.1 71 5 rfl, h71]
      refine v_wrA (fun T4 e4 g4 v4 => ?_)
      have w4 := WR.st (k := 114) w3 trivial rfl e4
      obtain ⟨k1, p1, r1⟩ := kw_n (k := 0) (s := 0) (e := a) T4 (by omega) (Nat.zero_le _) (by omega)
      rw [show (0 : Int32) = nI 0 from rfl, r1, bnd_r]
      obtain ⟨k2, p2, r2⟩ := kw_n (k := k1) (s := 1) (e := b) T4 (by omega) p1 (by omega)
      rw [show (1 : Int32) = nI 1 from rfl, r2, bnd_r]
      obtain ⟨k3, p3, r3⟩ := kw_n (k := k2) (s := 2) (e := c) T4 (by omega) p2 (by omega)
      rw [show (2 : Int32) = nI 2 from rfl, r3, bnd_r]
      have := kyb_le (2 + 1)
      refine v_grd (inb_nI (by omega) (by omega)) ?_
      refine v_wrA (fun T5 e5 g5 v5 => ?_)
      have w5 := WR.st (k := 113) w4 trivial rfl e5
      refine v_nm ?_
      refine v_nm ?_
      rw [nI_add, nI_add]
      have F5 : ZF S T5 := Fr.tr (Fr.tr (Fr.tr (Fr.tr (Fr.tr hF g1 rfl) g2 rfl) g3 rfl) g4 rfl) g5 rfl
      refine ls_L25 hw hW5 h71 h114 hab hb hK N (c + 1) (x + 1) T5 w5 F5 (fun sh hsh => ?_) (by omega) (by omega) (by omega) (by omega)
      have cell : ∀ i, T5.1 114 i = if i = 4 * x + 3 then nI w else if i = 4 * x + 2 then nI c else if i = 4 * x + 1 then nI b else if i = 4 * x then nI a else T.1 114 i := fun i => by
        rw [g5.1 114 i rfl, e4, st_at, if_pos rfl, e3, st_at, if_pos rfl, e2, st_at, if_pos rfl, e1, st_at, if_pos rfl]
      by_cases cs : sh = x
      · subst cs
        refine ⟨a, b, c, hab, hc, by omega, ?_, ?_, ?_, ?_⟩
        · rw [cell, if_neg (by omega), if_neg (by omega), if_neg (by omega), if_pos rfl]
        · rw [cell, if_neg (by omega), if_neg (by omega), if_pos rfl]
        · rw [cell, if_neg (by omega), if_pos rfl]
        · rw [cell, if_pos rfl]
      · obtain ⟨a', b', c', h1, h2, h3, h4, h5, h6, h7⟩ := hE sh (by omega)
        refine ⟨a', b', c', h1, h2, h3, ?_, ?_, ?_, ?_⟩
        · rw [cell, if_neg (by omega), if_neg (by omega), if_neg (by omega), if_neg (by omega)]; exact h4
        · rw [cell, if_neg (by omega), if_neg (by omega), if_neg (by omega), if_neg (by omega)]; exact h5
        · rw [cell, if_neg (by omega), if_neg (by omega), if_neg (by omega), if_neg (by omega)]; exact h6
        · rw [cell, if_neg (by omega), if_neg (by omega), if_neg (by omega), if_neg (by omega)]; exact h7
theorem t1_s {m : Nat} (h : 0 < m) : t1 m = t1 (m - 1) + m := by
  obtain ⟨k, rfl⟩ : ∃ k, m = k + 1 := ⟨m - 1, by omega⟩
  rfl
theorem t2_s {m : Nat} (h : 0 < m) : t2 m = t2 (m - 1) + t1 m := by
  obtain ⟨k, rfl⟩ : ∃ k, m = k + 1 := ⟨m - 1, by omega⟩
  rfl
theorem ls_L14 {S : SS} {K : Int32 → Int32 → SS → Option SS} {V : SS → Prop} {w W a : Nat} (hw : w ≤ W) (hW5 : W ≤ 5) (h71 : S.1 71 5 = nI w) (h114 : S.2 114 = shN W * 4) (ha : a ≤ w) (hK : ∀ U x, WR U → ZF S U → QE U w x → x + t2 (w - a) = shN w → Ew (K (nI x) (nI (a + 1)) U) V) : ∀ (N b x : Nat) (T : SS), WR T → ZF S T → QE T w x → a ≤ b → b ≤ w + 1 → (b ≤ w → x + ((w + 1 - b) + t1 (w - b) + t2 (w - a)) = shN w) → (b = w + 1 → x + t2 (w - a) = shN w) → w + 1 < N + b → Ew (f_Potentials_listShapes_L14 K N (nI x) (nI a) (nI b) T) V
  | 0, b, x, T, hW, hF, hE, hb, hbw, hx, hx2, hN => by omega
  | N + 1, b, x, T, hW, hF, hE, hb, hbw, hx, hx2, hN => by
    refine v_eq (f_Potentials_listShapes_L14.eq_2 _ _ _ _ _ _) ?_
    rw [hF.1 71 5 rfl, h71]
    by_cases cc : b = w + 1
    · refine v_t ((nI_ltJ (by omega) (by omega)).mpr (by omega)) ?_
      refine v_nm ?_
      rw [nI_1]
      exact hK T x hW hF hE (hx2 cc)
    · refine v_f (fun k => by have := (nI_ltJ (by omega) (by omega)).mp k; omega) ?_
      have hb' : b ≤ w := by omega
      refine ls_L25 hw hW5 h71 h114 hb hb' (fun U x' u1 u2 u3 u4 => ls_L14 hw hW5 h71 h114 ha hK N (b + 1) x' U u1 u2 u3 (by omega) (by omega) (fun h => ?_) (fun h => ?_) (by omega)) NF b x T hW hF hE (by omega) (by omega) (hx hb') (by have : NF = 100000 := rfl; omega)
      · have := t1_s (m := w - b) (by omega)
        rw [show w - b - 1 = w - (b + 1) by omega] at this
        omega
      · have : w - b = 0 := by omega
        rw [this] at u4
        have : t1 0 = 0 := rfl
        omega
theorem ls_L4 {S : SS} {w W : Nat} (hw : w ≤ W) (hW5 : W ≤ 5) (h71 : S.1 71 5 = nI w) (h114 : S.2 114 = shN W * 4) : ∀ (N a x : Nat) (T : SS), WR T → ZF S T → QE T w x → a ≤ w + 1 → (a ≤ w → x + ((w + 1 - a) + t1 (w - a) + t2 (w - a)) = shN w) → (a = w + 1 → x = shN w) → w + 1 < N + a → Ew (f_Potentials_listShapes_L4 N (nI x) (nI a) T) (fun U => WR U ∧ ZF S U ∧ QE U w (shN w))
  | 0, a, x, T, hW, hF, hE, haw, hx, hx2, hN => by omega
  | N + 1, a, x, T, hW, hF, hE, haw, hx, hx2, hN => by
    refine v_eq (f_Potentials_listShapes_L4.eq_2 _ _ _ _) ?_
    rw [hF.1 71 5 rfl, h71]
    by_cases cc : a = w + 1
    · refine v_t ((nI_ltJ (by omega) (by omega)).mpr (by omega)) ?_
      have := hx2 cc
      subst this
      exact v_some ⟨hW, hF, hE⟩
    · refine v_f (fun k => by have := (nI_ltJ (by omega) (by omega)).mp k; omega) ?_
      have ha : a ≤ w := by omega
      refine ls_L14 hw hW5 h71 h114 ha (fun U x' u1 u2 u3 u4 => ls_L4 hw hW5 h71 h114 N (a + 1) x' U u1 u2 u3 (by omega) (fun h => ?_) (fun h => ?_) (by omega)) NF a x T hW hF hE (by omega) (by omega) (fun _ => hx ha) (fun h => by omega) (by have : NF = 100000 := rfl; omega)
      · have e1 := t2_s (m := w - a) (by omega)
        have e2 := t1_s (m := w - a) (by omega)
        rw [show w - a - 1 = w - (a + 1) by omega] at e1 e2
        omega
      · have : w - a = 0 := by omega
        rw [this] at u4
        have : t2 0 = 0 := rfl
        omega
theorem lsx {S : SS} {w W : Nat} (hW : WR S) (hw : w ≤ W) (hW5 : W ≤ 5) (h71 : S.1 71 5 = nI w) (h114 : S.2 114 = shN W * 4) : Ew (f_Potentials_listShapes S) (fun U => WR U ∧ ZF S U ∧ QE U w (shN w)) := by
  refine v_eq (f_Potentials_listShapes.eq_1 _) ?_
  refine ls_L4 hw hW5 h71 h114 NF 0 0 S hW Fr.rf (fun sh hs => by omega) (by omega) (fun _ => ?_) (fun h => by omega) (by have : NF = 100000 := rfl; omega)
  rw [sh_t2 (by omega)]
  show 0 + ((w + 1) + t1 w + t2 w) = _
  omega
end
section
/-! ===== the class: orders ===== -/
theorem cpok_n {a d n n0 n1 : Nat} (h0 : a + n ≤ n0) (h1 : d + n ≤ n1) (l0 : n0 < 2 ^ 31) (l1 : n1 < 2 ^ 31) : cpok (nI a) (nI d) (nI n) n0 n1 = true := by
  unfold cpok
  rw [nI_clamp (n := a) (by omega), nI_clamp (n := d) (by omega), nI_clamp (n := n) (by omega)]
  simp only [Bool.and_eq_true, Bool.not_eq_true', decide_eq_false_iff_not, decide_eq_true_eq]
  exact ⟨⟨⟨⟨nI_nn (by omega), nI_nn (by omega)⟩, nI_nn (by omega)⟩, h0⟩, h1⟩
theorem v_cp {S : SS} {k0 k1 a d n : Nat} {f : SS → Option SS} {V : SS → Prop} (h : ∀ T, T = cp S k0 k1 a d n → Fr [k1] [] S T → Ew (f T) V) : Ew (cpw S k0 k1 a d n f) V := h _ rfl fr_cp
theorem cp_v {S T : SS} {k0 k1 a d n : Nat} (e : T = cp S k0 k1 a d n) (i : Nat) : T.1 k1 i = if d ≤ i ∧ i < d + n then S.1 k0 (a + (i - d)) else S.1 k1 i := by
  subst e
  show (if k1 = k1 then va_cpy (S.1 k0) (S.1 k1) a d n else S.1 k1) i = _
  rw [if_pos rfl]
  rfl
theorem qr_cp110 {S T : SS} {a d n : Nat} (h : QR S) (e : T = cp S 110 110 a d n) (g : Fr [110] [] S T) : QR T := by
  obtain ⟨h1, h2, h3, h4, h5, h6⟩ := h
  refine ⟨fun i => ?_, fun i => ?_, fun i => ?_, fun i => ?_, fun i => ?_, fun i => ?_⟩
  · rw [g.1 109 i rfl]; exact h1 i
  · rw [cp_v e]
    by_cases c : d ≤ i ∧ i < d + n
    · rw [if_pos c]; exact h2 _
    · rw [if_neg c]; exact h2 _
  · rw [g.1 111 i rfl]; exact h3 i
  · rw [g.1 116 i rfl]; exact h4 i
  · rw [g.1 119 i rfl]; exact h5 i
  · rw [g.1 120 i rfl]; exact h6 i
theorem qr_cp111 {S T : SS} {a d n : Nat} (h : QR S) (e : T = cp S 110 111 a d n) (g : Fr [111] [] S T) : QR T := by
  obtain ⟨h1, h2, h3, h4, h5, h6⟩ := h
  refine ⟨fun i => ?_, fun i => ?_, fun i => ?_, fun i => ?_, fun i => ?_, fun i => ?_⟩
  · rw [g.1 109 i rfl]; exact h1 i
  · rw [g.1 110 i rfl]; exact h2 i
  · rw [cp_v e]
    by_cases c : d ≤ i ∧ i < d + n
    · rw [if_pos c]; exact h2 _
    · rw [if_neg c]; exact h3 _
  · rw [g.1 116 i rfl]; exact h4 i
  · rw [g.1 119 i rfl]; exact h5 i
  · rw [g.1 120 i rfl]; exact h6 i
theorem wr_c {S T : SS} {k0 k1 a d n : Nat} (h : WR S) (e : T = cp S k0 k1 a d n) (hv : ∀ i j, ok k1 i (S.1 k0 j)) (hj : ∀ i, jm k1 i = false) : WR T := by
  subst e
  exact wr_cp h hv hj
theorem lo_L4 {S : SS} {w : Nat} (hw : w ≤ 5) (h71 : S.1 71 5 = nI w) : ∀ (N k r : Nat) (T : SS), WR T → QR T → Fr [110] [] S T → r ≤ 120 → k ≤ w → w < N + k → Ew (f_Potentials_layOrder_L4 N (nI r) (nI k) T) (fun U => WR U ∧ QR U ∧ Fr [110] [] S U)
  | 0, k, r, T, hW, hR, hF, hr, hk, hN => by omega
  | N + 1, k, r, T, hW, hR, hF, hr, hk, hN => by
    refine v_eq (f_Potentials_layOrder_L4.eq_2 _ _ _ _) ?_
    rw [hF.1 71 5 rfl, h71]
    by_cases c : k = w
    · exact v_t (nI_le (by omega) (by omega)) (v_some ⟨hW, hR, hF⟩)
    · refine v_f (nI_ge (by omega) (by omega)) ?_
      have hm : r % (k + 1) < k + 1 := Nat.mod_lt _ (by omega)
      rw [nI_1, nI_rem (by omega) (by omega) (by omega), nI_div (by omega) (by omega) (by omega)]
      refine v_grd (nI_nz (by omega) (by omega)) ?_
      refine v_nm ?_
      refine v_grd (nI_nz (by omega) (by omega)) ?_
      refine v_nm ?_
      rw [nI_1, nI_sb (by omega) (by omega)]
      refine v_grd (cpok_n (by omega) (by omega) (by omega) (by omega)) ?_
      refine v_cp (fun T1 e1 g1 => ?_)
      have w1 := wr_c hW e1 (fun _ _ => trivial) (fun _ => rfl)
      have r1 := qr_cp110 hR e1 g1
      refine v_grd (inb_nI (by omega) (by omega)) ?_
      refine v_wrA (fun T2 e2 g2 v2 => ?_)
      have w2 := WR.st (k := 110) w1 trivial rfl e2
      have r2 := qr_110 (T := T1) r1 Fr.rf (rg_nI (j := k) (by omega) (by omega) (by omega)) e2
      refine v_nm ?_
      have hd : r / (k + 1) ≤ r := Nat.div_le_self _ _
      exact lo_L4 hw h71 N (k + 1) (r / (k + 1)) T2 w2 r2 (Fr.tr (Fr.tr hF g1 rfl) g2 rfl) (by omega) (by omega) (by omega)
theorem lox {S : SS} {w r : Nat} (hW : WR S) (hR : QR S) (hw : w ≤ 5) (h71 : S.1 71 5 = nI w) (hr : r ≤ 120) : Ew (f_Potentials_layOrder (nI r) S) (fun U => WR U ∧ QR U ∧ Fr [110] [] S U) := by
  refine v_eq (f_Potentials_layOrder.eq_1 _ _) ?_
  exact lo_L4 hw h71 NF 0 r S hW hR Fr.rf hr (by omega) (by have : NF = 100000 := rfl; omega)
def OF (S T : SS) : Prop := Fr [110, 111, 112, 115] [] S T
set_option maxHeartbeats 1000000 in
theorem lo_L35 {S : SS} {K : Int32 → Int32 → Int32 → SS → Option SS} {V : SS → Prop} {w o k j : Nat} (hw : w ≤ 5) (h71 : S.1 71 5 = nI w) (ho : 20 * o + 20 ≤ S.2 115) (h115 : S.2 115 ≤ 2400) (hk : k ≤ w) (hjk : j < k) (hK : ∀ U, WR U → QR U → OF S U → Ew (K (nI o) (nI k) (nI (j + 1)) U) V) : ∀ (N i : Nat) (T : SS), WR T → QR T → OF S T → i ≤ j → j < N + i → Ew (f_Potentials_listOrders_L35 K N (nI o) (nI k) (nI j) (nI i) T) V
  | 0, i, T, hW, hR, hF, hi, hN => by omega
  | N + 1, i, T, hW, hR, hF, hi, hN => by
    refine v_eq (f_Potentials_listOrders_L35.eq_2 _ _ _ _ _ _ _) ?_
    by_cases c : i = j
    · refine v_t (nI_le (by omega) (by omega)) ?_
      refine v_nm ?_
      rw [nI_1]
      exact hK T hW hR hF
    · have hij : i < j := by omega
      refine v_f (nI_ge hij (by omega)) ?_
      rw [hF.1 71 5 rfl, h71, show (0 : Int32) = nI 0 from rfl]
      refine v_grd (cpok_n (by omega) (by omega) (by omega) (by omega)) ?_
      refine v_cp (fun T1 e1 g1 => ?_)
      have w1 := wr_c hW e1 (fun _ _ => trivial) (fun _ => rfl)
      have r1 := qr_cp111 hR e1 g1
      rw [nI_sb (a := k) (b := j) (by omega) (by omega)]
      refine v_grd (cpok_n (by omega) (by omega) (by omega) (by omega)) ?_
      refine v_cp (fun T2 e2 g2 => ?_)
      have w2 := wr_c w1 e2 (fun _ _ => trivial) (fun _ => rfl)
      have r2 := qr_cp111 r1 e2 g2
      rw [nI_add, nI_sb (a := i + k) (b := j) (by omega) (by omega), nI_sb (a := j) (b := i) (by omega) (by omega)]
      refine v_grd (cpok_n (by omega) (by omega) (by omega) (by omega)) ?_
      refine v_cp (fun T3 e3 g3 => ?_)
      have w3 := wr_c w2 e3 (fun _ _ => trivial) (fun _ => rfl)
      have r3 := qr_cp111 r2 e3 g3
      have F3 : OF S T3 := Fr.tr (Fr.tr (Fr.tr hF g1 rfl) g2 rfl) g3 rfl
      refine v_cE (swx (i := i) (j := j) (k := k) (by omega) (by omega) (by omega)) (fun r T4 p => ?_)
      obtain ⟨p1, -, p2⟩ := p
      subst p1
      obtain ⟨p3, p4⟩ := p2 hij hjk
      subst p3
      refine v_cE (oox_swp w3 hw ((F3.1 71 5 rfl).trans h71) r3.2.2.1) (fun r5 T5 p => ?_)
      obtain ⟨w5, g5⟩ := p
      rw [g5.2, F3.2, show (20 : Int32) * nI o = nI (20 * o) from nI_mul 20 o, nI_add]
      refine v_grd (inb_nI (by omega) (by omega)) ?_
      refine v_wrA (fun T6 e6 g6 v6 => ?_)
      have w6 := WR.st (k := 115) w5 trivial rfl e6
      have F6 : OF S T6 := Fr.tr (Fr.tr F3 g5 rfl) g6 rfl
      have r6 : QR T6 := (r3.fr g5 (fun k hk i => by
        simp only [List.mem_cons, List.mem_nil_iff, or_false] at hk
        rcases hk with rfl | rfl | rfl | rfl | rfl | rfl <;> rfl)).fr g6 (fun k hk i => by
        simp only [List.mem_cons, List.mem_nil_iff, or_false] at hk
        rcases hk with rfl | rfl | rfl | rfl | rfl | rfl <;> rfl)
      refine v_nm ?_
      rw [nI_1]
      exact lo_L35 hw h71 ho h115 hk hjk hK N (i + 1) T6 w6 r6 F6 (by omega) (by omega)
theorem lo_L27 {S : SS} {K : Int32 → Int32 → SS → Option SS} {V : SS → Prop} {w o k : Nat} (hw : w ≤ 5) (h71 : S.1 71 5 = nI w) (ho : 20 * o + 20 ≤ S.2 115) (h115 : S.2 115 ≤ 2400) (hk : k ≤ w) (hK : ∀ U, WR U → QR U → OF S U → Ew (K (nI o) (nI (k + 1)) U) V) : ∀ (N j : Nat) (T : SS), WR T → QR T → OF S T → j ≤ k → k < N + j → Ew (f_Potentials_listOrders_L27 K N (nI o) (nI k) (nI j) T) V
  | 0, j, T, hW, hR, hF, hj, hN => by omega
  | N + 1, j, T, hW, hR, hF, hj, hN => by
    refine v_eq (f_Potentials_listOrders_L27.eq_2 _ _ _ _ _ _) ?_
    by_cases c : j = k
    · refine v_t (nI_le (by omega) (by omega)) ?_
      refine v_nm ?_
      rw [nI_1]
      exact hK T hW hR hF
    · refine v_f (nI_ge (by omega) (by omega)) ?_
      exact lo_L35 hw h71 ho h115 hk (by omega) (fun U u1 u2 u3 => lo_L27 hw h71 ho h115 hk hK N (j + 1) U u1 u2 u3 (by omega) (by omega)) NF 0 T hW hR hF (by omega) (by have : NF = 100000 := rfl; omega)
theorem lo_L17 {S : SS} {K : Int32 → SS → Option SS} {V : SS → Prop} {w o : Nat} (hw : w ≤ 5) (h71 : S.1 71 5 = nI w) (ho : 20 * o + 20 ≤ S.2 115) (h115 : S.2 115 ≤ 2400) (hK : ∀ U, WR U → QR U → OF S U → Ew (K (nI (o + 1)) U) V) : ∀ (N k : Nat) (T : SS), WR T → QR T → OF S T → 1 ≤ k → k ≤ w + 2 → w + 2 < N + k → Ew (f_Potentials_listOrders_L17 K N (nI o) (nI k) T) V
  | 0, k, T, hW, hR, hF, hk1, hk, hN => by omega
  | N + 1, k, T, hW, hR, hF, hk1, hk, hN => by
    refine v_eq (f_Potentials_listOrders_L17.eq_2 _ _ _ _ _) ?_
    rw [hF.1 71 5 rfl, h71]
    by_cases c : w < k
    · refine v_t ((nI_ltJ (by omega) (by omega)).mpr c) ?_
      refine v_nm ?_
      rw [nI_1]
      exact hK T hW hR hF
    · refine v_f (fun q => c ((nI_ltJ (by omega) (by omega)).mp q)) ?_
      exact lo_L27 hw h71 ho h115 (by omega) (fun U u1 u2 u3 => lo_L17 hw h71 ho h115 hK N (k + 1) U u1 u2 u3 (by omega) (by omega) (by omega)) NF 1 T hW hR hF (by omega) (by have : NF = 100000 := rfl; omega)
theorem lo_L2 {S : SS} {w W : Nat} (hw : w ≤ W) (hW5 : W ≤ 5) (h71 : S.1 71 5 = nI w) (h716 : S.1 71 6 = nI (fcN w)) (h115 : S.2 115 = fcN W * 20) : ∀ (N o : Nat) (T : SS), WR T → QR T → OF S T → o ≤ fcN w → fcN w < N + o → Ew (f_Potentials_listOrders_L2 N (nI o) T) (fun U => WR U ∧ QR U ∧ OF S U)
  | 0, o, T, hW, hR, hF, ho, hN => by omega
  | N + 1, o, T, hW, hR, hF, ho, hN => by
    have q := qn hw hW5
    refine v_eq (f_Potentials_listOrders_L2.eq_2 _ _ _) ?_
    rw [hF.1 71 6 rfl, h716]
    by_cases c : o = fcN w
    · exact v_t (nI_le (by omega) (by omega)) (v_some ⟨hW, hR, hF⟩)
    · refine v_f (nI_ge (by omega) (by omega)) ?_
      refine v_cV (lox hW hR (by omega : w ≤ 5) ((hF.1 71 5 rfl).trans h71) (by omega)) (fun T1 p => ?_)
      obtain ⟨w1, r1, g1⟩ := p
      exact lo_L17 (by omega) h71 (by omega) (by omega) (fun U u1 u2 u3 => lo_L2 hw hW5 h71 h716 h115 N (o + 1) U u1 u2 u3 (by omega) (by omega)) NF 2 T1 w1 r1 (Fr.tr hF g1 rfl) (by omega) (by omega) (by have : NF = 100000 := rfl; omega)
theorem lorx {S : SS} {w W : Nat} (hW : WR S) (hR : QR S) (hw : w ≤ W) (hW5 : W ≤ 5) (h71 : S.1 71 5 = nI w) (h716 : S.1 71 6 = nI (fcN w)) (h115 : S.2 115 = fcN W * 20) : Ew (f_Potentials_listOrders S) (fun U => WR U ∧ QR U ∧ OF S U) := by
  have q := qn hw hW5
  refine v_eq (f_Potentials_listOrders.eq_1 _) ?_
  exact lo_L2 hw hW5 h71 h716 h115 NF 0 S hW hR Fr.rf (by omega) (by have : NF = 100000 := rfl; omega)
end
section
/-! ===== the class: takeWagons ===== -/
def nb (x : Int32) : Nat → Nat
  | 0 => 0
  | i + 1 => if ((x >>> (nI i &&& 31)) &&& (1 : Int32)) = 1 ∧ nb x i < 5 then nb x i + 1 else nb x i
theorem nb_le (x : Int32) : ∀ i, nb x i ≤ 5
  | 0 => by show 0 ≤ 5; omega
  | i + 1 => by
    have := nb_le x i
    show (if ((x >>> (nI i &&& 31)) &&& (1 : Int32)) = 1 ∧ nb x i < 5 then nb x i + 1 else nb x i) ≤ 5
    by_cases c : ((x >>> (nI i &&& 31)) &&& (1 : Int32)) = 1 ∧ nb x i < 5
    · rw [if_pos c]; omega
    · rw [if_neg c]; exact this
theorem shI : ∀ m : Fin 6, (((nI m.1 + (1 : Int32)) * (nI m.1 + (2 : Int32))) * (nI m.1 + (3 : Int32))) / (6 : Int32) = nI (shN m.1) := by decide +kernel
theorem fcI : ∀ x : Fin 6, 2 ≤ x.1 → nI (fcN (x.1 - 1)) * nI x.1 = nI (fcN x.1) := by decide +kernel
def TL : List Nat := [109, 110, 111, 112, 113, 114, 115, 116, 117, 118, 119, 120, 121]
def TFl : List (Nat × Nat) := [(71, 5), (71, 6), (71, 7)]
def Gn (G m : Nat) : Nat := if G ≤ m then m + 1 else G
def LnOk (S : SS) (G : Nat) : Prop := (G = 0 ∧ S.2 120 = 0) ∨ ∃ W, W ≤ 5 ∧ G = W + 1 ∧ QL S W
theorem QR.w71 {S U : SS} {i : Nat} (h : QR S) (g : Fr [] [(71, i)] S U) : QR U := h.fr g (fun k hk j => by
  simp only [List.mem_cons, List.mem_nil_iff, or_false] at hk
  rcases hk with rfl | rfl | rfl | rfl | rfl | rfl <;> rfl)
set_option maxHeartbeats 1000000 in
theorem tw_L122 {S : SS} {m G : Nat} (hm : m ≤ 5) (h5 : S.1 71 5 = nI m) (h7 : S.1 71 7 = nI (shN m)) (hl : LnOk S G) (hg : G ≤ m → S.2 200 = 1) : ∀ (N x : Nat) (T : SS), WR T → QR T → Fr [] [(71, 6)] S T → T.1 71 6 = nI (fcN (x - 1)) → 2 ≤ x → (x = 2 ∨ x ≤ m + 1) → 7 < N + x → Ew (f_Potentials_takeWagons_L122 N (nI x) T) (fun U => WR U ∧ F1 TL TFl S U ∧ CQ U (Gn G m))
  | 0, x, T, hW, hR, hF, h6, hx, hxm, hN => by omega
  | N + 1, x, T, hW, hR, hF, h6, hx, hxm, hN => by
    have qm := qn (Nat.le_refl m) hm
    refine v_eq (f_Potentials_takeWagons_L122.eq_2 _ _ _) ?_
    have t5 : T.1 71 5 = nI m := (hF.1 71 5 rfl).trans h5
    have t7 : T.1 71 7 = nI (shN m) := (hF.1 71 7 rfl).trans h7
    rw [t5]
    by_cases c : m < x
    · refine v_t ((nI_ltJ (by omega) (by omega)).mpr c) ?_
      have t6 : T.1 71 6 = nI (fcN m) := by
        rw [h6]
        by_cases c1 : x - 1 = m
        · rw [c1]
        · have a1 : x = 2 := by omega
          have a2 : m = 0 := by omega
          subst a1 a2
          rfl
      have e2 : T.2 = S.2 := hF.2
      have l0 : T.2 120 ≤ 6720 := by
        rw [e2]
        rcases hl with ⟨-, h⟩ | ⟨W, w1, -, h⟩
        · omega
        · have := qn (Nat.le_refl W) w1
          rw [h.2.2.2.2.2.2.1]
          omega
      have hgr : T.2 120 < fcN m * shN m → T.2 200 = 1 := fun q => by
        rw [e2] at q ⊢
        refine hg ?_
        rcases hl with ⟨h, -⟩ | ⟨W, w1, h, l⟩
        · omega
        · rw [l.2.2.2.2.2.2.1] at q
          rcases Nat.lt_or_ge W m with d | d
          · omega
          · have := qn d w1
            omega
      refine v_cV (grx hW hR hm t5 t6 t7 l0 hgr) (fun U1 p => ?_)
      obtain ⟨w1, r1, f1, p⟩ := p
      have len : ∃ W, W ≤ 5 ∧ m ≤ W ∧ Gn G m = W + 1 ∧ QL U1 W := by
        unfold Gn
        rcases p with ⟨p1, p2⟩ | ⟨p1, p2⟩
        · rcases hl with ⟨h, l⟩ | ⟨W, a1, h, l⟩
          · rw [e2, l] at p2; omega
          · rw [e2, l.2.2.2.2.2.2.1] at p2
            have hmW : m ≤ W := by
              rcases Nat.lt_or_ge W m with d | d
              · have := qn (Nat.le_of_lt d) hm
                have := this.2.2.2.2.2.2.2.2.2.2.2 d
                omega
              · exact d
            refine ⟨W, a1, hmW, by rw [if_neg (by omega)]; exact h, ?_⟩
            unfold QL
            rw [p1, e2]
            exact l
        · refine ⟨m, hm, Nat.le_refl _, ?_, p2⟩
          rw [if_pos]
          rw [e2] at p1
          rcases hl with ⟨h, -⟩ | ⟨W, a1, h, l⟩
          · omega
          · rw [l.2.2.2.2.2.2.1] at p1
            rcases Nat.lt_or_ge W m with d | d
            · omega
            · have := qn d a1
              omega
      obtain ⟨W, a1, a2, a3, a4⟩ := len
      have u5 : U1.1 71 5 = nI m := (f1 71 5 rfl).trans t5
      have u6 : U1.1 71 6 = nI (fcN m) := (f1 71 6 rfl).trans t6
      have u7 : U1.1 71 7 = nI (shN m) := (f1 71 7 rfl).trans t7
      refine v_cV (lsx w1 a2 a1 u5 a4.1) (fun U2 p => ?_)
      obtain ⟨w2, g2, E2⟩ := p
      have r2 := qr_zf r1 g2
      refine v_cV (lorx (W := W) w2 r2 a2 a1 ((g2.1 71 5 rfl).trans u5) ((g2.1 71 6 rfl).trans u6) (by rw [g2.2]; exact a4.2.1)) (fun U3 p => ?_)
      obtain ⟨w3, r3, g3⟩ := p
      have F3 : F1 TL TFl S U3 := F1.tr (F1.tr (F1.tr (F1.tr F1.rf hF.f1 rfl) f1 rfl) (Fr.f1 g2) rfl) (Fr.f1 g3) rfl
      refine v_some ⟨w3, F3, r3, Or.inr ⟨m, W, a3, ⟨a2, a1, ?_, ?_, ?_, ?_⟩, E2.of (fun i => g3.1 114 i rfl)⟩⟩
      · rw [g3.1 71 5 rfl, g2.1 71 5 rfl]; exact u5
      · rw [g3.1 71 6 rfl, g2.1 71 6 rfl]; exact u6
      · rw [g3.1 71 7 rfl, g2.1 71 7 rfl]; exact u7
      · rw [g3.2, g2.2]; exact a4
    · refine v_f (fun k => c ((nI_ltJ (by omega) (by omega)).mp k)) ?_
      rw [h6]
      refine v_wrO (fun T1 e1 g1 v1 => ?_)
      have w1 := WR.st (k := 71) (i := 6) hW trivial rfl e1
      refine v_nm ?_
      rw [nI_1]
      refine tw_L122 hm h5 h7 hl hg N (x + 1) T1 w1 (hR.w71 g1) (Fr.tr hF g1 rfl) ?_ (by omega) (by omega) (by omega)
      rw [v1]
      exact fcI ⟨x, by omega⟩ hx
theorem tw_j83 {S : SS} {m G : Nat} (hW : WR S) (hR : QR S) (hm : m ≤ 5) (hl : LnOk S G) (hg : G ≤ m → S.2 200 = 1) : Ew (f_Potentials_takeWagons_j83 (nI m) S) (fun U => WR U ∧ F1 TL TFl S U ∧ CQ U (Gn G m)) := by
  refine v_eq (f_Potentials_takeWagons_j83.eq_1 _ _) ?_
  refine v_wrO (fun T1 e1 g1 v1 => ?_)
  have w1 := WR.st (k := 71) (i := 5) hW trivial rfl e1
  rw [v1, shI ⟨m, by omega⟩]
  refine v_wrO (fun T2 e2 g2 v2 => ?_)
  have w2 := WR.st (k := 71) (i := 7) w1 trivial rfl e2
  refine v_wrO (fun T3 e3 g3 v3 => ?_)
  have w3 := WR.st (k := 71) (i := 6) w2 trivial rfl e3
  have F3 : Fr [] [(71, 5), (71, 6), (71, 7)] S T3 := Fr.tr (Fr.tr (Fr.tr Fr.rf g1 rfl) g2 rfl) g3 rfl
  have r3 := ((hR.w71 g1).w71 g2).w71 g3
  have l3 : LnOk T3 G := by
    unfold LnOk QL
    rw [F3.2]
    exact hl
  refine v_mono (tw_L122 (S := T3) hm (by rw [g3.1 71 5 rfl, g2.1 71 5 rfl]; exact v1) (by rw [g3.1 71 7 rfl]; exact v2) l3 (fun h => by rw [F3.2]; exact hg h) NF 2 T3 w3 r3 Fr.rf v3 (by omega) (Or.inl rfl) (by have : NF = 100000 := rfl; omega)) (fun U p => ?_)
  obtain ⟨p1, p2, p3⟩ := p
  exact ⟨p1, F1.tr (F1.tr F1.rf F3.f1 rfl) p2 rfl, p3⟩
theorem CQ.ln {S : SS} {G : Nat} (h : CQ S G) : LnOk S G := by
  rcases h.2 with ⟨h1, -, -, -, h2⟩ | ⟨w, W, h1, h2, -⟩
  · exact Or.inl ⟨h1, h2⟩
  · exact Or.inr ⟨W, h2.2.1, h1, h2.2.2.2.2.2⟩
theorem QR.s109 {S U : SS} {j : Nat} {v : Int32} (h : QR S) (hv : rn v 0 4) (e : U = st S 109 j v) : QR U := by
  obtain ⟨h1, h2, h3, h4, h5, h6⟩ := h
  subst e
  refine ⟨fun i => ?_, fun i => ?_, fun i => ?_, fun i => ?_, fun i => ?_, fun i => ?_⟩
  · rw [st_at, if_pos rfl]
    by_cases c : i = j
    · rw [if_pos c]; exact hv
    · rw [if_neg c]; exact h1 _
  · rw [st_at, if_neg (by decide)]; exact h2 _
  · rw [st_at, if_neg (by decide)]; exact h3 _
  · rw [st_at, if_neg (by decide)]; exact h4 _
  · rw [st_at, if_neg (by decide)]; exact h5 _
  · rw [st_at, if_neg (by decide)]; exact h6 _
theorem CQ.of {S U : SS} {G : Nat} (h : CQ S G) (hR : QR U) (e2 : U.2 = S.2) (e5 : U.1 71 5 = S.1 71 5) (e6 : U.1 71 6 = S.1 71 6) (e7 : U.1 71 7 = S.1 71 7) (e : ∀ i, U.1 114 i = S.1 114 i) : CQ U G := by
  refine ⟨hR, ?_⟩
  rcases h.2 with ⟨h1, h2, h3, h4, h5⟩ | ⟨w, W, h1, h2, h3⟩
  · exact Or.inl ⟨h1, e5.trans h2, e6.trans h3, e7.trans h4, by rw [e2]; exact h5⟩
  · exact Or.inr ⟨w, W, h1, h2.of e2 e5 e6 e7, h3.of e⟩
theorem CQ.fr {S U : SS} {G : Nat} (h : CQ S G) {L : List Nat} {F : List (Nat × Nat)} (g : Fr L F S U) (e : ∀ k, k ∈ [109, 110, 111, 116, 119, 120] → ∀ i, wm L F k i = false) (e4 : ∀ i, wm L F 114 i = false) (e7 : wm L F 71 5 = false ∧ wm L F 71 6 = false ∧ wm L F 71 7 = false) : CQ U G :=
  h.of (h.1.fr g e) g.2 (g.1 71 5 e7.1) (g.1 71 6 e7.2.1) (g.1 71 7 e7.2.2) (fun i => g.1 114 i (e4 i))
set_option maxHeartbeats 1000000 in
theorem tw_L4 {S : SS} {a : Int32} {G : Nat} (hC : CQ S G) (hg : G ≤ nb a 10 → S.2 200 = 1) : ∀ (N i : Nat) (T : SS), WR T → QR T → Fr [109] [] S T → i ≤ 10 → 10 < N + i → Ew (f_Potentials_takeWagons_L4 N a (nI (nb a i)) (nI i) T) (fun U => WR U ∧ F1 TL TFl S U ∧ CQ U (Gn G (nb a 10)))
  | 0, i, T, hW, hR, hF, hi, hN => by omega
  | N + 1, i, T, hW, hR, hF, hi, hN => by
    have n5 := nb_le a i
    refine v_eq (f_Potentials_takeWagons_L4.eq_2 _ _ _ _ _) ?_
    by_cases c : i = 10
    · subst c
      refine v_t (nI_le (a := 10) (by omega) (by omega)) ?_
      have hl : LnOk T G := by
        have := hC.ln
        unfold LnOk QL
        rw [hF.2]
        exact this
      have j83 : Ew (f_Potentials_takeWagons_j83 (nI (nb a 10)) T) (fun U => WR U ∧ F1 TL TFl S U ∧ CQ U (Gn G (nb a 10))) := v_mono (tw_j83 hW hR n5 hl (fun h => by rw [hF.2]; exact hg h)) (fun U p => by
        obtain ⟨p1, p2, p3⟩ := p
        exact ⟨p1, F1.tr (F1.tr F1.rf hF.f1 rfl) p2 rfl, p3⟩)
      have hCT : CQ T G := hC.of hR hF.2 (hF.1 71 5 rfl) (hF.1 71 6 rfl) (hF.1 71 7 rfl) (fun i => hF.1 114 i rfl)
      rcases hCT.2 with ⟨h1, h2, h3, h4, h5⟩ | ⟨w, W, h1, h2, h3⟩
      · refine v_t (by rw [h4]; decide) j83
      · refine v_i (fun _ => j83) (fun _ => ?_)
        refine v_i (fun q => ?_) (fun _ => j83)
        rw [h2.2.2.1] at q
        have hw := h2.1
        have hW5 := h2.2.1
        have e := nI_inj (by omega) (by omega) q
        refine v_some ⟨hW, F1.tr F1.rf hF.f1 rfl, ?_⟩
        unfold Gn
        rw [if_neg (by omega)]
        exact hCT
    · have hi' : i < 10 := by omega
      refine v_f (nI_ge (b := 10) hi' (by omega)) ?_
      have j29 : ∀ b : Bool, (b = true → nb a i < 5) → nb a (i + 1) = (if b = true then nb a i + 1 else nb a i) → Ew (f_Potentials_takeWagons_j29 (fun v0 v1 v2 S => f_Potentials_takeWagons_L4 N v0 v1 v2 S) a (nI (nb a i)) (nI i) (bI b) T) (fun U => WR U ∧ F1 TL TFl S U ∧ CQ U (Gn G (nb a 10))) := fun b hb hn => by
        refine v_eq (f_Potentials_takeWagons_j29.eq_1 _ _ _ _ _ _) ?_
        cases hbb : b with
        | false =>
          refine v_t rfl ?_
          refine v_eq (f_Potentials_takeWagons_j47.eq_1 _ _ _ _ _ _ _ _) ?_
          refine v_grd (inb_nI hi' (by omega)) ?_
          refine v_wrA (fun T1 e1 g1 v1 => ?_)
          refine v_t rfl ?_
          refine v_eq (f_Potentials_takeWagons_j59.eq_1 _ _ _ _ _ _) ?_
          refine v_nm ?_
          refine v_nm ?_
          rw [Int32.add_zero, nI_1]
          have en : nb a (i + 1) = nb a i := by rw [hn, hbb]; rfl
          rw [← en]
          exact tw_L4 hC hg N (i + 1) T1 (WR.st (k := 109) hW trivial rfl e1) (hR.s109 (rn4l _ _) e1) (Fr.tr hF g1 rfl) (by omega) (by omega)
        | true =>
          refine v_f (by decide) ?_
          refine v_eq (f_Potentials_takeWagons_j47.eq_1 _ _ _ _ _ _ _ _) ?_
          refine v_grd (inb_nI hi' (by omega)) ?_
          refine v_wrA (fun T1 e1 g1 v1 => ?_)
          refine v_f (by decide) ?_
          refine v_eq (f_Potentials_takeWagons_j59.eq_1 _ _ _ _ _ _) ?_
          refine v_nm ?_
          refine v_nm ?_
          rw [nI_1, nI_1]
          have en : nb a (i + 1) = nb a i + 1 := by rw [hn, hbb]; rfl
          have lt := hb hbb
          rw [← en]
          exact tw_L4 hC hg N (i + 1) T1 (WR.st (k := 109) hW trivial rfl e1) (hR.s109 (Or.inr (rg_nI (by omega) (by omega) (by omega))) e1) (Fr.tr hF g1 rfl) (by omega) (by omega)
      have un : nb a (i + 1) = if ((a >>> (nI i &&& 31)) &&& (1 : Int32)) = 1 ∧ nb a i < 5 then nb a i + 1 else nb a i := rfl
      refine v_i (fun q => ?_) (fun q => ?_)
      · by_cases c5 : 5 ≤ nb a i
        · refine v_t (nI_le (a := 5) c5 (by omega)) ?_
          refine v_eq (f_Potentials_takeWagons_j28.eq_1 _ _ _ _ _) ?_
          exact j29 false (fun k => by cases k) (by rw [un, if_neg (fun k => by omega)]; rfl)
        · refine v_f (nI_ge (b := 5) (by omega) (by omega)) ?_
          exact j29 true (fun _ => by omega) (by rw [un, if_pos ⟨q, by omega⟩]; rfl)
      · refine v_eq (f_Potentials_takeWagons_j28.eq_1 _ _ _ _ _) ?_
        exact j29 false (fun k => by cases k) (by rw [un, if_neg (fun k => q k.1)]; rfl)
theorem twx {S : SS} {a : Int32} {G : Nat} (hW : WR S) (hC : CQ S G) (hg : G ≤ nb a 10 → S.2 200 = 1) : Ew (f_Potentials_takeWagons a S) (fun U => WR U ∧ F1 TL TFl S U ∧ CQ U (Gn G (nb a 10))) := by
  refine v_eq (f_Potentials_takeWagons.eq_1 _ _) ?_
  exact tw_L4 hC hg NF 0 S hW hC.1 Fr.rf (by omega) (by have : NF = 100000 := rfl; omega)
end
section
/-! ===== the class: which WAGONS the GOAL has does not look at the lengths ===== -/
def Ind (f : SS → Option (Int32 × SS)) (s1 : Nat → Nat → Int32) : Prop := ∃ o : Option Int32, ∀ s2 : Nat → Nat, f (s1, s2) = o.map (fun v => (v, (s1, s2)))
theorem ind_some (s1 : Nat → Nat → Int32) (v : Int32) : Ind (fun S => some (v, S)) s1 := ⟨some v, fun _ => rfl⟩
theorem ind_none (s1 : Nat → Nat → Int32) : Ind (fun _ => none) s1 := ⟨none, fun _ => rfl⟩
theorem ind_grd {s1 : Nat → Nat → Int32} (b : Bool) {f : SS → Option (Int32 × SS)} (h : Ind f s1) : Ind (fun S => grd b (f S)) s1 := by
  cases b
  · exact ind_none s1
  · exact h
theorem ind_if {s1 : Nat → Nat → Int32} (p : Prop) [Decidable p] {f g : SS → Option (Int32 × SS)} (h : Ind f s1) (k : Ind g s1) : Ind (fun S => if p then f S else g S) s1 := by
  by_cases c : p
  · obtain ⟨o, h⟩ := h
    exact ⟨o, fun s2 => by show (if p then f (s1, s2) else g (s1, s2)) = _; rw [if_pos c]; exact h s2⟩
  · obtain ⟨o, h⟩ := k
    exact ⟨o, fun s2 => by show (if p then f (s1, s2) else g (s1, s2)) = _; rw [if_neg c]; exact h s2⟩
theorem ind_eq {s1 : Nat → Nat → Int32} {f g : SS → Option (Int32 × SS)} (h : Ind g s1) (e : ∀ s2, f (s1, s2) = g (s1, s2)) : Ind f s1 := by
  obtain ⟨o, h⟩ := h
  exact ⟨o, fun s2 => (e s2).trans (h s2)⟩
theorem ind_j28 (x1 x2 y : Int32) (s1 : Nat → Nat → Int32) : Ind (f_Stacks_wagonAt_goal_j28 x1 x2 y) s1 :=
  ind_eq (g := fun S => if y = 0 then some ((-4 : Int32), S) else grd (inb (((10 : Int32) * x1) + x2) 40) (some (s1 124 (((10 : Int32) * x1) + x2).toNatClampNeg, S))) (ind_if _ (ind_some _ _) (ind_grd _ (ind_some _ _))) (fun s2 => f_Stacks_wagonAt_goal_j28.eq_1 _ _ _ _)
theorem ind_j27 (x1 x2 : Int32) (s1 : Nat → Nat → Int32) : Ind (f_Stacks_wagonAt_goal_j27 x1 x2) s1 := ind_eq (ind_j28 x1 x2 0 s1) (fun s2 => f_Stacks_wagonAt_goal_j27.eq_1 _ _ _)
theorem ind_wa (a1 a2 : Int32) (s1 : Nat → Nat → Int32) : Ind (f_Stacks_wagonAt_goal a1 a2) s1 :=
  ind_eq (g := fun S => if a1 < 0 then f_Stacks_wagonAt_goal_j27 a1 a2 S else if (4 : Int32) ≤ a1 then f_Stacks_wagonAt_goal_j27 a1 a2 S else if a2 < 0 then f_Stacks_wagonAt_goal_j27 a1 a2 S else grd (inb a1 4) (if (s1 125 a1.toNatClampNeg) ≤ a2 then f_Stacks_wagonAt_goal_j27 a1 a2 S else f_Stacks_wagonAt_goal_j28 a1 a2 (1 : Int32) S)) (ind_if _ (ind_j27 _ _ _) (ind_if _ (ind_j27 _ _ _) (ind_if _ (ind_j27 _ _ _) (ind_grd _ (ind_if _ (ind_j27 _ _ _) (ind_j28 _ _ _ _)))))) (fun s2 => f_Stacks_wagonAt_goal.eq_1 _ _ _)
theorem ind_bnd {s1 : Nat → Nat → Int32} {f : SS → Option (Int32 × SS)} {g : Int32 → SS → Option (Int32 × SS)} (h : Ind f s1) (k : ∀ v, Ind (g v) s1) : Ind (fun S => bnd (f S) g) s1 := by
  obtain ⟨o, h⟩ := h
  cases o with
  | none => exact ⟨none, fun s2 => by show bnd (f (s1, s2)) g = _; rw [h s2]; rfl⟩
  | some v =>
    obtain ⟨o, k⟩ := k v
    exact ⟨o, fun s2 => by show bnd (f (s1, s2)) g = _; rw [h s2]; exact k s2⟩
theorem ind_L11 {K : Int32 → Int32 → SS → Option (Int32 × SS)} {s1 : Nat → Nat → Int32} (hK : ∀ a b, Ind (K a b) s1) : ∀ (N : Nat) (x1 x2 x3 : Int32), Ind (f_Stacks_members_goal_L11 K N x1 x2 x3) s1
  | 0, x1, x2, x3 => ind_eq (ind_none s1) (fun s2 => f_Stacks_members_goal_L11.eq_1 _ _ _ _ _)
  | N + 1, x1, x2, x3 => ind_eq (g := fun S => grd (inb x2 4) (if (s1 125 x2.toNatClampNeg) ≤ x3 then K x1 (x2 + 1) S else bnd (f_Stacks_wagonAt_goal x2 x3 S) (fun r3 S2 => f_Stacks_members_goal_L11 K N (x1 ||| ((1 : Int32) <<< (r3 &&& 31))) x2 (x3 + 1) S2))) (ind_grd _ (ind_if _ (hK _ _) (ind_bnd (ind_wa _ _ _) (fun v => ind_L11 hK N _ _ _)))) (fun s2 => f_Stacks_members_goal_L11.eq_2 _ _ _ _ _ _)
theorem ind_L4 {s1 : Nat → Nat → Int32} : ∀ (N : Nat) (x1 x2 : Int32), Ind (f_Stacks_members_goal_L4 N x1 x2) s1
  | 0, x1, x2 => ind_eq (ind_none s1) (fun s2 => f_Stacks_members_goal_L4.eq_1 _ _ _)
  | N + 1, x1, x2 => ind_eq (g := fun S => if (4 : Int32) ≤ x2 then some (x1, S) else f_Stacks_members_goal_L11 (fun v0 v1 S => f_Stacks_members_goal_L4 N v0 v1 S) NF x1 x2 (0 : Int32) S) (ind_if _ (ind_some _ _) (ind_L11 (fun a b => ind_L4 N a b) NF _ _ _)) (fun s2 => f_Stacks_members_goal_L4.eq_2 _ _ _ _)
theorem ind_mem (s1 : Nat → Nat → Int32) : Ind f_Stacks_members_goal s1 := ind_eq (ind_L4 NF 0 0) (fun s2 => f_Stacks_members_goal.eq_1 _)
/-! ===== the class: spreadFrom, makeLeast ===== -/
def SL : List Nat := TL
theorem sfx {S : SS} {G : Nat} (hW : WR S) (hC : CQ S G) (hg : ∀ r, f_Stacks_members_goal S = some (r, S) → G ≤ nb r 10 → S.2 200 = 1) : Ew (f_Potentials_spreadFrom_goal_Plans_rooms S) (fun U => WR U ∧ F1 TL TFl S U ∧ ∃ r, f_Stacks_members_goal S = some (r, S) ∧ CQ U (Gn G (nb r 10)) ∧ ∃ w W, QW U w W) := by
  refine v_eq (f_Potentials_spreadFrom_goal_Plans_rooms.eq_1 _) ?_
  refine v_cE (e_eqn (t_Stacks_members_goal hW)) (fun r T p => ?_)
  obtain ⟨⟨-, g, -⟩, e⟩ := p
  have := fr_nil g
  subst this
  refine v_cV (twx hW hC (hg r e)) (fun T3 p => ?_)
  obtain ⟨w3, f3, C3⟩ := p
  have nz : Gn G (nb r 10) ≠ 0 := by
    unfold Gn
    by_cases c : G ≤ nb r 10
    · rw [if_pos c]; omega
    · rw [if_neg c]; omega
  obtain ⟨w, W, a1, a2, a3⟩ : ∃ w W, Gn G (nb r 10) = W + 1 ∧ QW T3 w W ∧ QE T3 w (shN w) := by
    rcases C3.2 with ⟨h, -⟩ | h
    · exact absurd h nz
    · exact h
  have q := qn a2.1 a2.2.1
  refine v_cV (lex w3 C3.1 a2 a3) (fun T4 p => ?_)
  obtain ⟨⟨w4, r4⟩, g4⟩ := p
  have q4 : QW T4 w W := LF.qw a2 g4
  have E4 : QE T4 w (shN w) := LF.qe a3 g4
  obtain ⟨z1, z2, z5, z6, z7, l4, l5, l6, l7, l8, l9, l0, l1⟩ := id q4
  refine v_cV (fix w4 r4 (by omega)) (fun T5 p => ?_)
  obtain ⟨w5, r5, g5⟩ := p
  have q5 : QW T5 w W := q4.of g5.2 (g5.1 71 5 rfl) (g5.1 71 6 rfl) (g5.1 71 7 rfl)
  refine v_cE (rkx_goal w5 q5.qa r5) (fun r7 T6 p => ?_)
  obtain ⟨w6, g6, r6⟩ := p
  have q6 : QW T6 w W := q5.of g6.2 (g6.1 71 5 rfl) (g6.1 71 6 rfl) (g6.1 71 7 rfl)
  have E6 : QE T6 w (shN w) := E4.of (fun i => by rw [g6.1 114 i rfl, g5.1 114 i rfl])
  have F6 : F1 TL TFl T T6 := F1.tr (F1.tr (F1.tr (F1.tr F1.rf f3 rfl) (Fr.f1 g4) rfl) g5.f1 rfl) g6.f1 rfl
  refine v_cE (isR q6.qa) (fun r9 T8 p => ?_)
  obtain ⟨e8, p⟩ := p
  subst e8
  rcases p with p | ⟨p, k, k1, rfl⟩
  · exact v_t p (v_some ⟨w6, F6, r, e, ⟨r6, Or.inr ⟨w, W, a1, q6, E6⟩⟩, w, W, q6⟩)
  · refine v_f (by rw [p]; decide) ?_
    obtain ⟨z1, z2, z5, z6, z7, l4, l5, l6, l7, l8, l9, l0, l1⟩ := id q6
    refine v_grd (inb_nI (by omega) (by omega)) ?_
    rw [nI_clamp (n := k) (by omega)]
    refine v_wrA (fun T9 e9 g9 v9 => ?_)
    have w9 := WR.st (k := 120) w6 trivial rfl e9
    have r9 := r6.s120 (Or.inr (rgl 0 0 6720 rfl)) e9
    rw [g9.2, show (0 : Int32) = nI 0 from rfl]
    refine v_grd (inb_nI (by omega) (by omega)) ?_
    refine v_wrA (fun T10 e10 g10 v10 => ?_)
    have w10 := WR.st (k := 121) w9 trivial rfl e10
    have r10 : QR T10 := r9.fr g10 (fun k hk i => by
      simp only [List.mem_cons, List.mem_nil_iff, or_false] at hk
      rcases hk with rfl | rfl | rfl | rfl | rfl | rfl <;> rfl)
    have g2 : Fr [120, 121] [] T8 T10 := Fr.tr (Fr.tr Fr.rf g9 rfl) g10 rfl
    have q10 : QW T10 w W := q6.of g2.2 (g2.1 71 5 rfl) (g2.1 71 6 rfl) (g2.1 71 7 rfl)
    refine v_mono (sp_L57 q10 NF 0 1 T10 w10 r10 Fr.rf (fun i hi => ?_) (by omega) (by omega) (by have : NF = 100000 := rfl; omega)) (fun U pU => ?_)
    · have : i = 0 := by omega
      subst this
      refine ⟨k, 0, k1, Nat.le_refl _, v10, ?_⟩
      rw [g10.1 120 k rfl]
      exact v9
    · obtain ⟨wU, rU, gU⟩ := pU
      have qU : QW U w W := q10.of gU.2 (gU.1 71 5 rfl) (gU.1 71 6 rfl) (gU.1 71 7 rfl)
      exact ⟨wU, F1.tr (F1.tr F6 g2.f1 rfl) (Fr.f1 gU) rfl, r, e, ⟨rU, Or.inr ⟨w, W, a1, qU, E6.of (fun i => by rw [gU.1 114 i rfl, g2.1 114 i rfl])⟩⟩, w, W, qU⟩
def ML : List Nat := [107, 108, 109, 110, 111, 112, 113, 114, 115, 116, 117, 118, 119, 120, 121]
def MFl : List (Nat × Nat) := [(70, 7), (70, 8), (71, 5), (71, 6), (71, 7)]
theorem ml_L65 {S : SS} {w W l : Nat} (hw : QW S w W) (hl : l ≤ 128) : ∀ (N k : Nat) (T : SS), WR T → QR T → Fr [107, 108] [(70, 7), (70, 8)] S T → k ≤ l → l < N + k → Ex2 (f_Plans_makeLeast_L65 N (nI l) (nI k) T) (fun _ U => WR U ∧ QR U ∧ Fr [107, 108] [(70, 7), (70, 8)] S U)
  | 0, k, T, hW, hR, hF, hk, hN => by omega
  | N + 1, k, T, hW, hR, hF, hk, hN => by
    have hwT : QW T w W := hw.of hF.2 (hF.1 71 5 rfl) (hF.1 71 6 rfl) (hF.1 71 7 rfl)
    refine e_eq (f_Plans_makeLeast_L65.eq_2 _ _ _ _) ?_
    by_cases c : k = l
    · refine e_t (nI_le (by omega) (by omega)) ?_
      refine e_wrO (fun T1 e1 g1 v1 => ?_)
      have w1 := WR.st (k := 70) (i := 7) hW (rg_nI (by omega) (by omega) (by omega)) rfl e1
      refine e_wrO (fun T2 e2 g2 v2 => ?_)
      have w2 := WR.st (k := 70) (i := 8) w1 trivial rfl e2
      refine e_some ⟨w2, ?_, Fr.tr (Fr.tr hF g1 rfl) g2 rfl⟩
      exact (hR.fr g1 (fun k hk i => by
        simp only [List.mem_cons, List.mem_nil_iff, or_false] at hk
        rcases hk with rfl | rfl | rfl | rfl | rfl | rfl <;> rfl)).fr g2 (fun k hk i => by
        simp only [List.mem_cons, List.mem_nil_iff, or_false] at hk
        rcases hk with rfl | rfl | rfl | rfl | rfl | rfl <;> rfl)
    · refine e_f (nI_ge (by omega) (by omega)) ?_
      refine e_grd (inb_nI (by omega) (by omega)) ?_
      refine e_cE (edx hwT hR) (fun r1 T1 p => ?_)
      subst p
      refine e_cE (mox hwT) (fun r2 T2 p => ?_)
      subst p
      refine e_grd (inb_nI (by omega) (by omega)) ?_
      refine e_wrA (fun T3 e3 g3 v3 => ?_)
      have w3 := WR.st (k := 107) hW trivial rfl e3
      have r3 : QR T3 := hR.fr g3 (fun k hk i => by
        simp only [List.mem_cons, List.mem_nil_iff, or_false] at hk
        rcases hk with rfl | rfl | rfl | rfl | rfl | rfl <;> rfl)
      have hw3 : QW T3 w W := hwT.of g3.2 (g3.1 71 5 rfl) (g3.1 71 6 rfl) (g3.1 71 7 rfl)
      refine e_grd (inb_nI (by omega) (by omega)) ?_
      refine e_cE (rax hw3 r3) (fun r4 T4 p => ?_)
      subst p
      rw [nI_1]
      refine e_grd (inb_nI (by omega) (by omega)) ?_
      refine e_wrA (fun T5 e5 g5 v5 => ?_)
      have w5 := WR.st (k := 108) w3 trivial rfl e5
      have r5 : QR T5 := r3.fr g5 (fun k hk i => by
        simp only [List.mem_cons, List.mem_nil_iff, or_false] at hk
        rcases hk with rfl | rfl | rfl | rfl | rfl | rfl <;> rfl)
      refine e_nm ?_
      exact ml_L65 hw hl N (k + 1) T5 w5 r5 (Fr.tr (Fr.tr hF g3 rfl) g5 rfl) (by omega) (by omega)
def Dp (S : SS) : SS := st (st S 70 8 0) 70 7 0
set_option maxHeartbeats 1000000 in
theorem mlx {S : SS} {G : Nat} (hW : WR S) (hC : CQ S G) (hg : ∀ r, f_Stacks_members_goal (Dp S) = some (r, Dp S) → G ≤ nb r 10 → S.2 200 = 1) : Ex2 (f_Plans_makeLeast S) (fun _ U => WR U ∧ F1 ML MFl S U ∧ ∃ r, f_Stacks_members_goal (Dp S) = some (r, Dp S) ∧ CQ U (Gn G (nb r 10))) := by
  refine e_eq (f_Plans_makeLeast.eq_1 _) ?_
  refine e_bndv ?_
  refine v_eq (f_Plans_drop.eq_1 _) ?_
  refine v_wrO (fun T1 e1 g1 v1 => ?_)
  have w1 := WR.st (k := 70) (i := 8) hW trivial rfl e1
  refine v_wrO (fun T2 e2 g2 v2 => ?_)
  have w2 := WR.st (k := 70) (i := 7) w1 (rgl 0 0 128 rfl) rfl e2
  have eD : T2 = Dp S := by rw [e2, e1]; rfl
  refine v_some ?_
  have F2 : Fr [] [(70, 7), (70, 8)] S T2 := Fr.tr (Fr.tr Fr.rf g1 rfl) g2 rfl
  have C2 : CQ T2 G := hC.fr F2 (fun k hk i => by
    simp only [List.mem_cons, List.mem_nil_iff, or_false] at hk
    rcases hk with rfl | rfl | rfl | rfl | rfl | rfl <;> rfl) (fun i => rfl) ⟨rfl, rfl, rfl⟩
  refine e_cV (sfx w2 C2 (fun r hr h => by
    rw [eD] at hr
    rw [F2.2]
    exact hg r hr h)) (fun T3 p => ?_)
  obtain ⟨w3, f3, r, er, C3, w, W, q3⟩ := p
  rw [eD] at er
  refine e_cE (rkx_start w3 q3.qa C3.1) (fun r4 T4 p => ?_)
  obtain ⟨w4, g4, r4'⟩ := p
  have C4 : CQ T4 (Gn G (nb r 10)) := C3.of r4' g4.2 (g4.1 71 5 rfl) (g4.1 71 6 rfl) (g4.1 71 7 rfl) (fun i => g4.1 114 i rfl)
  have q4 : QW T4 w W := q3.of g4.2 (g4.1 71 5 rfl) (g4.1 71 6 rfl) (g4.1 71 7 rfl)
  have F4 : F1 ML MFl S T4 := F1.tr (F1.tr (F1.tr F1.rf F2.f1 rfl) f3 rfl) g4.f1 rfl
  refine e_cE (ofx q4.qa r4'.2.2.2.2.2) (fun r6 T5 p => ?_)
  obtain ⟨e5, p⟩ := p
  subst e5
  refine e_i (fun _ => e_some ⟨w4, F4, r, er, C4⟩) (fun q => ?_)
  refine e_i (fun q' => ?_) (fun _ => e_some ⟨w4, F4, r, er, C4⟩)
  obtain ⟨l, rfl, l1, l2, l3⟩ := rg_ex (rn.ne p q) (by omega)
  have hl : l ≤ 128 := by
    rcases Nat.lt_or_ge 128 l with c | c
    · exact absurd q' (nI_ge (a := 128) c (by omega))
    · exact c
  refine e_grd rfl ?_
  refine e_wrA (fun T6 e6 g6 v6 => ?_)
  have w6 := WR.st (k := 108) w4 trivial rfl e6
  have r6 : QR T6 := r4'.fr g6 (fun k hk i => by
    simp only [List.mem_cons, List.mem_nil_iff, or_false] at hk
    rcases hk with rfl | rfl | rfl | rfl | rfl | rfl <;> rfl)
  have q6 : QW T6 w W := q4.of g6.2 (g6.1 71 5 rfl) (g6.1 71 6 rfl) (g6.1 71 7 rfl)
  refine e_mono (ml_L65 q6 hl NF 0 T6 w6 r6 Fr.rf (by omega) (by have : NF = 100000 := rfl; omega)) (fun _ U pU => ?_)
  obtain ⟨wU, rU, gU⟩ := pU
  refine ⟨wU, F1.tr (F1.tr F4 g6.f1 rfl) gU.f1 rfl, r, er, C4.of rU ?_ ?_ ?_ ?_ (fun i => ?_)⟩
  · rw [gU.2, g6.2]
  · rw [gU.1 71 5 rfl, g6.1 71 5 rfl]
  · rw [gU.1 71 6 rfl, g6.1 71 6 rfl]
  · rw [gU.1 71 7 rfl, g6.1 71 7 rfl]
  · rw [gU.1 114 i rfl, g6.1 114 i rfl]
end
section
/-! ===== the class: proof, spoil, check, plan ===== -/
theorem CQ.g {S U : SS} {G : Nat} (h : CQ S G) (g : Fr [] [] S U) : CQ U G := by
  have := fr_nil g
  subst this
  exact h
theorem hpx {S : SS} {a : Int32} (hW : WR S) : Ex2 (f_Plans_hasPotential a S) (fun r U => U = S ∧ (r = 0 ∨ (r = 1 ∧ rg a 0 128))) := by
  refine e_eq (f_Plans_hasPotential.eq_1 _ _) ?_
  refine e_i (fun _ => ?_) (fun _ => e_some ⟨rfl, Or.inl rfl⟩)
  refine e_i (fun _ => e_some ⟨rfl, Or.inl rfl⟩) (fun q1 => ?_)
  refine e_i (fun _ => e_some ⟨rfl, Or.inl rfl⟩) (fun q2 => ?_)
  refine e_i (fun _ => e_some ⟨rfl, Or.inl rfl⟩) (fun q3 => ?_)
  exact e_some ⟨rfl, Or.inr ⟨rfl, nlt_r (rgl 128 128 128 rfl) (nlt_l (rgt a) (rgl 0 0 0 rfl) q1) q3⟩⟩
theorem pax {S : SS} {G : Nat} {a : Int32} (hW : WR S) (hC : CQ S G) : Ex2 (f_Plans_potentialAt a S) (fun _ U => U = S) := by
  obtain ⟨w, o, sh, qa⟩ := hC.qa
  refine e_eq (f_Plans_potentialAt.eq_1 _ _) ?_
  refine e_cE (hpx hW) (fun r T p => ?_)
  obtain ⟨e, p⟩ := p
  subst e
  rcases p with p | ⟨p, ha⟩
  · exact e_t p (e_some rfl)
  · refine e_f (by rw [p]; decide) ?_
    refine e_grd (inb_g ha rfl) ?_
    refine e_cE (ofx qa hC.1.2.2.2.2.2) (fun r T p => ?_)
    obtain ⟨e, -⟩ := p
    subst e
    exact e_some rfl
theorem c_Yard_proof {S : SS} {G : Nat} {a : Int32} (hW : WR S) (hC : CQ S G) : Ex2 (f_Yard_proof a S) (fun _ U => WR U ∧ CQ U G ∧ Fr [] [] S U) := by
  refine e_eq (f_Yard_proof.eq_1 _ _) ?_
  refine e_i (fun _ => ?_) (fun _ => e_some ⟨hW, hC, Fr.rf⟩)
  refine e_cE (pax hW hC) (fun r T p => ?_)
  subst p
  exact e_some ⟨hW, hC, Fr.rf⟩
theorem spx {S : SS} {G : Nat} {a v : Int32} (hW : WR S) (hC : CQ S G) (hv : rn v 0 6720) : Ex2 (f_Plans_setPotential a v S) (fun _ U => WR U ∧ CQ U G ∧ Fr [120] [] S U) := by
  obtain ⟨w, o, sh, qa⟩ := hC.qa
  refine e_eq (f_Plans_setPotential.eq_1 _ _ _) ?_
  refine e_cE (pax hW hC) (fun r T p => ?_)
  subst p
  refine e_cE (hpx hW) (fun r T p => ?_)
  obtain ⟨e, p⟩ := p
  subst e
  rcases p with p | ⟨p, ha⟩
  · exact e_t p (e_some ⟨hW, hC, Fr.rf⟩)
  · refine e_f (by rw [p]; decide) ?_
    refine e_grd (inb_g ha rfl) ?_
    refine e_cV (stx hW qa hC.1 hv) (fun U p => ?_)
    obtain ⟨p1, p2, p3⟩ := p
    exact e_some ⟨p1, hC.of p3 p2.2 (p2.1 71 5 rfl) (p2.1 71 6 rfl) (p2.1 71 7 rfl) (fun i => p2.1 114 i rfl), p2⟩
theorem c_Yard_spoil {S : SS} {G : Nat} {a v : Int32} (hW : WR S) (hC : CQ S G) : Ex2 (f_Yard_spoil a v S) (fun _ U => WR U ∧ CQ U G ∧ Fr [120] [] S U) := by
  refine e_eq (f_Yard_spoil.eq_1 _ _ _) ?_
  refine e_i (fun _ => e_some ⟨hW, hC, Fr.rf⟩) (fun _ => ?_)
  refine e_bnd ?_
  refine e_eq (f_Yard_isNot.eq_1 _ _ _ _) ?_
  refine e_i (fun _ => ?_) (fun q1 => ?_)
  · exact e_some (e_f (by decide) (e_some ⟨hW, hC, Fr.rf⟩))
  · refine e_i (fun q2 => ?_) (fun _ => ?_)
    · refine e_some (e_t rfl ?_)
      have hv := le_l (nlt_l (rgt v) (rgl 0 0 0 rfl) q1) (rgl 99 99 99 rfl) q2
      refine e_cE (spx hW hC (Or.inr (hv.sub rfl))) (fun r T p => ?_)
      exact e_some p
    · exact e_some (e_f (by decide) (e_some ⟨hW, hC, Fr.rf⟩))
theorem of_0 {S : SS} {w : Nat} {a : Int32} (h : QA S w 0 0) : Ex2 (f_Potentials_of a S) (fun r U => U = S ∧ r = -4) := by
  refine e_eq (f_Potentials_of.eq_1 _ _) ?_
  refine e_cE (isR h) (fun r T p => ?_)
  obtain ⟨e, p⟩ := p
  subst e
  rcases p with p | ⟨p, k, k1, -⟩
  · exact e_t p (e_some ⟨rfl, rfl⟩)
  · exact absurd k1 (by omega)
theorem CQ.rk {S U : SS} {G : Nat} (hC : CQ S G) (g : Fr [110, 112] [] S U) (hR : QR U) : CQ U G := hC.of hR g.2 (g.1 71 5 rfl) (g.1 71 6 rfl) (g.1 71 7 rfl) (fun i => g.1 114 i rfl)
def HL : List Nat := [110, 112, 116, 117, 118, 119, 126, 127]
theorem hox {S : SS} {G : Nat} (hW : WR S) (hC : CQ S G) : Ex2 (f_Plans_holds S) (fun _ U => WR U ∧ CQ U G ∧ Fr HL [] S U) := by
  refine e_eq (f_Plans_holds.eq_1 _) ?_
  refine e_i (fun _ => e_some ⟨hW, hC, Fr.rf⟩) (fun _ => ?_)
  refine e_cE (t_Plans_leadsToGoal hW) (fun r1 T1 p => ?_)
  obtain ⟨w1, g1, -⟩ := p
  have C1 : CQ T1 G := hC.fr g1 (fun k hk i => by
    simp only [List.mem_cons, List.mem_nil_iff, or_false] at hk
    rcases hk with rfl | rfl | rfl | rfl | rfl | rfl <;> rfl) (fun i => rfl) ⟨rfl, rfl, rfl⟩
  have F1' : Fr HL [] S T1 := Fr.tr Fr.rf g1 rfl
  refine e_i (fun _ => e_some ⟨w1, C1, F1'⟩) (fun _ => ?_)
  refine e_i (fun _ => e_some ⟨w1, C1, F1'⟩) (fun _ => ?_)
  rcases C1.2 with ⟨h1, h2, h3, h4, h5⟩ | ⟨w, W, h1, h2, h3⟩
  · have qa : QA T1 0 0 0 := ⟨by omega, by omega, by omega, by omega, by omega, h2, h3, h4⟩
    refine e_cE (rkx_goal w1 qa C1.1) (fun r2 T2 p => ?_)
    obtain ⟨w2, g2, r2'⟩ := p
    have qa2 : QA T2 0 0 0 := ⟨by omega, by omega, by rw [g2.2]; omega, by omega, by omega, (g2.1 71 5 rfl).trans h2, (g2.1 71 6 rfl).trans h3, (g2.1 71 7 rfl).trans h4⟩
    refine e_cE (of_0 qa2) (fun r3 T3 p => ?_)
    obtain ⟨e3, p⟩ := p
    subst e3
    refine e_f (by rw [p]; decide) ?_
    exact e_some ⟨w2, C1.rk g2 r2', Fr.tr F1' g2 rfl⟩
  · refine e_cE (rkx_goal w1 h2.qa C1.1) (fun r2 T2 p => ?_)
    obtain ⟨w2, g2, r2'⟩ := p
    have C2 := C1.rk g2 r2'
    have q2 : QW T2 w W := h2.of g2.2 (g2.1 71 5 rfl) (g2.1 71 6 rfl) (g2.1 71 7 rfl)
    have F2 : Fr HL [] S T2 := Fr.tr F1' g2 rfl
    refine e_cE (ofx q2.qa r2'.2.2.2.2.2) (fun r3 T3 p => ?_)
    obtain ⟨e3, -⟩ := p
    subst e3
    refine e_i (fun _ => ?_) (fun _ => e_some ⟨w2, C2, F2⟩)
    refine e_cE (rkx_start w2 q2.qa r2') (fun r4 T4 p => ?_)
    obtain ⟨w4, g4, r4'⟩ := p
    have C4 := C2.rk g4 r4'
    have q4 : QW T4 w W := q2.of g4.2 (g4.1 71 5 rfl) (g4.1 71 6 rfl) (g4.1 71 7 rfl)
    have E4 : QE T4 w (shN w) := h3.of (fun i => by rw [g4.1 114 i rfl, g2.1 114 i rfl])
    have F4 : Fr HL [] S T4 := Fr.tr F2 g4 rfl
    refine e_cE (ofx q4.qa r4'.2.2.2.2.2) (fun r5 T5 p => ?_)
    obtain ⟨e5, -⟩ := p
    subst e5
    refine e_i (fun _ => ?_) (fun _ => e_some ⟨w4, C4, F4⟩)
    refine e_cE (pvx w4 r4' q4 E4) (fun r6 T6 p => ?_)
    obtain ⟨⟨w6, r6'⟩, g6⟩ := p
    have C6 : CQ T6 G := C4.of r6' g6.2 (g6.1 71 5 rfl) (g6.1 71 6 rfl) (g6.1 71 7 rfl) (fun i => g6.1 114 i rfl)
    exact e_i (fun _ => e_some ⟨w6, C6, Fr.tr F4 g6 rfl⟩) (fun _ => e_some ⟨w6, C6, Fr.tr F4 g6 rfl⟩)
theorem c_Yard_check {S : SS} {G : Nat} (hW : WR S) (hC : CQ S G) : Ex2 (f_Yard_check S) (fun _ U => WR U ∧ CQ U G ∧ Fr HL [] S U) := by
  refine e_eq (f_Yard_check.eq_1 _) ?_
  refine e_cE (hox hW hC) (fun r T p => ?_)
  exact e_i (fun _ => e_some p) (fun _ => e_some p)
def gho (S : SS) (d : Nat) : SS := (S.1, fun a => if a = 200 then d else S.2 a)
theorem gho_2 (S : SS) (d : Nat) {a : Nat} (h : a ≠ 200) : (gho S d).2 a = S.2 a := if_neg h
theorem CQ.gho {S : SS} {G : Nat} (h : CQ S G) (d : Nat) : CQ (gho S d) G := by
  have e := fun (a : Nat) (ha : a ≠ 200) => gho_2 S d ha
  refine ⟨h.1, ?_⟩
  rcases h.2 with ⟨h1, h2, h3, h4, h5⟩ | ⟨w, W, h1, h2, h3⟩
  · exact Or.inl ⟨h1, h2, h3, h4, (e 120 (by decide)).trans h5⟩
  · obtain ⟨z1, z2, z5, z6, z7, l4, l5, l6, l7, l8, l9, l0, l1⟩ := h2
    exact Or.inr ⟨w, W, h1, ⟨z1, z2, z5, z6, z7, (e 114 (by decide)).trans l4, (e 115 (by decide)).trans l5, (e 116 (by decide)).trans l6, (e 117 (by decide)).trans l7, (e 118 (by decide)).trans l8, (e 119 (by decide)).trans l9, (e 120 (by decide)).trans l0, (e 121 (by decide)).trans l1⟩, h3⟩
theorem ind_j28s (x1 x2 y : Int32) (s1 : Nat → Nat → Int32) : Ind (f_Stacks_wagonAt_start_j28 x1 x2 y) s1 :=
  ind_eq (g := fun S => if y = 0 then some ((-4 : Int32), S) else grd (inb (((10 : Int32) * x1) + x2) 40) (some (s1 122 (((10 : Int32) * x1) + x2).toNatClampNeg, S))) (ind_if _ (ind_some _ _) (ind_grd _ (ind_some _ _))) (fun s2 => f_Stacks_wagonAt_start_j28.eq_1 _ _ _ _)
theorem ind_j27s (x1 x2 : Int32) (s1 : Nat → Nat → Int32) : Ind (f_Stacks_wagonAt_start_j27 x1 x2) s1 := ind_eq (ind_j28s x1 x2 0 s1) (fun s2 => f_Stacks_wagonAt_start_j27.eq_1 _ _ _)
theorem ind_was (a1 a2 : Int32) (s1 : Nat → Nat → Int32) : Ind (f_Stacks_wagonAt_start a1 a2) s1 :=
  ind_eq (g := fun S => if a1 < 0 then f_Stacks_wagonAt_start_j27 a1 a2 S else if (4 : Int32) ≤ a1 then f_Stacks_wagonAt_start_j27 a1 a2 S else if a2 < 0 then f_Stacks_wagonAt_start_j27 a1 a2 S else grd (inb a1 4) (if (s1 123 a1.toNatClampNeg) ≤ a2 then f_Stacks_wagonAt_start_j27 a1 a2 S else f_Stacks_wagonAt_start_j28 a1 a2 (1 : Int32) S)) (ind_if _ (ind_j27s _ _ _) (ind_if _ (ind_j27s _ _ _) (ind_if _ (ind_j27s _ _ _) (ind_grd _ (ind_if _ (ind_j27s _ _ _) (ind_j28s _ _ _ _)))))) (fun s2 => f_Stacks_wagonAt_start.eq_1 _ _ _)
theorem ind_L11s {K : Int32 → Int32 → SS → Option (Int32 × SS)} {s1 : Nat → Nat → Int32} (hK : ∀ a b, Ind (K a b) s1) : ∀ (N : Nat) (x1 x2 x3 : Int32), Ind (f_Stacks_members_start_L11 K N x1 x2 x3) s1
  | 0, x1, x2, x3 => ind_eq (ind_none s1) (fun s2 => f_Stacks_members_start_L11.eq_1 _ _ _ _ _)
  | N + 1, x1, x2, x3 => ind_eq (g := fun S => grd (inb x2 4) (if (s1 123 x2.toNatClampNeg) ≤ x3 then K x1 (x2 + 1) S else bnd (f_Stacks_wagonAt_start x2 x3 S) (fun r3 S2 => f_Stacks_members_start_L11 K N (x1 ||| ((1 : Int32) <<< (r3 &&& 31))) x2 (x3 + 1) S2))) (ind_grd _ (ind_if _ (hK _ _) (ind_bnd (ind_was _ _ _) (fun v => ind_L11s hK N _ _ _)))) (fun s2 => f_Stacks_members_start_L11.eq_2 _ _ _ _ _ _)
theorem ind_L4s {s1 : Nat → Nat → Int32} : ∀ (N : Nat) (x1 x2 : Int32), Ind (f_Stacks_members_start_L4 N x1 x2) s1
  | 0, x1, x2 => ind_eq (ind_none s1) (fun s2 => f_Stacks_members_start_L4.eq_1 _ _ _)
  | N + 1, x1, x2 => ind_eq (g := fun S => if (4 : Int32) ≤ x2 then some (x1, S) else f_Stacks_members_start_L11 (fun v0 v1 S => f_Stacks_members_start_L4 N v0 v1 S) NF x1 x2 (0 : Int32) S) (ind_if _ (ind_some _ _) (ind_L11s (fun a b => ind_L4s N a b) NF _ _ _)) (fun s2 => f_Stacks_members_start_L4.eq_2 _ _ _ _)
theorem ind_mems (s1 : Nat → Nat → Int32) : Ind f_Stacks_members_start s1 := ind_eq (ind_L4s NF 0 0) (fun s2 => f_Stacks_members_start.eq_1 _)
theorem ind_bc (a : Int32) (s1 : Nat → Nat → Int32) : Ind (f_Integer_bitCount_0f7a4 a) s1 := ⟨(f_Integer_bitCount_0f7a4 a (s1, fun _ => 0)).map Prod.fst, fun _ => rfl⟩
theorem ind_same (s1 : Nat → Nat → Int32) : Ind f_Plans_haveSameWagons s1 :=
  ind_eq (g := fun S => bnd (f_Stacks_members_start S) (fun r2 S1 => bnd (f_Stacks_members_goal S1) (fun r4 S3 => if r2 = r4 then some ((1 : Int32), S3) else some ((0 : Int32), S3)))) (ind_bnd (ind_mems s1) (fun v => ind_bnd (ind_mem s1) (fun v' => ind_if _ (ind_some _ _) (ind_some _ _)))) (fun s2 => f_Plans_haveSameWagons.eq_1 _)
theorem ind_small (s1 : Nat → Nat → Int32) : Ind f_Plans_isSmall s1 :=
  ind_eq (g := fun S => bnd (f_Stacks_members_start S) (fun r2 S1 => bnd (f_Integer_bitCount_0f7a4 r2 S1) (fun r4 S3 => if (5 : Int32) < r4 then some ((0 : Int32), S3) else some ((1 : Int32), S3)))) (ind_bnd (ind_mems s1) (fun v => ind_bnd (ind_bc v s1) (fun v' => ind_if _ (ind_some _ _) (ind_some _ _)))) (fun s2 => f_Plans_isSmall.eq_1 _)
theorem ind_val {f : SS → Option (Int32 × SS)} {S : SS} {P : Int32 → SS → Prop} (h : Ind f S.1) (t : Ex2 (f (gho S 0)) P) : ∃ v, ∀ d, f (gho S d) = some (v, gho S d) := by
  obtain ⟨o, h⟩ := h
  obtain ⟨r, U, e, -⟩ := t
  have h0 := h (gho S 0).2
  cases o with
  | none =>
    have e' : f (gho S 0) = none := h0
    rw [e'] at e
    cases e
  | some v => exact ⟨v, fun d => h (gho S d).2⟩
def YL : List Nat := [107, 108, 109, 110, 111, 112, 113, 114, 115, 116, 117, 118, 119, 120, 121, 126, 127]
/-- whether a call of plan makes the rows anew is known ahead of it -/
theorem c_Yard_plan {S : SS} {G : Nat} {a : Int32} (hW : WR S) (hC : CQ S G) : ∃ d, d ≤ 1 ∧ Ex2 (f_Yard_plan a (gho S d)) (fun _ U => WR U ∧ F1 YL MFl S U ∧ ∃ G', CQ U G' ∧ G + d ≤ G') := by
  have hW0 : ∀ d, WR (gho S d) := fun d => hW
  obtain ⟨r1, h1⟩ := ind_val (ind_same S.1) (t_Plans_haveSameWagons (hW0 0))
  obtain ⟨r2, h2⟩ := ind_val (ind_small S.1) (t_Plans_isSmall (hW0 0))
  have eD : ∀ d, Dp (gho S d) = gho (Dp S) d := fun d => rfl
  have wD : WR (gho (Dp S) 0) := WR.st (k := 70) (i := 7) (WR.st (k := 70) (i := 8) (hW0 0) trivial rfl rfl) (rgl 0 0 128 rfl) rfl rfl
  obtain ⟨r3, h3⟩ := ind_val (S := Dp S) (ind_mem (Dp S).1) (t_Stacks_members_goal wD)
  have no : ∀ d, Ex2 (some ((-1 : Int32), gho S d)) (fun _ U => WR U ∧ F1 YL MFl S U ∧ ∃ G', CQ U G' ∧ G + 0 ≤ G') := fun d => e_some ⟨hW0 d, F1.rf, G, hC.gho d, Nat.le_refl _⟩
  have pre : ∀ (d : Nat) (P : Int32 → SS → Prop), (¬ (¬ r1 = 0 ∧ ¬ a = 1 ∧ ¬ r2 = 0 ∧ ¬ a < 0 ∧ a ≤ 1) → Ex2 (some ((-1 : Int32), gho S d)) P) → (a = 1 → ¬ r1 = 0 → Ex2 (bnd (f_Plans_makeByRule (gho S d)) (fun r10 S9 => some (r10, S9))) P) → (¬ r1 = 0 → ¬ a = 1 → ¬ r2 = 0 → Ex2 (bnd (f_Plans_makeLeast (gho S d)) (fun r8 S7 => some (r8, S7))) P) → Ex2 (f_Yard_plan a (gho S d)) P := fun d P n1 n2 n3 => by
    refine e_eq (f_Yard_plan.eq_1 _ _) ?_
    refine e_bnd ?_
    refine e_eq (f_Yard_isNot.eq_1 _ _ _ _) ?_
    refine e_i (fun z => e_some (e_f (by decide) (n1 (fun k => k.2.2.2.1 z)))) (fun z1 => ?_)
    refine e_i (fun z2 => ?_) (fun z => e_some (e_f (by decide) (n1 (fun k => z k.2.2.2.2))))
    refine e_some (e_t rfl ?_)
    rw [h1 d, bnd_r]
    refine e_i (fun z => n1 (fun k => k.1 z)) (fun q1 => ?_)
    refine e_i (fun q => n2 q q1) (fun q => ?_)
    rw [h2 d, bnd_r]
    exact e_i (fun z => n1 (fun k => k.2.2.1 z)) (fun q2 => n3 q1 q q2)
  have rule : ∀ d, Ex2 (bnd (f_Plans_makeByRule (gho S d)) (fun r10 S9 => some (r10, S9))) (fun _ U => WR U ∧ F1 YL MFl S U ∧ ∃ G', CQ U G' ∧ G + 0 ≤ G') := fun d => by
    refine e_cE (t_Plans_makeByRule (hW0 d)) (fun r2 T2 p => ?_)
    obtain ⟨w2, g2, -⟩ := p
    exact e_some ⟨w2, F1.tr (T := gho S d) F1.rf g2.f1 rfl, G, (hC.gho d).fr g2 (fun k hk i => by
      simp only [List.mem_cons, List.mem_nil_iff, or_false] at hk
      rcases hk with rfl | rfl | rfl | rfl | rfl | rfl <;> rfl) (fun i => rfl) ⟨rfl, rfl, rfl⟩, Nat.le_refl _⟩
  by_cases ha : ¬ r1 = 0 ∧ ¬ a = 1 ∧ ¬ r2 = 0 ∧ ¬ a < 0 ∧ a ≤ 1
  · by_cases hb : G ≤ nb r3 10
    · refine ⟨1, by omega, pre 1 _ (fun k => absurd ha k) (fun k _ => absurd k ha.2.1) (fun _ _ _ => ?_)⟩
      refine e_cE (mlx (hW0 1) (hC.gho 1) (fun _ _ _ => rfl)) (fun r4 T3 p => ?_)
      obtain ⟨w3, f3, r, er, C3⟩ := p
      have er' : r = r3 := by
        have h31 := h3 1
        rw [← eD 1, er] at h31
        injection h31 with h31
        injection h31
      subst er'
      refine e_some ⟨w3, F1.tr (T := gho S 1) F1.rf f3 rfl, _, C3, ?_⟩
      unfold Gn
      rw [if_pos hb]
      omega
    · refine ⟨0, by omega, pre 0 _ (fun _ => no 0) (fun _ _ => rule 0) (fun c1 c2 c3 => ?_)⟩
      have hlt := hb
      have same : ∀ r, f_Stacks_members_goal (Dp (gho S 0)) = some (r, Dp (gho S 0)) → r = r3 := fun r hr => by
        have h30 := h3 0
        rw [← eD 0, hr] at h30
        injection h30 with h30
        injection h30
      refine e_cE (mlx (hW0 0) (hC.gho 0) (fun r hr hG => absurd (same r hr ▸ hG) hlt)) (fun r4 T3 p => ?_)
      obtain ⟨w3, f3, r, er, C3⟩ := p
      have er' := same r er
      subst er'
      refine e_some ⟨w3, F1.tr (T := gho S 0) F1.rf f3 rfl, _, C3, ?_⟩
      unfold Gn
      rw [if_neg hlt]
      exact Nat.le_refl _
  · refine ⟨0, by omega, ?_⟩
    refine e_eq (f_Yard_plan.eq_1 _ _) ?_
    refine e_bnd ?_
    refine e_eq (f_Yard_isNot.eq_1 _ _ _ _) ?_
    refine e_i (fun z => e_some (e_f (by decide) (no 0))) (fun z1 => ?_)
    refine e_i (fun z2 => ?_) (fun z => e_some (e_f (by decide) (no 0)))
    refine e_some (e_t rfl ?_)
    rw [h1 0, bnd_r]
    refine e_i (fun z => no 0) (fun q1 => ?_)
    refine e_i (fun q => rule 0) (fun q => ?_)
    rw [h2 0, bnd_r]
    exact e_i (fun z => no 0) (fun q2 => absurd ⟨q1, q, q2, z1, z2⟩ ha)
end
section
/-! ===== the law's bytes ===== -/
def lwS_31 : List Nat := []
def lwS_30 : List Nat := 4 :: 96 :: 46 :: 42 :: 29 :: 5 :: 96 :: 46 :: 182 :: 0 :: 227 :: 87 :: 44 :: 42 :: 29 :: 4 :: 96 :: 46 :: 42 :: 29 :: 5 :: 96 :: 46 :: 182 :: 0 :: 230 :: 87 :: 167 :: 0 :: 16 :: 43 :: 182 :: 0 :: 231 :: 87 :: 44 :: 182 :: 0 :: 234 :: 87 :: 167 :: 0 :: 3 :: 132 :: 3 :: 6 :: 167 :: 248 :: 100 :: 4 :: 172 :: lwS_31
def lwS_29 : List Nat := 5 :: 96 :: 46 :: 182 :: 0 :: 215 :: 87 :: 44 :: 42 :: 29 :: 4 :: 96 :: 46 :: 42 :: 29 :: 5 :: 96 :: 46 :: 182 :: 0 :: 218 :: 87 :: 167 :: 0 :: 85 :: 43 :: 182 :: 0 :: 219 :: 87 :: 44 :: 182 :: 0 :: 222 :: 87 :: 167 :: 0 :: 72 :: 43 :: 42 :: 29 :: 4 :: 96 :: 46 :: 182 :: 0 :: 223 :: 87 :: 44 :: 42 :: 29 :: 4 :: 96 :: 46 :: 182 :: 0 :: 226 :: 87 :: 167 :: 0 :: 49 :: 43 :: 42 :: 29 :: lwS_30
def lwS_28 : List Nat := 0 :: 4 :: 3 :: 42 :: 29 :: 5 :: 96 :: 46 :: 42 :: 29 :: 6 :: 96 :: 46 :: 182 :: 0 :: 206 :: 87 :: 167 :: 0 :: 154 :: 43 :: 182 :: 0 :: 207 :: 87 :: 44 :: 182 :: 0 :: 210 :: 87 :: 167 :: 0 :: 141 :: 43 :: 42 :: 29 :: 4 :: 96 :: 46 :: 182 :: 0 :: 211 :: 87 :: 44 :: 42 :: 29 :: 4 :: 96 :: 46 :: 182 :: 0 :: 214 :: 87 :: 167 :: 0 :: 118 :: 43 :: 42 :: 29 :: 4 :: 96 :: 46 :: 42 :: 29 :: lwS_29
def lwS_27 : List Nat := 5 :: 96 :: 46 :: 182 :: 0 :: 198 :: 87 :: 44 :: 42 :: 29 :: 4 :: 96 :: 46 :: 42 :: 29 :: 5 :: 96 :: 46 :: 182 :: 0 :: 201 :: 87 :: 167 :: 0 :: 213 :: 43 :: 42 :: 29 :: 4 :: 96 :: 46 :: 153 :: 0 :: 7 :: 4 :: 167 :: 0 :: 4 :: 3 :: 42 :: 29 :: 5 :: 96 :: 46 :: 42 :: 29 :: 6 :: 96 :: 46 :: 182 :: 0 :: 202 :: 87 :: 44 :: 42 :: 29 :: 4 :: 96 :: 46 :: 153 :: 0 :: 7 :: 4 :: 167 :: lwS_28
def lwS_26 : List Nat := 185 :: 87 :: 44 :: 182 :: 0 :: 188 :: 87 :: 167 :: 1 :: 36 :: 43 :: 182 :: 0 :: 189 :: 88 :: 44 :: 182 :: 0 :: 193 :: 88 :: 167 :: 1 :: 23 :: 43 :: 42 :: 29 :: 4 :: 96 :: 46 :: 42 :: 29 :: 5 :: 96 :: 46 :: 182 :: 0 :: 194 :: 87 :: 44 :: 42 :: 29 :: 4 :: 96 :: 46 :: 42 :: 29 :: 5 :: 96 :: 46 :: 182 :: 0 :: 197 :: 87 :: 167 :: 0 :: 246 :: 43 :: 42 :: 29 :: 4 :: 96 :: 46 :: 42 :: 29 :: lwS_27
def lwS_25 : List Nat := 1 :: 108 :: 43 :: 42 :: 29 :: 4 :: 96 :: 46 :: 182 :: 0 :: 173 :: 87 :: 44 :: 42 :: 29 :: 4 :: 96 :: 46 :: 182 :: 0 :: 176 :: 87 :: 167 :: 1 :: 85 :: 43 :: 42 :: 29 :: 4 :: 96 :: 46 :: 182 :: 0 :: 177 :: 87 :: 44 :: 42 :: 29 :: 4 :: 96 :: 46 :: 182 :: 0 :: 180 :: 87 :: 167 :: 1 :: 62 :: 43 :: 182 :: 0 :: 181 :: 87 :: 44 :: 182 :: 0 :: 184 :: 87 :: 167 :: 1 :: 49 :: 43 :: 182 :: 0 :: lwS_26
def lwS_24 : List Nat := 4 :: 96 :: 46 :: 182 :: 0 :: 164 :: 87 :: 167 :: 1 :: 164 :: 43 :: 42 :: 29 :: 4 :: 96 :: 46 :: 42 :: 29 :: 5 :: 96 :: 46 :: 182 :: 0 :: 165 :: 44 :: 42 :: 29 :: 4 :: 96 :: 46 :: 42 :: 29 :: 5 :: 96 :: 46 :: 182 :: 0 :: 168 :: 159 :: 1 :: 133 :: 3 :: 172 :: 43 :: 42 :: 29 :: 4 :: 96 :: 46 :: 182 :: 0 :: 169 :: 87 :: 44 :: 42 :: 29 :: 4 :: 96 :: 46 :: 182 :: 0 :: 172 :: 87 :: 167 :: lwS_25
def lwS_23 : List Nat := 46 :: 182 :: 0 :: 153 :: 87 :: 44 :: 42 :: 29 :: 4 :: 96 :: 46 :: 42 :: 29 :: 5 :: 96 :: 46 :: 42 :: 29 :: 6 :: 96 :: 46 :: 182 :: 0 :: 156 :: 87 :: 167 :: 1 :: 210 :: 43 :: 42 :: 29 :: 4 :: 96 :: 46 :: 182 :: 0 :: 157 :: 87 :: 44 :: 42 :: 29 :: 4 :: 96 :: 46 :: 182 :: 0 :: 160 :: 87 :: 167 :: 1 :: 187 :: 43 :: 42 :: 29 :: 4 :: 96 :: 46 :: 182 :: 0 :: 161 :: 87 :: 44 :: 42 :: 29 :: lwS_24
def lwS_22 : List Nat := 29 :: 4 :: 96 :: 46 :: 42 :: 29 :: 5 :: 96 :: 46 :: 182 :: 0 :: 148 :: 87 :: 167 :: 2 :: 30 :: 43 :: 42 :: 29 :: 4 :: 96 :: 46 :: 42 :: 29 :: 5 :: 96 :: 46 :: 182 :: 0 :: 149 :: 87 :: 44 :: 42 :: 29 :: 4 :: 96 :: 46 :: 42 :: 29 :: 5 :: 96 :: 46 :: 182 :: 0 :: 152 :: 87 :: 167 :: 1 :: 253 :: 43 :: 42 :: 29 :: 4 :: 96 :: 46 :: 42 :: 29 :: 5 :: 96 :: 46 :: 42 :: 29 :: 6 :: 96 :: lwS_23
def lwS_21 : List Nat := 96 :: 46 :: 42 :: 29 :: 5 :: 96 :: 46 :: 182 :: 0 :: 140 :: 87 :: 167 :: 2 :: 96 :: 43 :: 42 :: 29 :: 4 :: 96 :: 46 :: 42 :: 29 :: 5 :: 96 :: 46 :: 182 :: 0 :: 141 :: 87 :: 44 :: 42 :: 29 :: 4 :: 96 :: 46 :: 42 :: 29 :: 5 :: 96 :: 46 :: 182 :: 0 :: 144 :: 87 :: 167 :: 2 :: 63 :: 43 :: 42 :: 29 :: 4 :: 96 :: 46 :: 42 :: 29 :: 5 :: 96 :: 46 :: 182 :: 0 :: 145 :: 87 :: 44 :: 42 :: lwS_22
def lwS_20 : List Nat := 182 :: 0 :: 129 :: 87 :: 44 :: 42 :: 29 :: 4 :: 96 :: 46 :: 42 :: 29 :: 5 :: 96 :: 46 :: 182 :: 0 :: 132 :: 87 :: 167 :: 2 :: 152 :: 43 :: 42 :: 29 :: 4 :: 96 :: 46 :: 182 :: 0 :: 133 :: 87 :: 44 :: 42 :: 29 :: 4 :: 96 :: 46 :: 182 :: 0 :: 136 :: 87 :: 167 :: 2 :: 129 :: 43 :: 42 :: 29 :: 4 :: 96 :: 46 :: 42 :: 29 :: 5 :: 96 :: 46 :: 182 :: 0 :: 137 :: 87 :: 44 :: 42 :: 29 :: 4 :: lwS_21
def lwS_19 : List Nat := 4 :: 96 :: 46 :: 182 :: 0 :: 124 :: 87 :: 167 :: 2 :: 228 :: 43 :: 42 :: 29 :: 4 :: 96 :: 46 :: 42 :: 29 :: 5 :: 96 :: 46 :: 42 :: 29 :: 6 :: 96 :: 46 :: 182 :: 0 :: 125 :: 87 :: 44 :: 42 :: 29 :: 4 :: 96 :: 46 :: 42 :: 29 :: 5 :: 96 :: 46 :: 42 :: 29 :: 6 :: 96 :: 46 :: 182 :: 0 :: 128 :: 87 :: 167 :: 2 :: 185 :: 43 :: 42 :: 29 :: 4 :: 96 :: 46 :: 42 :: 29 :: 5 :: 96 :: 46 :: lwS_20
def lwS_18 : List Nat := 112 :: 87 :: 167 :: 3 :: 41 :: 43 :: 42 :: 29 :: 4 :: 96 :: 46 :: 182 :: 0 :: 113 :: 87 :: 44 :: 42 :: 29 :: 4 :: 96 :: 46 :: 182 :: 0 :: 116 :: 87 :: 167 :: 3 :: 18 :: 43 :: 42 :: 29 :: 4 :: 96 :: 46 :: 182 :: 0 :: 117 :: 87 :: 44 :: 42 :: 29 :: 4 :: 96 :: 46 :: 182 :: 0 :: 120 :: 87 :: 167 :: 2 :: 251 :: 43 :: 42 :: 29 :: 4 :: 96 :: 46 :: 182 :: 0 :: 121 :: 87 :: 44 :: 42 :: 29 :: lwS_19
def lwS_17 : List Nat := 29 :: 5 :: 96 :: 46 :: 42 :: 29 :: 6 :: 96 :: 46 :: 182 :: 0 :: 105 :: 87 :: 44 :: 42 :: 29 :: 4 :: 96 :: 46 :: 42 :: 29 :: 5 :: 96 :: 46 :: 42 :: 29 :: 6 :: 96 :: 46 :: 182 :: 0 :: 108 :: 87 :: 167 :: 3 :: 74 :: 43 :: 42 :: 29 :: 4 :: 96 :: 46 :: 42 :: 29 :: 5 :: 96 :: 46 :: 182 :: 0 :: 109 :: 87 :: 44 :: 42 :: 29 :: 4 :: 96 :: 46 :: 42 :: 29 :: 5 :: 96 :: 46 :: 182 :: 0 :: lwS_18
def lwS_16 : List Nat := 96 :: 46 :: 182 :: 0 :: 97 :: 87 :: 44 :: 42 :: 29 :: 4 :: 96 :: 46 :: 42 :: 29 :: 5 :: 96 :: 46 :: 182 :: 0 :: 100 :: 87 :: 167 :: 3 :: 150 :: 43 :: 42 :: 29 :: 4 :: 96 :: 46 :: 42 :: 29 :: 5 :: 96 :: 46 :: 182 :: 0 :: 101 :: 87 :: 44 :: 42 :: 29 :: 4 :: 96 :: 46 :: 42 :: 29 :: 5 :: 96 :: 46 :: 182 :: 0 :: 104 :: 87 :: 167 :: 3 :: 117 :: 43 :: 42 :: 29 :: 4 :: 96 :: 46 :: 42 :: lwS_17
def lwS_15 : List Nat := 96 :: 46 :: 182 :: 0 :: 88 :: 87 :: 167 :: 3 :: 229 :: 43 :: 42 :: 29 :: 4 :: 96 :: 46 :: 182 :: 0 :: 89 :: 87 :: 44 :: 42 :: 29 :: 4 :: 96 :: 46 :: 182 :: 0 :: 92 :: 87 :: 167 :: 3 :: 206 :: 43 :: 42 :: 29 :: 4 :: 96 :: 46 :: 182 :: 0 :: 93 :: 87 :: 44 :: 42 :: 29 :: 4 :: 96 :: 46 :: 182 :: 0 :: 96 :: 87 :: 167 :: 3 :: 183 :: 43 :: 42 :: 29 :: 4 :: 96 :: 46 :: 42 :: 29 :: 5 :: lwS_16
def lwS_14 : List Nat := 42 :: 29 :: 4 :: 96 :: 46 :: 42 :: 29 :: 5 :: 96 :: 46 :: 182 :: 0 :: 80 :: 87 :: 167 :: 4 :: 29 :: 43 :: 42 :: 29 :: 4 :: 96 :: 46 :: 182 :: 0 :: 81 :: 87 :: 44 :: 42 :: 29 :: 4 :: 96 :: 46 :: 182 :: 0 :: 84 :: 87 :: 167 :: 4 :: 6 :: 43 :: 42 :: 29 :: 4 :: 96 :: 46 :: 42 :: 29 :: 5 :: 96 :: 46 :: 182 :: 0 :: 85 :: 87 :: 44 :: 42 :: 29 :: 4 :: 96 :: 46 :: 42 :: 29 :: 5 :: lwS_15
def lwS_13 : List Nat := 4 :: 96 :: 46 :: 42 :: 29 :: 5 :: 96 :: 46 :: 182 :: 0 :: 72 :: 87 :: 167 :: 4 :: 95 :: 43 :: 42 :: 29 :: 4 :: 96 :: 46 :: 42 :: 29 :: 5 :: 96 :: 46 :: 182 :: 0 :: 73 :: 87 :: 44 :: 42 :: 29 :: 4 :: 96 :: 46 :: 42 :: 29 :: 5 :: 96 :: 46 :: 182 :: 0 :: 76 :: 87 :: 167 :: 4 :: 62 :: 43 :: 42 :: 29 :: 4 :: 96 :: 46 :: 42 :: 29 :: 5 :: 96 :: 46 :: 182 :: 0 :: 77 :: 87 :: 44 :: lwS_14
def lwS_12 : List Nat := 29 :: 5 :: 96 :: 46 :: 42 :: 29 :: 6 :: 96 :: 46 :: 42 :: 29 :: 7 :: 96 :: 46 :: 182 :: 0 :: 65 :: 87 :: 44 :: 42 :: 29 :: 4 :: 96 :: 46 :: 42 :: 29 :: 5 :: 96 :: 46 :: 42 :: 29 :: 6 :: 96 :: 46 :: 42 :: 29 :: 7 :: 96 :: 46 :: 182 :: 0 :: 68 :: 87 :: 167 :: 4 :: 128 :: 43 :: 42 :: 29 :: 4 :: 96 :: 46 :: 42 :: 29 :: 5 :: 96 :: 46 :: 182 :: 0 :: 69 :: 87 :: 44 :: 42 :: 29 :: lwS_13
def lwS_11 : List Nat := 96 :: 46 :: 42 :: 29 :: 7 :: 96 :: 46 :: 182 :: 0 :: 59 :: 87 :: 167 :: 4 :: 224 :: 43 :: 42 :: 29 :: 4 :: 96 :: 46 :: 42 :: 29 :: 5 :: 96 :: 46 :: 42 :: 29 :: 6 :: 96 :: 46 :: 182 :: 0 :: 60 :: 87 :: 44 :: 42 :: 29 :: 4 :: 96 :: 46 :: 42 :: 29 :: 5 :: 96 :: 46 :: 42 :: 29 :: 6 :: 96 :: 46 :: 182 :: 0 :: 64 :: 87 :: 167 :: 4 :: 181 :: 43 :: 42 :: 29 :: 4 :: 96 :: 46 :: 42 :: lwS_12
def lwS_10 : List Nat := 42 :: 29 :: 5 :: 96 :: 46 :: 182 :: 0 :: 50 :: 87 :: 167 :: 5 :: 34 :: 43 :: 182 :: 0 :: 51 :: 87 :: 44 :: 182 :: 0 :: 55 :: 87 :: 167 :: 5 :: 21 :: 43 :: 42 :: 29 :: 4 :: 96 :: 46 :: 42 :: 29 :: 5 :: 96 :: 46 :: 42 :: 29 :: 6 :: 96 :: 46 :: 42 :: 29 :: 7 :: 96 :: 46 :: 182 :: 0 :: 56 :: 87 :: 44 :: 42 :: 29 :: 4 :: 96 :: 46 :: 42 :: 29 :: 5 :: 96 :: 46 :: 42 :: 29 :: 6 :: lwS_11
def lwS_9 : List Nat := 153 :: 0 :: 7 :: 4 :: 167 :: 0 :: 4 :: 3 :: 182 :: 0 :: 43 :: 87 :: 44 :: 42 :: 29 :: 4 :: 96 :: 46 :: 42 :: 29 :: 5 :: 96 :: 46 :: 42 :: 29 :: 6 :: 96 :: 46 :: 153 :: 0 :: 7 :: 4 :: 167 :: 0 :: 4 :: 3 :: 182 :: 0 :: 46 :: 87 :: 167 :: 5 :: 67 :: 43 :: 42 :: 29 :: 4 :: 96 :: 46 :: 42 :: 29 :: 5 :: 96 :: 46 :: 182 :: 0 :: 47 :: 87 :: 44 :: 42 :: 29 :: 4 :: 96 :: 46 :: lwS_10
def lwS_8 : List Nat := 6 :: 96 :: 46 :: 42 :: 29 :: 7 :: 96 :: 46 :: 182 :: 0 :: 38 :: 87 :: 44 :: 42 :: 29 :: 4 :: 96 :: 46 :: 153 :: 0 :: 7 :: 4 :: 167 :: 0 :: 4 :: 3 :: 42 :: 29 :: 5 :: 96 :: 46 :: 42 :: 29 :: 6 :: 96 :: 46 :: 42 :: 29 :: 7 :: 96 :: 46 :: 182 :: 0 :: 42 :: 87 :: 167 :: 5 :: 126 :: 43 :: 42 :: 29 :: 4 :: 96 :: 46 :: 42 :: 29 :: 5 :: 96 :: 46 :: 42 :: 29 :: 6 :: 96 :: 46 :: lwS_9
def lwS_7 : List Nat := 46 :: 42 :: 29 :: 8 :: 96 :: 46 :: 182 :: 0 :: 33 :: 87 :: 44 :: 42 :: 29 :: 4 :: 96 :: 46 :: 42 :: 29 :: 5 :: 96 :: 46 :: 42 :: 29 :: 6 :: 96 :: 46 :: 42 :: 29 :: 7 :: 96 :: 46 :: 42 :: 29 :: 8 :: 96 :: 46 :: 182 :: 0 :: 37 :: 87 :: 167 :: 5 :: 195 :: 43 :: 42 :: 29 :: 4 :: 96 :: 46 :: 153 :: 0 :: 7 :: 4 :: 167 :: 0 :: 4 :: 3 :: 42 :: 29 :: 5 :: 96 :: 46 :: 42 :: 29 :: lwS_8
def lwS_6 : List Nat := 46 :: 153 :: 0 :: 7 :: 4 :: 167 :: 0 :: 4 :: 3 :: 182 :: 0 :: 28 :: 87 :: 44 :: 42 :: 29 :: 4 :: 96 :: 46 :: 42 :: 29 :: 5 :: 96 :: 46 :: 42 :: 29 :: 6 :: 96 :: 46 :: 153 :: 0 :: 7 :: 4 :: 167 :: 0 :: 4 :: 3 :: 182 :: 0 :: 32 :: 87 :: 167 :: 6 :: 2 :: 43 :: 42 :: 29 :: 4 :: 96 :: 46 :: 42 :: 29 :: 5 :: 96 :: 46 :: 42 :: 29 :: 6 :: 96 :: 46 :: 42 :: 29 :: 7 :: 96 :: lwS_7
def lwS_5 : List Nat := 96 :: 46 :: 42 :: 29 :: 5 :: 96 :: 46 :: 42 :: 29 :: 6 :: 96 :: 46 :: 42 :: 29 :: 7 :: 96 :: 46 :: 182 :: 0 :: 23 :: 87 :: 44 :: 42 :: 29 :: 4 :: 96 :: 46 :: 42 :: 29 :: 5 :: 96 :: 46 :: 42 :: 29 :: 6 :: 96 :: 46 :: 42 :: 29 :: 7 :: 96 :: 46 :: 182 :: 0 :: 27 :: 87 :: 167 :: 6 :: 61 :: 43 :: 42 :: 29 :: 4 :: 96 :: 46 :: 42 :: 29 :: 5 :: 96 :: 46 :: 42 :: 29 :: 6 :: 96 :: lwS_6
def lwS_4 : List Nat := 0 :: 0 :: 7 :: 125 :: 43 :: 42 :: 29 :: 4 :: 96 :: 46 :: 182 :: 0 :: 13 :: 87 :: 44 :: 42 :: 29 :: 4 :: 96 :: 46 :: 182 :: 0 :: 17 :: 87 :: 167 :: 6 :: 147 :: 43 :: 42 :: 29 :: 4 :: 96 :: 46 :: 42 :: 29 :: 5 :: 96 :: 46 :: 182 :: 0 :: 18 :: 87 :: 44 :: 42 :: 29 :: 4 :: 96 :: 46 :: 42 :: 29 :: 5 :: 96 :: 46 :: 182 :: 0 :: 22 :: 87 :: 167 :: 6 :: 114 :: 43 :: 42 :: 29 :: 4 :: lwS_5
def lwS_3 : List Nat := 0 :: 0 :: 5 :: 233 :: 0 :: 0 :: 6 :: 10 :: 0 :: 0 :: 6 :: 33 :: 0 :: 0 :: 6 :: 56 :: 0 :: 0 :: 6 :: 79 :: 0 :: 0 :: 6 :: 92 :: 0 :: 0 :: 6 :: 105 :: 0 :: 0 :: 6 :: 118 :: 0 :: 0 :: 6 :: 151 :: 0 :: 0 :: 6 :: 184 :: 0 :: 0 :: 6 :: 243 :: 0 :: 0 :: 7 :: 0 :: 0 :: 0 :: 7 :: 23 :: 0 :: 0 :: 7 :: 56 :: 0 :: 0 :: 7 :: 69 :: 0 :: 0 :: 7 :: 92 :: lwS_4
def lwS_2 : List Nat := 0 :: 0 :: 3 :: 247 :: 0 :: 0 :: 4 :: 24 :: 0 :: 0 :: 4 :: 67 :: 0 :: 0 :: 4 :: 100 :: 0 :: 0 :: 4 :: 123 :: 0 :: 0 :: 4 :: 146 :: 0 :: 0 :: 4 :: 169 :: 0 :: 0 :: 4 :: 212 :: 0 :: 0 :: 4 :: 245 :: 0 :: 0 :: 5 :: 12 :: 0 :: 0 :: 5 :: 45 :: 0 :: 0 :: 5 :: 78 :: 0 :: 0 :: 5 :: 111 :: 0 :: 0 :: 5 :: 144 :: 0 :: 0 :: 5 :: 187 :: 0 :: 0 :: 5 :: 210 :: lwS_3
def lwS_1 : List Nat := 0 :: 0 :: 1 :: 139 :: 0 :: 0 :: 1 :: 202 :: 0 :: 0 :: 2 :: 15 :: 0 :: 0 :: 2 :: 74 :: 0 :: 0 :: 2 :: 107 :: 0 :: 0 :: 2 :: 120 :: 0 :: 0 :: 2 :: 173 :: 0 :: 0 :: 2 :: 216 :: 0 :: 0 :: 3 :: 13 :: 0 :: 0 :: 3 :: 46 :: 0 :: 0 :: 3 :: 79 :: 0 :: 0 :: 3 :: 112 :: 0 :: 0 :: 3 :: 135 :: 0 :: 0 :: 3 :: 168 :: 0 :: 0 :: 3 :: 191 :: 0 :: 0 :: 3 :: 214 :: lwS_2
def lwS_0 : List Nat := 187 :: 0 :: 7 :: 89 :: 183 :: 0 :: 9 :: 76 :: 187 :: 0 :: 10 :: 89 :: 183 :: 0 :: 12 :: 77 :: 3 :: 62 :: 29 :: 42 :: 190 :: 16 :: 6 :: 100 :: 163 :: 7 :: 153 :: 42 :: 29 :: 46 :: 16 :: 63 :: 126 :: 170 :: 0 :: 0 :: 0 :: 0 :: 7 :: 138 :: 0 :: 0 :: 0 :: 0 :: 0 :: 0 :: 0 :: 52 :: 0 :: 0 :: 0 :: 227 :: 0 :: 0 :: 0 :: 250 :: 0 :: 0 :: 1 :: 27 :: 0 :: 0 :: 1 :: 80 :: lwS_1
def lwBy : List Nat := cL_law.data.toList.map UInt8.toNat
theorem lws_0 : lwBy = lwS_0 := by decide +kernel
theorem lw_0 {p j m : Nat} {l : List Nat} (hp : p = 0 + j) (h : (lwS_0.drop j).take m = l) : tkN cL_law p m = l := by
  subst hp
  unfold tkN
  rw [List.map_take, List.map_drop]
  show (lwBy.drop (0 + j)).take m = l
  rw [← List.drop_drop, List.drop_zero, lws_0]
  exact h
theorem lws_1 : lwBy.drop 64 = lwS_1 := by rw [show 64 = 0 + 64 from rfl, ← List.drop_drop, List.drop_zero, lws_0]; exact (by decide +kernel : lwS_0.drop 64 = lwS_1)
theorem lw_1 {p j m : Nat} {l : List Nat} (hp : p = 64 + j) (h : (lwS_1.drop j).take m = l) : tkN cL_law p m = l := by
  subst hp
  unfold tkN
  rw [List.map_take, List.map_drop]
  show (lwBy.drop (64 + j)).take m = l
  rw [← List.drop_drop, lws_1]
  exact h
theorem lws_2 : lwBy.drop 128 = lwS_2 := by rw [show 128 = 64 + 64 from rfl, ← List.drop_drop, lws_1]; exact (by decide +kernel : lwS_1.drop 64 = lwS_2)
theorem lw_2 {p j m : Nat} {l : List Nat} (hp : p = 128 + j) (h : (lwS_2.drop j).take m = l) : tkN cL_law p m = l := by
  subst hp
  unfold tkN
  rw [List.map_take, List.map_drop]
  show (lwBy.drop (128 + j)).take m = l
  rw [← List.drop_drop, lws_2]
  exact h
theorem lws_3 : lwBy.drop 192 = lwS_3 := by rw [show 192 = 128 + 64 from rfl, ← List.drop_drop, lws_2]; exact (by decide +kernel : lwS_2.drop 64 = lwS_3)
theorem lw_3 {p j m : Nat} {l : List Nat} (hp : p = 192 + j) (h : (lwS_3.drop j).take m = l) : tkN cL_law p m = l := by
  subst hp
  unfold tkN
  rw [List.map_take, List.map_drop]
  show (lwBy.drop (192 + j)).take m = l
  rw [← List.drop_drop, lws_3]
  exact h
theorem lws_4 : lwBy.drop 256 = lwS_4 := by rw [show 256 = 192 + 64 from rfl, ← List.drop_drop, lws_3]; exact (by decide +kernel : lwS_3.drop 64 = lwS_4)
theorem lw_4 {p j m : Nat} {l : List Nat} (hp : p = 256 + j) (h : (lwS_4.drop j).take m = l) : tkN cL_law p m = l := by
  subst hp
  unfold tkN
  rw [List.map_take, List.map_drop]
  show (lwBy.drop (256 + j)).take m = l
  rw [← List.drop_drop, lws_4]
  exact h
theorem lws_5 : lwBy.drop 320 = lwS_5 := by rw [show 320 = 256 + 64 from rfl, ← List.drop_drop, lws_4]; exact (by decide +kernel : lwS_4.drop 64 = lwS_5)
theorem lw_5 {p j m : Nat} {l : List Nat} (hp : p = 320 + j) (h : (lwS_5.drop j).take m = l) : tkN cL_law p m = l := by
  subst hp
  unfold tkN
  rw [List.map_take, List.map_drop]
  show (lwBy.drop (320 + j)).take m = l
  rw [← List.drop_drop, lws_5]
  exact h
theorem lws_6 : lwBy.drop 384 = lwS_6 := by rw [show 384 = 320 + 64 from rfl, ← List.drop_drop, lws_5]; exact (by decide +kernel : lwS_5.drop 64 = lwS_6)
theorem lw_6 {p j m : Nat} {l : List Nat} (hp : p = 384 + j) (h : (lwS_6.drop j).take m = l) : tkN cL_law p m = l := by
  subst hp
  unfold tkN
  rw [List.map_take, List.map_drop]
  show (lwBy.drop (384 + j)).take m = l
  rw [← List.drop_drop, lws_6]
  exact h
theorem lws_7 : lwBy.drop 448 = lwS_7 := by rw [show 448 = 384 + 64 from rfl, ← List.drop_drop, lws_6]; exact (by decide +kernel : lwS_6.drop 64 = lwS_7)
theorem lw_7 {p j m : Nat} {l : List Nat} (hp : p = 448 + j) (h : (lwS_7.drop j).take m = l) : tkN cL_law p m = l := by
  subst hp
  unfold tkN
  rw [List.map_take, List.map_drop]
  show (lwBy.drop (448 + j)).take m = l
  rw [← List.drop_drop, lws_7]
  exact h
theorem lws_8 : lwBy.drop 512 = lwS_8 := by rw [show 512 = 448 + 64 from rfl, ← List.drop_drop, lws_7]; exact (by decide +kernel : lwS_7.drop 64 = lwS_8)
theorem lw_8 {p j m : Nat} {l : List Nat} (hp : p = 512 + j) (h : (lwS_8.drop j).take m = l) : tkN cL_law p m = l := by
  subst hp
  unfold tkN
  rw [List.map_take, List.map_drop]
  show (lwBy.drop (512 + j)).take m = l
  rw [← List.drop_drop, lws_8]
  exact h
theorem lws_9 : lwBy.drop 576 = lwS_9 := by rw [show 576 = 512 + 64 from rfl, ← List.drop_drop, lws_8]; exact (by decide +kernel : lwS_8.drop 64 = lwS_9)
theorem lw_9 {p j m : Nat} {l : List Nat} (hp : p = 576 + j) (h : (lwS_9.drop j).take m = l) : tkN cL_law p m = l := by
  subst hp
  unfold tkN
  rw [List.map_take, List.map_drop]
  show (lwBy.drop (576 + j)).take m = l
  rw [← List.drop_drop, lws_9]
  exact h
theorem lws_10 : lwBy.drop 640 = lwS_10 := by rw [show 640 = 576 + 64 from rfl, ← List.drop_drop, lws_9]; exact (by decide +kernel : lwS_9.drop 64 = lwS_10)
theorem lw_10 {p j m : Nat} {l : List Nat} (hp : p = 640 + j) (h : (lwS_10.drop j).take m = l) : tkN cL_law p m = l := by
  subst hp
  unfold tkN
  rw [List.map_take, List.map_drop]
  show (lwBy.drop (640 + j)).take m = l
  rw [← List.drop_drop, lws_10]
  exact h
theorem lws_11 : lwBy.drop 704 = lwS_11 := by rw [show 704 = 640 + 64 from rfl, ← List.drop_drop, lws_10]; exact (by decide +kernel : lwS_10.drop 64 = lwS_11)
theorem lw_11 {p j m : Nat} {l : List Nat} (hp : p = 704 + j) (h : (lwS_11.drop j).take m = l) : tkN cL_law p m = l := by
  subst hp
  unfold tkN
  rw [List.map_take, List.map_drop]
  show (lwBy.drop (704 + j)).take m = l
  rw [← List.drop_drop, lws_11]
  exact h
theorem lws_12 : lwBy.drop 768 = lwS_12 := by rw [show 768 = 704 + 64 from rfl, ← List.drop_drop, lws_11]; exact (by decide +kernel : lwS_11.drop 64 = lwS_12)
theorem lw_12 {p j m : Nat} {l : List Nat} (hp : p = 768 + j) (h : (lwS_12.drop j).take m = l) : tkN cL_law p m = l := by
  subst hp
  unfold tkN
  rw [List.map_take, List.map_drop]
  show (lwBy.drop (768 + j)).take m = l
  rw [← List.drop_drop, lws_12]
  exact h
theorem lws_13 : lwBy.drop 832 = lwS_13 := by rw [show 832 = 768 + 64 from rfl, ← List.drop_drop, lws_12]; exact (by decide +kernel : lwS_12.drop 64 = lwS_13)
theorem lw_13 {p j m : Nat} {l : List Nat} (hp : p = 832 + j) (h : (lwS_13.drop j).take m = l) : tkN cL_law p m = l := by
  subst hp
  unfold tkN
  rw [List.map_take, List.map_drop]
  show (lwBy.drop (832 + j)).take m = l
  rw [← List.drop_drop, lws_13]
  exact h
theorem lws_14 : lwBy.drop 896 = lwS_14 := by rw [show 896 = 832 + 64 from rfl, ← List.drop_drop, lws_13]; exact (by decide +kernel : lwS_13.drop 64 = lwS_14)
theorem lw_14 {p j m : Nat} {l : List Nat} (hp : p = 896 + j) (h : (lwS_14.drop j).take m = l) : tkN cL_law p m = l := by
  subst hp
  unfold tkN
  rw [List.map_take, List.map_drop]
  show (lwBy.drop (896 + j)).take m = l
  rw [← List.drop_drop, lws_14]
  exact h
theorem lws_15 : lwBy.drop 960 = lwS_15 := by rw [show 960 = 896 + 64 from rfl, ← List.drop_drop, lws_14]; exact (by decide +kernel : lwS_14.drop 64 = lwS_15)
theorem lw_15 {p j m : Nat} {l : List Nat} (hp : p = 960 + j) (h : (lwS_15.drop j).take m = l) : tkN cL_law p m = l := by
  subst hp
  unfold tkN
  rw [List.map_take, List.map_drop]
  show (lwBy.drop (960 + j)).take m = l
  rw [← List.drop_drop, lws_15]
  exact h
theorem lws_16 : lwBy.drop 1024 = lwS_16 := by rw [show 1024 = 960 + 64 from rfl, ← List.drop_drop, lws_15]; exact (by decide +kernel : lwS_15.drop 64 = lwS_16)
theorem lw_16 {p j m : Nat} {l : List Nat} (hp : p = 1024 + j) (h : (lwS_16.drop j).take m = l) : tkN cL_law p m = l := by
  subst hp
  unfold tkN
  rw [List.map_take, List.map_drop]
  show (lwBy.drop (1024 + j)).take m = l
  rw [← List.drop_drop, lws_16]
  exact h
theorem lws_17 : lwBy.drop 1088 = lwS_17 := by rw [show 1088 = 1024 + 64 from rfl, ← List.drop_drop, lws_16]; exact (by decide +kernel : lwS_16.drop 64 = lwS_17)
theorem lw_17 {p j m : Nat} {l : List Nat} (hp : p = 1088 + j) (h : (lwS_17.drop j).take m = l) : tkN cL_law p m = l := by
  subst hp
  unfold tkN
  rw [List.map_take, List.map_drop]
  show (lwBy.drop (1088 + j)).take m = l
  rw [← List.drop_drop, lws_17]
  exact h
theorem lws_18 : lwBy.drop 1152 = lwS_18 := by rw [show 1152 = 1088 + 64 from rfl, ← List.drop_drop, lws_17]; exact (by decide +kernel : lwS_17.drop 64 = lwS_18)
theorem lw_18 {p j m : Nat} {l : List Nat} (hp : p = 1152 + j) (h : (lwS_18.drop j).take m = l) : tkN cL_law p m = l := by
  subst hp
  unfold tkN
  rw [List.map_take, List.map_drop]
  show (lwBy.drop (1152 + j)).take m = l
  rw [← List.drop_drop, lws_18]
  exact h
theorem lws_19 : lwBy.drop 1216 = lwS_19 := by rw [show 1216 = 1152 + 64 from rfl, ← List.drop_drop, lws_18]; exact (by decide +kernel : lwS_18.drop 64 = lwS_19)
theorem lw_19 {p j m : Nat} {l : List Nat} (hp : p = 1216 + j) (h : (lwS_19.drop j).take m = l) : tkN cL_law p m = l := by
  subst hp
  unfold tkN
  rw [List.map_take, List.map_drop]
  show (lwBy.drop (1216 + j)).take m = l
  rw [← List.drop_drop, lws_19]
  exact h
theorem lws_20 : lwBy.drop 1280 = lwS_20 := by rw [show 1280 = 1216 + 64 from rfl, ← List.drop_drop, lws_19]; exact (by decide +kernel : lwS_19.drop 64 = lwS_20)
theorem lw_20 {p j m : Nat} {l : List Nat} (hp : p = 1280 + j) (h : (lwS_20.drop j).take m = l) : tkN cL_law p m = l := by
  subst hp
  unfold tkN
  rw [List.map_take, List.map_drop]
  show (lwBy.drop (1280 + j)).take m = l
  rw [← List.drop_drop, lws_20]
  exact h
theorem lws_21 : lwBy.drop 1344 = lwS_21 := by rw [show 1344 = 1280 + 64 from rfl, ← List.drop_drop, lws_20]; exact (by decide +kernel : lwS_20.drop 64 = lwS_21)
theorem lw_21 {p j m : Nat} {l : List Nat} (hp : p = 1344 + j) (h : (lwS_21.drop j).take m = l) : tkN cL_law p m = l := by
  subst hp
  unfold tkN
  rw [List.map_take, List.map_drop]
  show (lwBy.drop (1344 + j)).take m = l
  rw [← List.drop_drop, lws_21]
  exact h
theorem lws_22 : lwBy.drop 1408 = lwS_22 := by rw [show 1408 = 1344 + 64 from rfl, ← List.drop_drop, lws_21]; exact (by decide +kernel : lwS_21.drop 64 = lwS_22)
theorem lw_22 {p j m : Nat} {l : List Nat} (hp : p = 1408 + j) (h : (lwS_22.drop j).take m = l) : tkN cL_law p m = l := by
  subst hp
  unfold tkN
  rw [List.map_take, List.map_drop]
  show (lwBy.drop (1408 + j)).take m = l
  rw [← List.drop_drop, lws_22]
  exact h
theorem lws_23 : lwBy.drop 1472 = lwS_23 := by rw [show 1472 = 1408 + 64 from rfl, ← List.drop_drop, lws_22]; exact (by decide +kernel : lwS_22.drop 64 = lwS_23)
theorem lw_23 {p j m : Nat} {l : List Nat} (hp : p = 1472 + j) (h : (lwS_23.drop j).take m = l) : tkN cL_law p m = l := by
  subst hp
  unfold tkN
  rw [List.map_take, List.map_drop]
  show (lwBy.drop (1472 + j)).take m = l
  rw [← List.drop_drop, lws_23]
  exact h
theorem lws_24 : lwBy.drop 1536 = lwS_24 := by rw [show 1536 = 1472 + 64 from rfl, ← List.drop_drop, lws_23]; exact (by decide +kernel : lwS_23.drop 64 = lwS_24)
theorem lw_24 {p j m : Nat} {l : List Nat} (hp : p = 1536 + j) (h : (lwS_24.drop j).take m = l) : tkN cL_law p m = l := by
  subst hp
  unfold tkN
  rw [List.map_take, List.map_drop]
  show (lwBy.drop (1536 + j)).take m = l
  rw [← List.drop_drop, lws_24]
  exact h
theorem lws_25 : lwBy.drop 1600 = lwS_25 := by rw [show 1600 = 1536 + 64 from rfl, ← List.drop_drop, lws_24]; exact (by decide +kernel : lwS_24.drop 64 = lwS_25)
theorem lw_25 {p j m : Nat} {l : List Nat} (hp : p = 1600 + j) (h : (lwS_25.drop j).take m = l) : tkN cL_law p m = l := by
  subst hp
  unfold tkN
  rw [List.map_take, List.map_drop]
  show (lwBy.drop (1600 + j)).take m = l
  rw [← List.drop_drop, lws_25]
  exact h
theorem lws_26 : lwBy.drop 1664 = lwS_26 := by rw [show 1664 = 1600 + 64 from rfl, ← List.drop_drop, lws_25]; exact (by decide +kernel : lwS_25.drop 64 = lwS_26)
theorem lw_26 {p j m : Nat} {l : List Nat} (hp : p = 1664 + j) (h : (lwS_26.drop j).take m = l) : tkN cL_law p m = l := by
  subst hp
  unfold tkN
  rw [List.map_take, List.map_drop]
  show (lwBy.drop (1664 + j)).take m = l
  rw [← List.drop_drop, lws_26]
  exact h
theorem lws_27 : lwBy.drop 1728 = lwS_27 := by rw [show 1728 = 1664 + 64 from rfl, ← List.drop_drop, lws_26]; exact (by decide +kernel : lwS_26.drop 64 = lwS_27)
theorem lw_27 {p j m : Nat} {l : List Nat} (hp : p = 1728 + j) (h : (lwS_27.drop j).take m = l) : tkN cL_law p m = l := by
  subst hp
  unfold tkN
  rw [List.map_take, List.map_drop]
  show (lwBy.drop (1728 + j)).take m = l
  rw [← List.drop_drop, lws_27]
  exact h
theorem lws_28 : lwBy.drop 1792 = lwS_28 := by rw [show 1792 = 1728 + 64 from rfl, ← List.drop_drop, lws_27]; exact (by decide +kernel : lwS_27.drop 64 = lwS_28)
theorem lw_28 {p j m : Nat} {l : List Nat} (hp : p = 1792 + j) (h : (lwS_28.drop j).take m = l) : tkN cL_law p m = l := by
  subst hp
  unfold tkN
  rw [List.map_take, List.map_drop]
  show (lwBy.drop (1792 + j)).take m = l
  rw [← List.drop_drop, lws_28]
  exact h
theorem lws_29 : lwBy.drop 1856 = lwS_29 := by rw [show 1856 = 1792 + 64 from rfl, ← List.drop_drop, lws_28]; exact (by decide +kernel : lwS_28.drop 64 = lwS_29)
theorem lw_29 {p j m : Nat} {l : List Nat} (hp : p = 1856 + j) (h : (lwS_29.drop j).take m = l) : tkN cL_law p m = l := by
  subst hp
  unfold tkN
  rw [List.map_take, List.map_drop]
  show (lwBy.drop (1856 + j)).take m = l
  rw [← List.drop_drop, lws_29]
  exact h
theorem lws_30 : lwBy.drop 1920 = lwS_30 := by rw [show 1920 = 1856 + 64 from rfl, ← List.drop_drop, lws_29]; exact (by decide +kernel : lwS_29.drop 64 = lwS_30)
theorem lw_30 {p j m : Nat} {l : List Nat} (hp : p = 1920 + j) (h : (lwS_30.drop j).take m = l) : tkN cL_law p m = l := by
  subst hp
  unfold tkN
  rw [List.map_take, List.map_drop]
  show (lwBy.drop (1920 + j)).take m = l
  rw [← List.drop_drop, lws_30]
  exact h
end
