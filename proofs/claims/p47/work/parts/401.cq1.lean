/-! ===== the class's POTENTIALS: lengths, ranges ===== -/
def shN (w : Nat) : Nat := (w + 1) * (w + 2) * (w + 3) / 6
theorem qn_all : ∀ w W : Fin 6, w.1 ≤ W.1 → shN w.1 ≤ shN W.1 ∧ fcN w.1 ≤ fcN W.1 ∧ fcN w.1 * shN w.1 ≤ fcN W.1 * shN W.1 ∧ shN w.1 * w.1 * 3 ≤ shN W.1 * W.1 * 3 ∧ fcN W.1 ≤ 120 ∧ shN W.1 ≤ 56 ∧ fcN W.1 * shN W.1 ≤ 6720 ∧ shN W.1 * W.1 * 3 ≤ 840 ∧ 1 ≤ shN w.1 ∧ 1 ≤ fcN w.1 ∧ 1 ≤ fcN w.1 * shN w.1 ∧ (w.1 < W.1 → fcN w.1 * shN w.1 < fcN W.1 * shN W.1) := by decide +kernel
theorem qn {w W : Nat} (h : w ≤ W) (hW : W ≤ 5) : shN w ≤ shN W ∧ fcN w ≤ fcN W ∧ fcN w * shN w ≤ fcN W * shN W ∧ shN w * w * 3 ≤ shN W * W * 3 ∧ fcN W ≤ 120 ∧ shN W ≤ 56 ∧ fcN W * shN W ≤ 6720 ∧ shN W * W * 3 ≤ 840 ∧ 1 ≤ shN w ∧ 1 ≤ fcN w ∧ 1 ≤ fcN w * shN w ∧ (w < W → fcN w * shN w < fcN W * shN W) :=
  qn_all ⟨w, by omega⟩ ⟨W, by omega⟩ h
def QA (S : SS) (w o sh : Nat) : Prop := w ≤ 5 ∧ o * sh ≤ S.2 120 ∧ S.2 120 ≤ 6720 ∧ o ≤ 120 ∧ sh ≤ 56 ∧ S.1 71 5 = nI w ∧ S.1 71 6 = nI o ∧ S.1 71 7 = nI sh
def QW (S : SS) (w W : Nat) : Prop := w ≤ W ∧ W ≤ 5 ∧ S.1 71 5 = nI w ∧ S.1 71 6 = nI (fcN w) ∧ S.1 71 7 = nI (shN w) ∧ S.2 114 = shN W * 4 ∧ S.2 115 = fcN W * 20 ∧ S.2 116 = shN W + 1 ∧ S.2 117 = shN W * W * 3 ∧ S.2 118 = shN W * W * 3 ∧ S.2 119 = shN W * W * 3 ∧ S.2 120 = fcN W * shN W ∧ S.2 121 = fcN W * shN W
theorem QW.qa {S : SS} {w W : Nat} (h : QW S w W) : QA S w (fcN w) (shN w) := by
  obtain ⟨h1, h2, h3, h4, h5, -, -, -, -, -, -, h6, -⟩ := h
  have q := qn h1 h2
  have q' := qn (Nat.le_refl w) (by omega : w ≤ 5)
  exact ⟨by omega, by omega, by omega, by omega, by omega, h3, h4, h5⟩
def QR (S : SS) : Prop := (∀ i, rn (S.1 109 i) 0 4) ∧ (∀ i, rg (S.1 110 i) 0 4) ∧ (∀ i, rg (S.1 111 i) 0 4) ∧ (∀ i, rg (S.1 116 i) 0 840) ∧ (∀ i, rn (S.1 119 i) 0 19) ∧ ∀ i, rn (S.1 120 i) 0 6720
def QE (S : SS) (w k : Nat) : Prop := ∀ sh, sh < k → ∃ a b c, a ≤ b ∧ b ≤ c ∧ c ≤ w ∧ S.1 114 (4 * sh) = nI a ∧ S.1 114 (4 * sh + 1) = nI b ∧ S.1 114 (4 * sh + 2) = nI c ∧ S.1 114 (4 * sh + 3) = nI w
/-- all that the class's POTENTIALS have: G counts how often their rows were made -/
def CQ (S : SS) (G : Nat) : Prop := QR S ∧ ((G = 0 ∧ S.1 71 5 = 0 ∧ S.1 71 6 = 0 ∧ S.1 71 7 = 0 ∧ S.2 120 = 0) ∨ ∃ w W, G = W + 1 ∧ QW S w W ∧ QE S w (shN w))
theorem CQ.qa {S : SS} {G : Nat} (h : CQ S G) : ∃ w o sh, QA S w o sh := by
  rcases h.2 with ⟨-, h1, h2, h3, h4⟩ | ⟨w, W, -, h, -⟩
  · exact ⟨0, 0, 0, by omega, by omega, by omega, by omega, by omega, h1, h2, h3⟩
  · exact ⟨w, _, _, h.qa⟩
theorem isR {S : SS} {w o sh : Nat} {a : Int32} (h : QA S w o sh) : Ex2 (f_Potentials_isRank a S) (fun r U => U = S ∧ (r = 0 ∨ (r = 1 ∧ ∃ k, k < o * sh ∧ a = nI k))) := by
  obtain ⟨h1, h2, h3, h4, h5, h6, h7, h8⟩ := h
  refine e_eq (f_Potentials_isRank.eq_1 _ _) ?_
  refine e_i (fun _ => e_some ⟨rfl, Or.inl rfl⟩) (fun q => ?_)
  rw [h7, h8, nI_mul]
  refine e_i (fun _ => e_some ⟨rfl, Or.inl rfl⟩) (fun q2 => ?_)
  obtain ⟨k, rfl, -, -, k3⟩ := rg_ex (nlt_l (rgt a) (rgl 0 0 0 rfl) q) (by omega)
  refine e_some ⟨rfl, Or.inr ⟨rfl, k, ?_, rfl⟩⟩
  rcases Nat.lt_or_ge k (o * sh) with c | c
  · exact c
  · exact absurd (nI_le c k3) q2
theorem ofx {S : SS} {w o sh : Nat} {a : Int32} (h : QA S w o sh) (hr : ∀ i, rn (S.1 120 i) 0 6720) : Ex2 (f_Potentials_of a S) (fun r U => U = S ∧ rn r 0 6720) := by
  refine e_eq (f_Potentials_of.eq_1 _ _) ?_
  refine e_cE (isR h) (fun r T p => ?_)
  obtain ⟨e, p⟩ := p
  subst e
  obtain ⟨h1, h2, h3, h4, h5, h6, h7, h8⟩ := h
  rcases p with p | ⟨p, k, k1, rfl⟩
  · exact e_t p (e_some ⟨rfl, rn4l _ _⟩)
  · refine e_f (by rw [p]; decide) ?_
    refine e_grd (inb_nI (by omega) (by omega)) ?_
    exact e_some ⟨rfl, hr _⟩
theorem QR.fr {S U : SS} {L : List Nat} {F : List (Nat × Nat)} (h : QR S) (g : Fr L F S U) (e : ∀ k, k ∈ [109, 110, 111, 116, 119, 120] → ∀ i, wm L F k i = false) : QR U :=
  ⟨fun i => by rw [g.1 109 i (e _ (by decide) i)]; exact h.1 i, fun i => by rw [g.1 110 i (e _ (by decide) i)]; exact h.2.1 i, fun i => by rw [g.1 111 i (e _ (by decide) i)]; exact h.2.2.1 i, fun i => by rw [g.1 116 i (e _ (by decide) i)]; exact h.2.2.2.1 i, fun i => by rw [g.1 119 i (e _ (by decide) i)]; exact h.2.2.2.2.1 i, fun i => by rw [g.1 120 i (e _ (by decide) i)]; exact h.2.2.2.2.2 i⟩
theorem stx {S : SS} {w o sh : Nat} {a v : Int32} (hW : WR S) (h : QA S w o sh) (hr : QR S) (hv : rn v 0 6720) : Ew (f_Potentials_setTo a v S) (fun U => WR U ∧ Fr [120] [] S U ∧ QR U) := by
  refine v_eq (f_Potentials_setTo.eq_1 _ _ _) ?_
  refine v_cE (isR h) (fun r T p => ?_)
  obtain ⟨e, p⟩ := p
  subst e
  obtain ⟨h1, h2, h3, h4, h5, h6, h7, h8⟩ := h
  rcases p with p | ⟨p, k, k1, rfl⟩
  · exact v_t p (v_some ⟨hW, Fr.rf, hr⟩)
  · refine v_f (by rw [p]; decide) ?_
    refine v_grd (inb_nI (by omega) (by omega)) ?_
    refine v_wrA (fun U e g vv => ?_)
    refine v_some ⟨WR.st (k := 120) hW trivial rfl e, g, fun i => ?_, fun i => ?_, fun i => ?_, fun i => ?_, fun i => ?_, fun i => ?_⟩
    · rw [g.1 109 i rfl]; exact hr.1 i
    · rw [g.1 110 i rfl]; exact hr.2.1 i
    · rw [g.1 111 i rfl]; exact hr.2.2.1 i
    · rw [g.1 116 i rfl]; exact hr.2.2.2.1 i
    · rw [g.1 119 i rfl]; exact hr.2.2.2.2.1 i
    · rw [e, st_at, if_pos rfl]
      by_cases c : i = (nI k).toNatClampNeg
      · rw [if_pos c]; exact hv
      · rw [if_neg c]; exact hr.2.2.2.2.2 i
theorem kwx (a0 a1 a2 : Int32) (S : SS) : f_Potentials_keyWith a0 a1 a2 S = some (if (3 : Int32) ≤ a1 then a0 else (6 : Int32) * a0 + a2, S) := by
  rw [f_Potentials_keyWith.eq_1]
  by_cases c : (3 : Int32) ≤ a1
  · rw [if_pos c, if_pos c]
  · rw [if_neg c, if_neg c]
def kyb (s : Nat) : Nat := if s = 0 then 0 else if s = 1 then 5 else if s = 2 then 35 else 215
theorem kw_n {k s e : Nat} (S : SS) (hs : s < 4) (hk : k ≤ kyb s) (he : e ≤ 5) : ∃ k', k' ≤ kyb (s + 1) ∧ f_Potentials_keyWith (nI k) (nI s) (nI e) S = some (nI k', S) := by
  rw [kwx]
  rcases (show s = 0 ∨ s = 1 ∨ s = 2 ∨ s = 3 by omega) with rfl | rfl | rfl | rfl
  · refine ⟨6 * k + e, ?_, ?_⟩
    · have : k ≤ 0 := hk
      show 6 * k + e ≤ 5
      omega
    · rw [if_neg (by decide), show (6 : Int32) * nI k = nI (6 * k) from nI_mul 6 k, nI_add]
  · refine ⟨6 * k + e, ?_, ?_⟩
    · have : k ≤ 5 := hk
      show 6 * k + e ≤ 35
      omega
    · rw [if_neg (by decide), show (6 : Int32) * nI k = nI (6 * k) from nI_mul 6 k, nI_add]
  · refine ⟨6 * k + e, ?_, ?_⟩
    · have : k ≤ 35 := hk
      show 6 * k + e ≤ 215
      omega
    · rw [if_neg (by decide), show (6 : Int32) * nI k = nI (6 * k) from nI_mul 6 k, nI_add]
  · exact ⟨k, hk, by rw [if_pos (by decide)]⟩
theorem kyb_le (s : Nat) : kyb s ≤ 215 := by
  unfold kyb
  by_cases c0 : s = 0
  · rw [if_pos c0]; omega
  · rw [if_neg c0]
    by_cases c1 : s = 1
    · rw [if_pos c1]; omega
    · rw [if_neg c1]
      by_cases c2 : s = 2
      · rw [if_pos c2]; omega
      · rw [if_neg c2]; omega
