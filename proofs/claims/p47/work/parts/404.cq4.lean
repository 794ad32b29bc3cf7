/-! ===== the class: listEntries ===== -/
def ctt (f t : Nat) : Nat := if f < t then t - 1 else t
theorem j70x {S : SS} {K : Int32 → Int32 → Int32 → Int32 → SS → Option SS} {V : SS → Prop} {sh w f t B : Nat} (h : ShOk S sh w) (hf : f < 4) (ht : t < 4) (hB8 : S.2 118 = S.2 117) (hB9 : S.2 119 = S.2 117) (hB0 : S.2 117 ≤ 840) (hB : B ≤ S.2 117) {e : Nat} {T : SS} {x6 : Int32} (hQ : LQ T) (hF : LF S T) (hx : x6 < 1 ∨ (f ≠ t ∧ ∃ mo, x6 = nI mo ∧ mo ≤ en S sh f - eb S sh f ∧ e + mo ≤ B)) (he : e ≤ B) (hK : ∀ U e, LQ U → LF S U → e ≤ B → Ew (K (nI e) (nI sh) (nI f) (nI (t + 1)) U) V) : Ew (f_Potentials_listEntries_Plans_rooms_j70 K (nI e) (nI sh) (nI f) (nI t) x6 T) V := by
  refine v_eq (f_Potentials_listEntries_Plans_rooms_j70.eq_1 _ _ _ _ _ _ _) ?_
  rcases hx with hx | ⟨hft, mo, rfl, h1, h2⟩
  · refine v_eq (f_Potentials_listEntries_Plans_rooms_L75.eq_2 _ _ _ _ _ _ _ _ 99999) ?_
    refine v_t hx ?_
    refine v_nm ?_
    rw [nI_1]
    exact hK T e hQ hF he
  · have lf := h.le hf
    have l5 := h.2.2.1
    exact le_L75 h hf ht hft h1 hB hB8 hB9 hB0 hK NF 1 e T hQ hF (by omega) (by omega) (by omega) (by have : NF = 100000 := rfl; omega)
set_option maxHeartbeats 1000000 in
theorem le_L31 {S : SS} {K : Int32 → Int32 → Int32 → SS → Option SS} {V : SS → Prop} {sh w f c : Nat} (h : ShOk S sh w) (hf : f < 4) (hB8 : S.2 118 = S.2 117) (hB9 : S.2 119 = S.2 117) (hB0 : S.2 117 ≤ 840) (hc : c + 3 * w ≤ S.2 117) (hK : ∀ U e, LQ U → LF S U → e ≤ c + 3 * en S sh f → Ew (K (nI e) (nI sh) (nI (f + 1)) U) V) : ∀ (N t e : Nat) (T : SS), LQ T → LF S T → t ≤ 4 → e ≤ c + 3 * eb S sh f + ctt f t * (en S sh f - eb S sh f) → 4 < N + t → Ew (f_Potentials_listEntries_Plans_rooms_L31 K N (nI e) (nI sh) (nI f) (nI t) T) V
  | 0, t, e, T, hQ, hF, ht, he, hN => by omega
  | N + 1, t, e, T, hQ, hF, ht, he, hN => by
    have lf := h.le hf
    have l5 := h.2.2.1
    refine v_eq (f_Potentials_listEntries_Plans_rooms_L31.eq_2 _ _ _ _ _ _ _) ?_
    by_cases ct : t = 4
    · subst ct
      refine v_t (nI_le (a := 4) (by omega) (by omega)) ?_
      refine v_nm ?_
      rw [nI_1]
      refine hK T e hQ hF ?_
      have : ctt f 4 = 3 := by unfold ctt; rw [if_pos hf]
      rw [this] at he
      omega
    · have ht4 : t < 4 := by omega
      refine v_f (nI_ge (b := 4) ht4 (by omega)) ?_
      have c3 : ctt f t ≤ 3 := by
        unfold ctt
        by_cases d : f < t
        · rw [if_pos d]; omega
        · rw [if_neg d]; omega
      have m3 : ctt f t * (en S sh f - eb S sh f) ≤ 3 * (en S sh f - eb S sh f) := Nat.mul_le_mul_right _ c3
      by_cases d : f = t
      · subst d
        refine v_t rfl ?_
        refine j70x h hf ht4 hB8 hB9 hB0 (B := c + 3 * eb S sh f + ctt f f * (en S sh f - eb S sh f)) (by omega) hQ hF (Or.inl (by decide)) he (fun U e' u1 u2 u3 => ?_)
        refine le_L31 h hf hB8 hB9 hB0 hc hK N (f + 1) e' U u1 u2 (by omega) ?_ (by omega)
        have : ctt f (f + 1) = ctt f f := by unfold ctt; rw [if_pos (by omega), if_neg (by omega)]; omega
        rw [this]; exact u3
      · refine v_f (fun k => d (nI_inj (by omega) (by omega) k)) ?_
        have o := h.cg (T := T) (fun i => hF.1 114 i rfl) (by rw [hF.2])
        have ob : ∀ s, eb T sh s = eb S sh s := fun s => by unfold eb; rw [o.2]
        rw [hex o.1 hf, bnd_r]
        refine v_grd (inb_nI ht4 (by omega)) ?_
        rw [hex o.1 ht4, bnd_r, o.2, ob, o.2, ob]
        have cs : ctt f (t + 1) = ctt f t + 1 := by
          unfold ctt
          by_cases e1 : f < t
          · rw [if_pos e1, if_pos (by omega)]; omega
          · rw [if_neg e1, if_neg (by omega)]
        have sm : (ctt f t + 1) * (en S sh f - eb S sh f) = ctt f t * (en S sh f - eb S sh f) + (en S sh f - eb S sh f) := Nat.succ_mul _ _
        have key : ∀ x6 : Int32, (x6 < 1 ∨ ∃ mo, x6 = nI mo ∧ mo ≤ en S sh f - eb S sh f) → Ew (f_Potentials_listEntries_Plans_rooms_j70 (fun v0 v1 v2 v3 S => f_Potentials_listEntries_Plans_rooms_L31 K N v0 v1 v2 v3 S) (nI e) (nI sh) (nI f) (nI t) x6 T) V := fun x6 hx => by
          have hx' : x6 < 1 ∨ (f ≠ t ∧ ∃ mo, x6 = nI mo ∧ mo ≤ en S sh f - eb S sh f ∧ e + mo ≤ c + 3 * eb S sh f + (ctt f t + 1) * (en S sh f - eb S sh f)) := by
            rcases hx with hx | ⟨mo, m1, m2⟩
            · exact Or.inl hx
            · refine Or.inr ⟨d, mo, m1, m2, ?_⟩
              omega
          have c4 : ctt f t + 1 ≤ 3 := by
            unfold ctt
            by_cases e1 : f < t
            · rw [if_pos e1]; omega
            · rw [if_neg e1]; omega
          have m4 : (ctt f t + 1) * (en S sh f - eb S sh f) ≤ 3 * (en S sh f - eb S sh f) := Nat.mul_le_mul_right _ c4
          refine j70x h hf ht4 hB8 hB9 hB0 (B := c + 3 * eb S sh f + (ctt f t + 1) * (en S sh f - eb S sh f)) (by omega) hQ hF hx' (by omega) (fun U e' u1 u2 u3 => ?_)
          refine le_L31 h hf hB8 hB9 hB0 hc hK N (t + 1) e' U u1 u2 (by omega) ?_ (by omega)
          rw [cs]; exact u3
        refine v_bnd ?_
        refine e_eq (f_Math_min_7cf53.eq_1 _ _ _) ?_
        refine e_i (fun q => ?_) (fun q => ?_)
        · refine e_some (key _ ?_)
          generalize (T.1 106 (nI t).toNatClampNeg - nI (en S sh t - eb S sh t)) = y at q ⊢
          by_cases c1 : y < 1
          · exact Or.inl c1
          · obtain ⟨mo, rfl, -, -, m3'⟩ := rg_ex (nlt_l (rgt y) (rgl 1 1 1 rfl) c1) (by omega)
            have := (nI_ltJ m3' (by omega)).mp q
            exact Or.inr ⟨mo, rfl, by omega⟩
        · exact e_some (key _ (Or.inr ⟨_, rfl, Nat.le_refl _⟩))
theorem le_L22 {S : SS} {K : Int32 → Int32 → SS → Option SS} {V : SS → Prop} {sh w c : Nat} (h : ShOk S sh w) (hB8 : S.2 118 = S.2 117) (hB9 : S.2 119 = S.2 117) (hB0 : S.2 117 ≤ 840) (hc : c + 3 * w ≤ S.2 117) (hK : ∀ U e, LQ U → LF S U → e ≤ c + 3 * w → Ew (K (nI e) (nI (sh + 1)) U) V) : ∀ (N f e : Nat) (T : SS), LQ T → LF S T → f ≤ 4 → e ≤ c + 3 * eb S sh f → 4 < N + f → Ew (f_Potentials_listEntries_Plans_rooms_L22 K N (nI e) (nI sh) (nI f) T) V
  | 0, f, e, T, hQ, hF, hf, he, hN => by omega
  | N + 1, f, e, T, hQ, hF, hf, he, hN => by
    refine v_eq (f_Potentials_listEntries_Plans_rooms_L22.eq_2 _ _ _ _ _ _) ?_
    by_cases c4 : f = 4
    · subst c4
      refine v_t (nI_le (a := 4) (by omega) (by omega)) ?_
      refine v_nm ?_
      rw [nI_1]
      refine hK T e hQ hF ?_
      have : eb S sh 4 = w := h.2.2.2.2.2.2.2
      rw [this] at he
      exact he
    · have hf4 : f < 4 := by omega
      have lf := h.le hf4
      refine v_f (nI_ge (b := 4) hf4 (by omega)) ?_
      refine le_L31 h hf4 hB8 hB9 hB0 hc (fun U e' u1 u2 u3 => le_L22 h hB8 hB9 hB0 hc hK N (f + 1) e' U u1 u2 (by omega) ?_ (by omega)) NF 0 e T hQ hF (by omega) ?_ (by have : NF = 100000 := rfl; omega)
      · have : eb S sh (f + 1) = en S sh f := by
          unfold eb
          rw [if_neg (by omega)]
          rfl
        rw [this]; exact u3
      · have : ctt f 0 = 0 := rfl
        rw [this]
        omega
theorem le_L4 {S : SS} {w W : Nat} (hw : QW S w W) (hE : QE S w (shN w)) : ∀ (N sh e : Nat) (T : SS), LQ T → LF S T → sh ≤ shN w → e ≤ sh * (3 * w) → shN w < N + sh → Ew (f_Potentials_listEntries_Plans_rooms_L4 N (nI e) (nI sh) T) (fun U => LQ U ∧ LF S U)
  | 0, sh, e, T, hQ, hF, hs, he, hN => by omega
  | N + 1, sh, e, T, hQ, hF, hs, he, hN => by
    obtain ⟨q1, q2, q5, q6, q7, l4, l5, l6, l7, l8, l9, l0, l1⟩ := id hw
    have q := qn q1 q2
    have m1 : sh * (3 * w) ≤ shN w * (3 * w) := Nat.mul_le_mul_right _ hs
    have m2 : shN w * (3 * w) = shN w * w * 3 := by rw [Nat.mul_comm 3 w, Nat.mul_assoc]
    refine v_eq (f_Potentials_listEntries_Plans_rooms_L4.eq_2 _ _ _ _) ?_
    rw [hF.1 71 7 rfl, q7, hF.2, l6]
    by_cases c : sh = shN w
    · refine v_t (nI_le (by omega) (by omega)) ?_
      refine v_grd (inb_nI (by omega) (by omega)) ?_
      refine v_wrA (fun U e1 g1 v1 => ?_)
      exact v_some ⟨lq_116 hQ (rg_nI (by omega) (by omega) (by omega)) e1, Fr.tr hF g1 rfl⟩
    · have hsh : sh < shN w := by omega
      refine v_f (nI_ge hsh (by omega)) ?_
      refine v_grd (inb_nI (by omega) (by omega)) ?_
      refine v_wrA (fun U e1 g1 v1 => ?_)
      have sm : (sh + 1) * (3 * w) = sh * (3 * w) + 3 * w := Nat.succ_mul _ _
      have m3 : sh * (3 * w) + 3 * w ≤ shN w * (3 * w) := by
        rw [← sm]
        exact Nat.mul_le_mul_right _ hsh
      refine le_L22 (c := sh * (3 * w)) (ShOk.of hw hE hsh) (by omega) (by omega) (by omega) (by omega) (fun U' e' u1 u2 u3 => le_L4 hw hE N (sh + 1) e' U' u1 u2 (by omega) (by omega) (by omega)) NF 0 e U (lq_116 hQ (rg_nI (by omega) (by omega) (by omega)) e1) (Fr.tr hF g1 rfl) (by omega) ?_ (by have : NF = 100000 := rfl; omega)
      show e ≤ sh * (3 * w) + 3 * 0
      omega
theorem lex {S : SS} {w W : Nat} (hW : WR S) (hR : QR S) (hw : QW S w W) (hE : QE S w (shN w)) : Ew (f_Potentials_listEntries_Plans_rooms S) (fun U => LQ U ∧ LF S U) := by
  have q := qn hw.1 hw.2.1
  refine v_eq (f_Potentials_listEntries_Plans_rooms.eq_1 _) ?_
  exact le_L4 hw hE NF 0 0 S ⟨hW, hR⟩ Fr.rf (by omega) (by omega) (by have : NF = 100000 := rfl; omega)
/-! ===== the class: where a MOVE leads; prove; the first MOVE down ===== -/
theorem rax {S : SS} {w W : Nat} {a b : Int32} (hw : QW S w W) (hR : QR S) : Ex2 (f_Potentials_rankAfter a b S) (fun _ U => U = S) := by
  obtain ⟨q1, q2, q5, q6, q7, l4, l5, l6, l7, l8, l9, l0, l1⟩ := id hw
  have q := qn q1 q2
  refine e_eq (f_Potentials_rankAfter.eq_1 _ _ _) ?_
  refine e_cE (isR hw.qa) (fun r T p => ?_)
  obtain ⟨e, p⟩ := p
  subst e
  rcases p with p | ⟨p, k, k1, rfl⟩
  · exact e_t p (e_some rfl)
  · refine e_f (by rw [p]; decide) ?_
    refine e_i (fun _ => e_some rfl) (fun qb => ?_)
    refine e_i (fun qc => ?_) (fun _ => e_some rfl)
    obtain ⟨j, rfl, -, -, j3⟩ := rg_ex (nlt_l (rgt b) (rgl 0 0 0 rfl) qb) (by omega)
    have hj : j < T.2 117 := (nI_ltJ j3 (by omega)).mp qc
    rw [q7]
    refine e_grd (nI_nz (by omega) (by omega)) ?_
    refine e_nm ?_
    refine e_grd (inb_nI (by omega) (by omega)) ?_
    refine e_nm ?_
    have fin : ∀ y : Int32, Ex2 (f_Potentials_rankAfter_j62 (nI j) y T) (fun _ U => U = T) := fun y => by
      refine e_eq (f_Potentials_rankAfter_j62.eq_1 _ _ _) ?_
      refine e_grd (inb_nI (by omega) (by omega)) ?_
      exact e_some rfl
    rw [nI_clamp (n := j) j3]
    refine e_i (fun _ => fin _) (fun q4 => ?_)
    obtain ⟨v, ev, v1, v2, v3⟩ := rg_ex (rn.ne (hR.2.2.2.2.1 j) q4) (by omega)
    have hd : k / shN w < fcN w := by
      rw [Nat.mul_comm] at k1
      exact Nat.div_lt_of_lt_mul k1
    have f120 : fcN w ≤ 120 := fcN_le (by omega)
    rw [ev, nI_div (by omega) (by omega) (by omega), show (20 : Int32) * nI (k / shN w) = nI (20 * (k / shN w)) from nI_mul 20 _, nI_add]
    refine e_grd (inb_nI (by omega) (by omega)) ?_
    exact fin _
