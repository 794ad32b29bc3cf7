/-! ===== areSame told exactly; how many WAGONS there are ===== -/
def SameW (S : SS) : Prop := ∀ w, w < 10 → (Bef (S.1 47) (S.1 48) (nI w) 4 0 ↔ Bef (S.1 49) (S.1 50) (nI w) 4 0)
theorem bI_eq {a b : Bool} (h : bI a = bI b) : a = b := by
  cases a <;> cases b
  · rfl
  · exact absurd h (by decide)
  · exact absurd h (by decide)
  · rfl
theorem as_L4 {S : SS} (hW : WR S) : ∀ (N x : Nat) (b : Bool), (b = true → ∀ w, w < x → (Bef (S.1 47) (S.1 48) (nI w) 4 0 ↔ Bef (S.1 49) (S.1 50) (nI w) 4 0)) → x ≤ 10 → 10 < N + x → Ex2 (f_M_areSame_L4 N (bI b) (nI x) S) (fun r U => U = S ∧ (r = 0 ∨ (r = 1 ∧ SameW S)))
  | 0, x, b, hb, hx, hN => by omega
  | N + 1, x, b, hb, hx, hN => by
    refine e_eq (f_M_areSame_L4.eq_2 _ _ _ _) ?_
    have go : ∀ b' : Bool, (b' = true → ∀ w, w < x + 1 → (Bef (S.1 47) (S.1 48) (nI w) 4 0 ↔ Bef (S.1 49) (S.1 50) (nI w) 4 0)) → x < 10 → Ex2 (f_M_areSame_j46 (fun v0 v1 S => f_M_areSame_L4 N v0 v1 S) (nI x) (bI b') S) (fun r U => U = S ∧ (r = 0 ∨ (r = 1 ∧ SameW S))) := fun b' hb' hx' => by
      refine e_eq (f_M_areSame_j46.eq_1 _ _ _ _) ?_
      refine e_nm ?_
      rw [nI_1]
      exact as_L4 hW N (x + 1) b' hb' (by omega) (by omega)
    by_cases c : x = 10
    · subst c
      refine e_t (nI_le (a := 10) (by omega) (by omega)) ?_
      cases hbb : b with
      | false =>
        refine e_grd (by decide) ?_
        exact e_some ⟨rfl, Or.inl rfl⟩
      | true =>
        refine e_grd (by decide) ?_
        exact e_some ⟨rfl, Or.inr ⟨rfl, hb hbb⟩⟩
    · have hx' : x < 10 := by omega
      refine e_f (nI_ge (b := 10) hx' (by omega)) ?_
      cases hbb : b with
      | false =>
        refine e_t rfl ?_
        refine e_eq (f_M_areSame_j45.eq_1 _ _ _) ?_
        exact go false (fun k => by cases k) hx'
      | true =>
        refine e_f (by decide) ?_
        refine e_cE (u_has_s hW) (fun r1 T1 h1 => ?_)
        obtain ⟨e1, b1, q1, i1⟩ := h1
        subst e1
        refine e_cE (u_has_g hW) (fun r2 T2 h2 => ?_)
        obtain ⟨e2, b2, q2, i2⟩ := h2
        subst e2
        rw [q1, q2]
        refine e_i (fun q => ?_) (fun q => ?_)
        · refine go true (fun _ w hw => ?_) hx'
          have qq := bI_eq q
          by_cases cw : w = x
          · subst cw
            rw [← i1, ← i2, qq]
          · exact hb hbb w (by omega)
        · refine e_eq (f_M_areSame_j45.eq_1 _ _ _) ?_
          exact go false (fun k => by cases k) hx'
theorem asx {S : SS} (hW : WR S) : Ex2 (f_M_areSame S) (fun r U => U = S ∧ (r = 0 ∨ (r = 1 ∧ SameW S))) := by
  refine e_eq (f_M_areSame.eq_1 _) ?_
  exact as_L4 hW NF 0 true (fun _ w hw => by omega) (by omega) (by have : NF = 100000 := rfl; omega)
/-- the START has at most that many WAGONS -/
def StN (S : SS) : Nat := (S.1 47 0).toNatClampNeg + (S.1 47 1).toNatClampNeg + (S.1 47 2).toNatClampNeg + (S.1 47 3).toNatClampNeg
theorem smx {S : SS} (hW : WR S) : Ex2 (f_M_sumOf_M_startMany S) (fun r U => U = S ∧ r = nI (StN S) ∧ StN S ≤ 40) := by
  refine e_eq (f_M_sumOf_M_startMany.eq_1 _) ?_
  refine e_grd rfl ?_
  refine e_grd rfl ?_
  refine e_grd rfl ?_
  refine e_grd rfl ?_
  have h : ∀ s, ∃ m, S.1 47 s = nI m ∧ (S.1 47 s).toNatClampNeg = m ∧ m ≤ 10 := fun s => by
    obtain ⟨j, e, a, b, c⟩ := rg_ex (ro_47 hW s) (by omega)
    exact ⟨j, e, by rw [e, nI_clamp c], by omega⟩
  obtain ⟨m0, a0, b0, c0⟩ := h 0
  obtain ⟨m1, a1, b1, c1⟩ := h 1
  obtain ⟨m2, a2, b2, c2⟩ := h 2
  obtain ⟨m3, a3, b3, c3⟩ := h 3
  have e : StN S = m0 + m1 + m2 + m3 := by unfold StN; rw [b0, b1, b2, b3]
  refine e_some ⟨rfl, ?_, by omega⟩
  rw [show (0 : Int32).toNatClampNeg = 0 by decide, show (1 : Int32).toNatClampNeg = 1 by decide, show (2 : Int32).toNatClampNeg = 2 by decide, show (3 : Int32).toNatClampNeg = 3 by decide, a0, a1, a2, a3, nI_add, nI_add, nI_add, e]
theorem h5_of {S : SS} (hW : WR S) (hs : SameW S) (n : Nat) (g : Nat → Nat) (hg : ∀ j, j < n → g j < 10 ∧ Bef (S.1 49) (S.1 50) (nI (g j)) 4 0) (gi : ∀ i j, i < n → j < n → g i = g j → i = j) : n ≤ StN S := by
  obtain ⟨U, -, wU, gU, hU⟩ := tkx (x1 := 0) hW
  have hU : tkP S U 0 := hU
  have nU := tk_NN hW hU
  have q := php (Flat (cfS U)) n g (fun i hi => (bef_mem wU nU (hg i hi).1).mp ((tk_Bef wU hU _).mpr ((hs _ (hg i hi).1).mpr (hg i hi).2))) gi
  rw [flat_len, tot_off, off_4] at q
  unfold mN at q
  rw [(hU 0 (by omega)).1, (hU 1 (by omega)).1, (hU 2 (by omega)).1, (hU 3 (by omega)).1] at q
  exact q
/-! ===== the potentials: small, and falling ===== -/
theorem BI.rc {S : SS} {n : Nat} {G : Cf} {T : SS} {Ys : Nat → Cf} {pt : Nat → Nat} {sz : Nat} (h : BI S n G T Ys pt sz sz) : ∀ (m i : Nat) (Y : Cf), i < sz → Rc (rmN S) m (Ys i) Y → ∃ j, j < sz ∧ Ys j = Y ∧ pt j ≤ pt i + m
  | 0, i, Y, hi, hr => ⟨i, hi, hr, Nat.le_refl _⟩
  | m + 1, i, Y, hi, hr => by
    rcases hr with hr | ⟨Z, h1, h2⟩
    · exact ⟨i, hi, hr, by omega⟩
    · obtain ⟨j, j1, j2, j3⟩ := h.sp i hi hi Z h1
      rw [← j2] at h2
      obtain ⟨l, l1, l2, l3⟩ := BI.rc h m j Y j1 h2
      exact ⟨l, l1, l2, by omega⟩
theorem BI.p50 {S : SS} {n : Nat} {G : Cf} {T : SS} {Ys : Nat → Cf} {pt : Nat → Nat} {sz : Nat} (hp : PW S n) (h : BI S n G T Ys pt sz sz) (hr : ∀ s, s < 4 → 1 ≤ rmN S s) {i : Nat} (hi : i < sz) : pt i ≤ 50 := by
  obtain ⟨m, hm⟩ := h.rch i hi
  have c0 := h.cf 0 h.z0
  rw [h.z1] at c0
  have d := dm n (rmN S) G (Ys i) m hp.1.2.1 c0.1.1 hr c0.2.1 c0.far hm
  have e := h.z1
  rw [← e] at d
  obtain ⟨j, j1, j2, j3⟩ := h.rc 50 0 (Ys i) h.z0 d
  have : j = i := h.inj j i j1 hi (by rw [j2])
  subst this
  rw [h.z2] at j3
  omega
