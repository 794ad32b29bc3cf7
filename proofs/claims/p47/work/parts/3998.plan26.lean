/-! ===== what stays of a plan of fewest MOVES, and the plan itself ===== -/
def RM (S : SS) : Prop := ∀ s, s < 4 → 1 ≤ rmN S s
def PI (U : SS) : Prop := ¬ U.1 0 76 = -4 → ¬ U.1 0 76 = 1 → ∃ n m, PW U n ∧ U.1 0 77 = nI m ∧ m ≤ 50 ∧ (∀ j, j ≤ m → ∃ X, Cw U n X ∧ U.1 56 j = nI (cdX U n X)) ∧ ∀ c, c < 25920 → 0 ≤ U.1 55 c → ∃ X, Cw U n X ∧ cdX U n X = c
theorem PI.of {S U : SS} (h : PI S) (e : ∀ k, k ∈ [54, 55, 56] → ∀ i, U.1 k i = S.1 k i) (e76 : U.1 0 76 = S.1 0 76) (e77 : U.1 0 77 = S.1 0 77) (e81 : U.1 0 81 = S.1 0 81) : PI U := fun q q1 => by
  rw [e76] at q q1
  obtain ⟨n, m, h1, h2, h3, h4, h5⟩ := h q q1
  have sm : Sm S U := ⟨e81, fun j => e 54 (by decide) j⟩
  refine ⟨n, m, sm.pw h1, e77.trans h2, h3, fun j hj => ?_, fun c hc hv => ?_⟩
  · obtain ⟨X, x1, x2⟩ := h4 j hj
    exact ⟨X, x1.rb sm, by rw [e 56 (by decide) j, sm.cd]; exact x2⟩
  · rw [e 55 (by decide) c] at hv
    obtain ⟨X, x1, x2⟩ := h5 c hc hv
    exact ⟨X, x1.rb sm, by rw [sm.cd]; exact x2⟩
theorem PI.no {U : SS} (h : U.1 0 76 = -4) : PI U := fun q => absurd h q
theorem PI.no1 {U : SS} (h : U.1 0 76 = 1) : PI U := fun _ q => absurd h q
theorem start_cx {S U T : SS} {n : Nat} (hW : WR U) (hP : PL S) (hs : SameW S) (hg : RG S U n) (e47 : ∀ i, U.1 47 i = S.1 47 i) (e48 : ∀ i, U.1 48 i = S.1 48 i) (wT : WR T) (hT : tkP U T 0) : CX U n (cfS T) := by
  obtain ⟨g, g1, g2, g3⟩ := hg
  have k47 : U.1 (tkM 0) = S.1 47 := funext e47
  have k48 : U.1 (tkO 0) = S.1 48 := funext e48
  have nT := tk_NN hW hT
  have dT : DW (T.1 58) (T.1 57) := tk_DW wT hT (by rw [k47, k48]; exact hP.2.1)
  have bT : ∀ w, Bef (T.1 58) (T.1 57) w 4 0 ↔ Bef (S.1 47) (S.1 48) w 4 0 := fun w => by rw [tk_Bef wT hT w, k47, k48]
  exact cx_of wT nT dT (g := g) (fun j hj => ⟨(g1 j hj).1, (g1 j hj).2.1, (bT _).mpr ((hs _ (g1 j hj).1).mpr (g1 j hj).2.2)⟩) g2 (fun w hw k => g3 w hw ((hs w hw).mp ((bT _).mp k)))
set_option maxHeartbeats 1000000 in
theorem plx_0 {S : SS} (hW : WR S) (hP : PL S) (hR : RM S) (hs : SameW S) (h5 : StN S ≤ 5) : Ex2 (f_M_plan_j33 0 S) (fun r U => WR U ∧ Fr [51, 52, 53, 54, 55, 56, 57, 58, 59, 60] [(0, 76), (0, 77), (0, 81)] S U ∧ PI U) := by
  refine e_eq (f_M_plan_j33.eq_1 _ _) ?_
  refine e_wrO (fun S1 e1 g1 v1 => ?_)
  have w1 := WR.st (k := 0) (i := 76) hW trivial rfl e1
  refine e_f (by decide) ?_
  have k1 : ∀ k, k ∈ [46, 47, 48, 49, 50] → ∀ i, S1.1 k i = S.1 k i := fun k hk i => by
    simp only [List.mem_cons, List.mem_nil_iff, or_false] at hk
    rcases hk with rfl | rfl | rfl | rfl | rfl <;> exact g1.1 _ i rfl
  have P1 : PL S1 := hP.of k1
  have j47 : S1.1 47 = S.1 47 := funext (k1 47 (by decide))
  have j48 : S1.1 48 = S.1 48 := funext (k1 48 (by decide))
  have j49 : S1.1 49 = S.1 49 := funext (k1 49 (by decide))
  have j50 : S1.1 50 = S.1 50 := funext (k1 50 (by decide))
  have s1 : SameW S1 := fun w hw => by rw [j47, j48, j49, j50]; exact hs w hw
  have t1 : StN S1 ≤ 5 := by unfold StN; rw [j47]; exact h5
  refine e_cV (mex w1 P1 (fun n g a b => Nat.le_trans (h5_of w1 s1 n g a b) t1)) (fun U hU => ?_)
  obtain ⟨wU, gU, n, G, pU, rU, cG, Ys, pt, sz, hB⟩ := hU
  refine e_cV (tkx (x1 := 0) wU) (fun T2 h2 => ?_)
  obtain ⟨w2, g2, h2⟩ := h2
  have h2 : tkP U T2 0 := h2
  have c2 := start_cx wU P1 s1 rU (fun i => gU.1 47 i rfl) (fun i => gU.1 48 i rfl) w2 h2
  have sm2 : Sm U T2 := ⟨g2.1 0 81 rfl, fun j => g2.1 54 j rfl⟩
  have n2 := tk_NN wU h2
  refine e_cE (cdx' pU c2 sm2 w2 n2 rfl) (fun r T3 h3 => ?_)
  obtain ⟨w3, g3, e3⟩ := h3
  subst e3
  have hv := (cd_v pU c2).2
  refine e_wrO (fun T4 e4 g4 v4 => ?_)
  have w4 := wo_0_77 w3 (rgl 0 0 399 rfl) e4
  refine e_grd (inb_nI hv (by omega)) ?_
  rw [nI_clamp (n := cdX U n (cfS T2)) (by omega)]
  have k55 : ∀ i, T4.1 55 i = U.1 55 i := fun i => by rw [g4.1 55 i rfl, g3.1 55 i rfl, g2.1 55 i rfl]
  have F4 : Fr [51, 52, 53, 54, 55, 56, 57, 58, 59, 60] [(0, 76), (0, 77), (0, 81)] S T4 := Fr.tr (Fr.tr (Fr.tr (Fr.tr (Fr.tr Fr.rf g1 rfl) gU rfl) g2 rfl) g3 rfl) g4 rfl
  rw [k55]
  refine e_i (fun q => ?_) (fun q => ?_)
  · have hex : ∃ i, i < sz ∧ cdX U n (Ys i) = cdX U n (cfS T2) := by
      apply Classical.byContradiction
      intro no
      have := hB.out _ hv (fun i hi e => no ⟨i, hi, e⟩)
      rw [this] at q
      exact absurd q (by decide)
    obtain ⟨i, hi, ei⟩ := hex
    have sm4 : Sm U T4 := ⟨by rw [g4.1 0 81 rfl, g3.1 0 81 rfl, g2.1 0 81 rfl], fun j => by rw [g4.1 54 j rfl, g3.1 54 j rfl, g2.1 54 j rfl]⟩
    have rm4 : ∀ s, rmN T4 s = rmN U s := fun s => by unfold rmN; rw [g4.1 46 s rfl, g3.1 46 s rfl, g2.1 46 s rfl]
    have B4 : BI T4 n G T4 Ys pt sz sz := (hB.rb sm4 rm4).cg (fun i => by rw [g4.1 60 i rfl, g3.1 60 i rfl, g2.1 60 i rfl]) k55
    have r4 : ∀ s, s < 4 → 1 ≤ rmN T4 s := fun s hs => by
      have : rmN T4 s = rmN S s := by unfold rmN; rw [F4.1 46 s rfl]
      rw [this]; exact hR s hs
    rw [← ei, ← sm4.cd]
    refine e_cV (wax w4 (sm4.pw pU) r4 B4 hi) (fun V hV => ?_)
    obtain ⟨wV, FV, m, m1, m2, m3⟩ := hV
    refine e_wrO (fun Z eZ gZ vZ => ?_)
    have wZ := WR.st (k := 0) (i := 76) wV trivial rfl eZ
    have FZ : Fr [51, 52, 53, 54, 55, 56, 57, 58, 59, 60] [(0, 76), (0, 77), (0, 81)] S Z := Fr.tr (Fr.tr F4 FV rfl) gZ rfl
    have smZ : Sm T4 Z := ⟨(gZ.1 0 81 rfl).trans (FV.1 0 81 rfl), fun j => (gZ.1 54 j rfl).trans (FV.1 54 j rfl)⟩
    refine e_some ⟨wZ, FZ, fun _ _ => ⟨n, m, smZ.pw (sm4.pw pU), (gZ.1 0 77 rfl).trans m2, m1, fun j hj => ?_, fun c hc hv => ?_⟩⟩
    · obtain ⟨X, x1, x2⟩ := m3 j hj
      exact ⟨X, x1.w.rb smZ, by rw [gZ.1 56 j rfl, smZ.cd]; exact x2⟩
    · rw [gZ.1 55 c rfl, FV.1 55 c rfl] at hv
      have hex : ∃ i, i < sz ∧ cdX T4 n (Ys i) = c := by
        apply Classical.byContradiction
        intro no
        have := B4.out c hc (fun i hi e => no ⟨i, hi, e⟩)
        rw [this] at hv
        exact absurd hv (by decide)
      obtain ⟨l, l1, l2⟩ := hex
      exact ⟨Ys l, (B4.cf l l1).w.rb smZ, by rw [smZ.cd]; exact l2⟩
  · refine e_some ⟨w4, F4, PI.no ?_⟩
    rw [g4.1 0 76 rfl, g3.1 0 76 rfl, g2.1 0 76 rfl, gU.1 0 76 rfl]
    exact v1
