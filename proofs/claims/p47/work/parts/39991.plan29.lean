/-! ===== the reference's plan methods, with what they keep ===== -/
def RP (S : SS) : Prop := PL S ∧ RM S ∧ PI S
theorem RM.of {S U : SS} (h : RM S) (e : ∀ i, U.1 46 i = S.1 46 i) : RM U := fun s hs => by
  have : rmN U s = rmN S s := by unfold rmN; rw [e]
  rw [this]; exact h s hs
theorem RP.of {S U : SS} (h : RP S) (e : ∀ k, k ∈ [46, 47, 48, 49, 50, 54, 55, 56] → ∀ i, U.1 k i = S.1 k i) (e76 : U.1 0 76 = S.1 0 76) (e77 : U.1 0 77 = S.1 0 77) (e81 : U.1 0 81 = S.1 0 81) : RP U :=
  ⟨h.1.of (fun k hk => e k (by
    simp only [List.mem_cons, List.mem_nil_iff, or_false] at hk ⊢
    omega)), h.2.1.of (e 46 (by decide)), h.2.2.of (fun k hk => e k (by
    simp only [List.mem_cons, List.mem_nil_iff, or_false] at hk ⊢
    omega)) e76 e77 e81⟩
theorem RP.fr {S U : SS} (h : RP S) {L : List Nat} {F : List (Nat × Nat)} (g : Fr L F S U) (e : ∀ k, k ∈ [46, 47, 48, 49, 50, 54, 55, 56] → ∀ i, wm L F k i = false) (e0 : wm L F 0 76 = false ∧ wm L F 0 77 = false ∧ wm L F 0 81 = false) : RP U :=
  h.of (fun k hk i => g.1 k i (e k hk i)) (g.1 0 76 e0.1) (g.1 0 77 e0.2.1) (g.1 0 81 e0.2.2)
theorem r_M_lay {a1 a2 a3 : Int32} {S : SS} (hW : WR S) (hR : RP S) : Ex2 (f_M_lay a1 a2 a3 S) (fun r U => WR U ∧ RP U ∧ Fr [47, 48, 49, 50] [] S U) := by
  refine e_mono (p_M_lay hW hR.1) (fun r U h => ?_)
  obtain ⟨h1, h2, g⟩ := h
  refine ⟨h1, ⟨h2, hR.2.1.of (fun i => g.1 46 i rfl), hR.2.2.of (fun k hk i => ?_) (g.1 0 76 rfl) (g.1 0 77 rfl) (g.1 0 81 rfl)⟩, g⟩
  simp only [List.mem_cons, List.mem_nil_iff, or_false] at hk
  rcases hk with rfl | rfl | rfl <;> exact g.1 _ i rfl
theorem room_46 {a1 a2 : Int32} {S U : SS} {r : Int32} (hR : RM S) (h : f_M_room a1 a2 S = some (r, U)) : RM U := by
  rw [f_M_room.eq_1] at h
  by_cases q1 : a1 < 0
  · rw [if_pos q1] at h; injection h with h; injection h with h1 h2; rw [← h2]; exact hR
  rw [if_neg q1] at h
  by_cases q2 : (4 : Int32) ≤ a1
  · rw [if_pos q2] at h; injection h with h; injection h with h1 h2; rw [← h2]; exact hR
  rw [if_neg q2] at h
  by_cases q3 : a2 < (1 : Int32)
  · rw [if_pos q3] at h; injection h with h; injection h with h1 h2; rw [← h2]; exact hR
  rw [if_neg q3] at h
  by_cases q4 : (10 : Int32) < a2
  · rw [if_pos q4] at h; injection h with h; injection h with h1 h2; rw [← h2]; exact hR
  rw [if_neg q4] at h
  obtain ⟨-, h⟩ := grd_t h
  by_cases q5 : a2 < (S.1 47 a1.toNatClampNeg)
  · rw [if_pos q5] at h; injection h with h; injection h with h1 h2; rw [← h2]; exact hR
  rw [if_neg q5] at h
  obtain ⟨-, h⟩ := grd_t h
  by_cases q6 : (S.1 49 a1.toNatClampNeg) ≤ a2
  · rw [if_pos q6] at h
    obtain ⟨-, h⟩ := grd_t h
    have h : grd (inb a1 4) (some (S.1 46 a1.toNatClampNeg, st S 46 a1.toNatClampNeg a2)) = some (r, U) := h
    obtain ⟨-, h⟩ := grd_t h
    injection h with h; injection h with h1 h2
    rw [← h2]
    intro s hs
    unfold rmN
    rw [st_at, if_pos rfl]
    by_cases c : s = a1.toNatClampNeg
    · rw [if_pos c]
      obtain ⟨j, rfl, j1, j2, j3⟩ := rg_ex (nlt_r (rgl 10 10 10 rfl) (nlt_l (rgt a2) (rgl 1 1 1 rfl) q3) q4) (by omega)
      rw [nI_clamp j3]
      omega
    · rw [if_neg c]; exact hR s hs
  · rw [if_neg q6] at h; injection h with h; injection h with h1 h2; rw [← h2]; exact hR
theorem e_eqn {α : Type} {x : Option (α × SS)} {P : α → SS → Prop} (h : Ex2 x P) : Ex2 x (fun r U => P r U ∧ x = some (r, U)) := by
  obtain ⟨r, U, e, h⟩ := h
  exact ⟨r, U, e, h, e⟩
theorem r_M_room {a1 a2 : Int32} {S : SS} (hW : WR S) (hR : RP S) : Ex2 (f_M_room a1 a2 S) (fun r U => WR U ∧ RP U ∧ Fr [46] [] S U) := by
  refine e_mono (e_eqn (p_M_room hW hR.1)) (fun r U h => ?_)
  obtain ⟨⟨h1, h2, g⟩, e⟩ := h
  refine ⟨h1, ⟨h2, room_46 hR.2.1 e, hR.2.2.of (fun k hk i => ?_) (g.1 0 76 rfl) (g.1 0 77 rfl) (g.1 0 81 rfl)⟩, g⟩
  simp only [List.mem_cons, List.mem_nil_iff, or_false] at hk
  rcases hk with rfl | rfl | rfl <;> exact g.1 _ i rfl
theorem wipe_76 : ∀ (n : Nat) (x1 x2 : Int32) (S U : SS) (r : Int32), f_M_wipe_L10 n x1 x2 S = some (r, U) → U.1 0 76 = -4
  | 0, x1, x2, S, U, r, h => by
    rw [f_M_wipe_L10.eq_1] at h
    cases h
  | n + 1, x1, x2, S, U, r, h => by
    rw [f_M_wipe_L10.eq_2] at h
    by_cases q : (4 : Int32) ≤ x2
    · rw [if_pos q] at h
      have h : some (x1, st (st S 0 76 (-4)) 0 77 0) = some (r, U) := h
      injection h with h; injection h with h1 h2
      rw [← h2, st_at, if_pos rfl, if_neg (by decide), st_at, if_pos rfl, if_pos rfl]
    · rw [if_neg q] at h
      obtain ⟨-, h⟩ := grd_t h
      have h : grd (inb x2 4) (f_M_wipe_L10 n x1 (x2 + 1) (st (st S 47 x2.toNatClampNeg 0) 49 x2.toNatClampNeg 0)) = some (r, U) := h
      obtain ⟨-, h⟩ := grd_t h
      exact wipe_76 n _ _ _ _ _ h
theorem r_M_wipe {S : SS} (hW : WR S) (hR : RP S) : Ex2 (f_M_wipe S) (fun r U => WR U ∧ RP U ∧ Fr [47, 49] [(0, 76), (0, 77)] S U) := by
  refine e_mono (e_eqn (p_M_wipe hW)) (fun r U h => ?_)
  obtain ⟨⟨h1, h2, g⟩, e⟩ := h
  refine ⟨h1, ⟨h2, hR.2.1.of (fun i => g.1 46 i rfl), PI.no ?_⟩, g⟩
  rw [f_M_wipe.eq_1] at e
  obtain ⟨v, T, -, e⟩ := bnd_t e
  exact wipe_76 _ _ _ _ _ _ e
theorem r_M_spoil {a1 a2 : Int32} {S : SS} (hW : WR S) (hR : RP S) : Ex2 (f_M_spoil a1 a2 S) (fun r U => WR U ∧ RP U ∧ Fr [55] [] S U) := by
  have hF : Fr [55] [] S S := Fr.rf
  refine e_eq (f_M_spoil.eq_1 _ _ _) ?_
  refine e_i (fun _ => e_some ⟨hW, hR, hF⟩) (fun q1 => ?_)
  refine e_i (fun _ => e_some ⟨hW, hR, hF⟩) (fun q2 => ?_)
  refine e_i (fun q3 => ?_) (fun _ => e_some ⟨hW, hR, hF⟩)
  refine e_i (fun q4 => ?_) (fun _ => e_some ⟨hW, hR, hF⟩)
  refine e_i (fun q5 => ?_) (fun _ => e_some ⟨hW, hR, hF⟩)
  have f3 := nlt_l (rgt a1) (rgl 0 0 0 rfl) q1
  have f12 := le_l f3 (ro_0_77 hW) q5
  refine e_grd (inb_g f12 rfl) ?_
  refine e_grd (inb_g (ro_56 hW _) rfl) ?_
  refine e_nm ?_
  refine e_grd (inb_g f12 rfl) ?_
  refine e_grd (inb_g (ro_56 hW _) rfl) ?_
  obtain ⟨n, m, h1, h2, h3, h4, h5⟩ := hR.2.2 (by rw [q4]; decide) (by rw [q4]; decide)
  obtain ⟨j, rfl, j1, j2, j3⟩ := rg_ex f12 (by omega)
  rw [h2] at q5
  have hj : j ≤ m := by
    rcases Nat.lt_or_ge m j with c | c
    · exact absurd q5 (nI_ge c (by omega))
    · exact c
  obtain ⟨X, x1, x2⟩ := h4 j hj
  rw [nI_clamp j3, x2]
  have hv := (cd_v h1 x1.1).2
  rw [nI_clamp (n := cdX S n X) (by omega)]
  refine e_wrA (fun U e g v => ?_)
  have sm : Sm S U := ⟨g.1 0 81 rfl, fun j => g.1 54 j rfl⟩
  refine e_some ⟨WR.st (k := 55) hW trivial rfl e, ⟨hR.1.of (fun k hk i => ?_), hR.2.1.of (fun i => g.1 46 i rfl), fun _ _ => ⟨n, m, sm.pw h1, (g.1 0 77 rfl).trans h2, h3, fun l hl => ?_, fun c hc hv => ?_⟩⟩, hF.tr g rfl⟩
  · simp only [List.mem_cons, List.mem_nil_iff, or_false] at hk
    rcases hk with rfl | rfl | rfl | rfl | rfl <;> exact g.1 _ i rfl
  · obtain ⟨Y, y1, y2⟩ := h4 l hl
    exact ⟨Y, y1.rb sm, by rw [g.1 56 l rfl, sm.cd]; exact y2⟩
  · by_cases cc : c = cdX S n X
    · exact ⟨X, x1.rb sm, by rw [sm.cd]; exact cc.symm⟩
    · rw [e, st_at, if_pos rfl, if_neg cc] at hv
      obtain ⟨Y, y1, y2⟩ := h5 c hc hv
      exact ⟨Y, y1.rb sm, by rw [sm.cd]; exact y2⟩
theorem r_M_check {S : SS} (hW : WR S) (hR : RP S) : Ex2 (f_M_check S) (fun r U => WR U ∧ RP U ∧ Fr [57, 58, 59] [] S U) := by
  refine e_mono (t_M_check hW hR.2.2) (fun r U h => ?_)
  obtain ⟨h1, g⟩ := h
  refine ⟨h1, hR.of (fun k hk i => ?_) (g.1 0 76 rfl) (g.1 0 77 rfl) (g.1 0 81 rfl), g⟩
  simp only [List.mem_cons, List.mem_nil_iff, or_false] at hk
  rcases hk with rfl | rfl | rfl | rfl | rfl | rfl | rfl | rfl <;> exact g.1 _ i rfl
theorem plx_1 {S : SS} (hW : WR S) (hP : PL S) (hs : SameW S) : Ex2 (f_M_plan_j33 1 S) (fun r U => WR U ∧ Fr [51, 52, 53, 54, 55, 56, 57, 58, 59, 60] [(0, 76), (0, 77), (0, 81)] S U ∧ PI U) := by
  refine e_eq (f_M_plan_j33.eq_1 _ _) ?_
  refine e_wrO (fun S1 e1 g1 v1 => ?_)
  have w1 := WR.st (k := 0) (i := 76) hW trivial rfl e1
  refine e_t rfl ?_
  have k1 : ∀ k, k ∈ [46, 47, 48, 49, 50] → ∀ i, S1.1 k i = S.1 k i := fun k hk i => by
    simp only [List.mem_cons, List.mem_nil_iff, or_false] at hk
    rcases hk with rfl | rfl | rfl | rfl | rfl <;> exact g1.1 _ i rfl
  have P1 : PL S1 := hP.of k1
  have j47 : S1.1 47 = S.1 47 := funext (k1 47 (by decide))
  have j48 : S1.1 48 = S.1 48 := funext (k1 48 (by decide))
  have j49 : S1.1 49 = S.1 49 := funext (k1 49 (by decide))
  have j50 : S1.1 50 = S.1 50 := funext (k1 50 (by decide))
  have s1 : SameW S1 := fun w hw => by rw [j47, j48, j49, j50]; exact hs w hw
  refine e_cE (brx w1 P1 s1) (fun r T2 h2 => ?_)
  obtain ⟨w2, g2⟩ := h2
  have F2 : Fr [51, 52, 53, 54, 55, 56, 57, 58, 59, 60] [(0, 76), (0, 77), (0, 81)] S T2 := Fr.tr (Fr.tr Fr.rf g1 rfl) g2 rfl
  have j62 : ∀ y : Int32, rg y 0 399 → Ex2 (f_M_plan_j62 r y T2) (fun r U => WR U ∧ Fr [51, 52, 53, 54, 55, 56, 57, 58, 59, 60] [(0, 76), (0, 77), (0, 81)] S U ∧ PI U) := fun y hy => by
    refine e_eq (f_M_plan_j62.eq_1 _ _ _) ?_
    refine e_wrO (fun T3 e3 g3 v3 => ?_)
    have w3 := wo_0_77 w2 hy e3
    refine e_i (fun q => ?_) (fun q => ?_)
    · refine e_eq (f_M_plan_j76.eq_1 _ _ _) ?_
      refine e_wrO (fun T4 e4 g4 v4 => ?_)
      have w4 := WR.st (k := 0) (i := 76) w3 trivial rfl e4
      exact e_t q (e_some ⟨w4, Fr.tr (Fr.tr F2 g3 rfl) g4 rfl, PI.no v4⟩)
    · refine e_eq (f_M_plan_j76.eq_1 _ _ _) ?_
      refine e_wrO (fun T4 e4 g4 v4 => ?_)
      have w4 := WR.st (k := 0) (i := 76) w3 trivial rfl e4
      exact e_f q (e_some ⟨w4, Fr.tr (Fr.tr F2 g3 rfl) g4 rfl, PI.no1 v4⟩)
  exact e_i (fun _ => j62 0 (rgl 0 0 399 rfl)) (fun _ => j62 _ (ro_0_77 w2))
theorem r_M_plan {a1 : Int32} {S : SS} (hW : WR S) (hR : RP S) : Ex2 (f_M_plan a1 S) (fun r U => WR U ∧ RP U ∧ Fr [51, 52, 53, 54, 55, 56, 57, 58, 59, 60] [(0, 76), (0, 77), (0, 81)] S U) := by
  have key : ∀ {v : Option (Int32 × SS)}, Ex2 v (fun r U => WR U ∧ Fr [51, 52, 53, 54, 55, 56, 57, 58, 59, 60] [(0, 76), (0, 77), (0, 81)] S U ∧ PI U) → Ex2 v (fun r U => WR U ∧ RP U ∧ Fr [51, 52, 53, 54, 55, 56, 57, 58, 59, 60] [(0, 76), (0, 77), (0, 81)] S U) := fun h => e_mono h (fun r U h => by
    obtain ⟨h1, g, h3⟩ := h
    refine ⟨h1, ⟨hR.1.of (fun k hk i => ?_), hR.2.1.of (fun i => g.1 46 i rfl), h3⟩, g⟩
    simp only [List.mem_cons, List.mem_nil_iff, or_false] at hk
    rcases hk with rfl | rfl | rfl | rfl | rfl <;> exact g.1 _ i rfl)
  refine e_eq (f_M_plan.eq_1 _ _) ?_
  refine e_i (fun _ => e_some ⟨hW, hR, Fr.rf⟩) (fun q1 => ?_)
  refine e_i (fun _ => e_some ⟨hW, hR, Fr.rf⟩) (fun q2 => ?_)
  refine e_cE (asx hW) (fun r T h => ?_)
  obtain ⟨e, h⟩ := h
  subst e
  rcases h with h | ⟨h, hs⟩
  · exact e_t h (e_some ⟨hW, hR, Fr.rf⟩)
  · refine e_f (by rw [h]; decide) ?_
    refine e_i (fun q3 => ?_) (fun q3 => ?_)
    · subst q3
      refine e_cE (smx hW) (fun r' T' h' => ?_)
      obtain ⟨e', e2, l⟩ := h'
      subst e' e2
      refine e_i (fun q5 => ?_) (fun _ => e_some ⟨hW, hR, Fr.rf⟩)
      refine key (plx_0 hW hR.1 hR.2.1 hs ?_)
      rcases Nat.lt_or_ge 5 (StN T') with c | c
      · exact absurd q5 (nI_ge (a := 5) c (by omega))
      · exact c
    · have : a1 = 1 := by
        have f1 := nlt_l (rgt a1) (rgl 0 0 0 rfl) q1
        have f2 := nlt_r (rgl 1 1 1 rfl) f1 q2
        obtain ⟨j, rfl, j1, j2, j3⟩ := rg_ex f2 (by omega)
        rcases (show j = 0 ∨ j = 1 by omega) with rfl | rfl
        · exact absurd rfl q3
        · rfl
      subst this
      exact key (plx_1 hW hR.1 hs)
