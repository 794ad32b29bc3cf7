/-! ===== the class: proof, spoil, check, plan ===== -/
theorem CQ.g {S U : SS} {G : Nat} (h : CQ S G) (g : Fr [] [] S U) : CQ U G := by
  have := fr_nil g
  subst this
  exact h
theorem hpx {S : SS} {a : Int32} (hW : WR S) : Ex2 (f_Plans_hasPotential a S) (fun r U => U = S ∧ (r = 0 ∨ (r = 1 ∧ rg a 0 128))) := by
  refine e_eq (f_Plans_hasPotential.eq_1 _ _) ?_
  refine e_i (fun _ => ?_) (fun _ => e_some ⟨rfl, Or.inl rfl⟩)
  refine e_i (fun _ => e_some ⟨rfl, Or.inl rfl⟩) (fun q1 => ?_)
  refine e_i (fun _ => e_some ⟨rfl, Or.inl rfl⟩) (fun q2 => ?_)
  refine e_i (fun _ => e_some ⟨rfl, Or.inl rfl⟩) (fun q3 => ?_)
  exact e_some ⟨rfl, Or.inr ⟨rfl, nlt_r (rgl 128 128 128 rfl) (nlt_l (rgt a) (rgl 0 0 0 rfl) q1) q3⟩⟩
theorem pax {S : SS} {G : Nat} {a : Int32} (hW : WR S) (hC : CQ S G) : Ex2 (f_Plans_potentialAt a S) (fun _ U => U = S) := by
  obtain ⟨w, o, sh, qa⟩ := hC.qa
  refine e_eq (f_Plans_potentialAt.eq_1 _ _) ?_
  refine e_cE (hpx hW) (fun r T p => ?_)
  obtain ⟨e, p⟩ := p
  subst e
  rcases p with p | ⟨p, ha⟩
  · exact e_t p (e_some rfl)
  · refine e_f (by rw [p]; decide) ?_
    refine e_grd (inb_g ha rfl) ?_
    refine e_cE (ofx qa hC.1.2.2.2.2.2) (fun r T p => ?_)
    obtain ⟨e, -⟩ := p
    subst e
    exact e_some rfl
theorem c_Yard_proof {S : SS} {G : Nat} {a : Int32} (hW : WR S) (hC : CQ S G) : Ex2 (f_Yard_proof a S) (fun _ U => WR U ∧ CQ U G ∧ Fr [] [] S U) := by
  refine e_eq (f_Yard_proof.eq_1 _ _) ?_
  refine e_i (fun _ => ?_) (fun _ => e_some ⟨hW, hC, Fr.rf⟩)
  refine e_cE (pax hW hC) (fun r T p => ?_)
  subst p
  exact e_some ⟨hW, hC, Fr.rf⟩
theorem spx {S : SS} {G : Nat} {a v : Int32} (hW : WR S) (hC : CQ S G) (hv : rn v 0 6720) : Ex2 (f_Plans_setPotential a v S) (fun _ U => WR U ∧ CQ U G ∧ Fr [120] [] S U) := by
  obtain ⟨w, o, sh, qa⟩ := hC.qa
  refine e_eq (f_Plans_setPotential.eq_1 _ _ _) ?_
  refine e_cE (pax hW hC) (fun r T p => ?_)
  subst p
  refine e_cE (hpx hW) (fun r T p => ?_)
  obtain ⟨e, p⟩ := p
  subst e
  rcases p with p | ⟨p, ha⟩
  · exact e_t p (e_some ⟨hW, hC, Fr.rf⟩)
  · refine e_f (by rw [p]; decide) ?_
    refine e_grd (inb_g ha rfl) ?_
    refine e_cV (stx hW qa hC.1 hv) (fun U p => ?_)
    obtain ⟨p1, p2, p3⟩ := p
    exact e_some ⟨p1, hC.of p3 p2.2 (p2.1 71 5 rfl) (p2.1 71 6 rfl) (p2.1 71 7 rfl) (fun i => p2.1 114 i rfl), p2⟩
theorem c_Yard_spoil {S : SS} {G : Nat} {a v : Int32} (hW : WR S) (hC : CQ S G) : Ex2 (f_Yard_spoil a v S) (fun _ U => WR U ∧ CQ U G ∧ Fr [120] [] S U) := by
  refine e_eq (f_Yard_spoil.eq_1 _ _ _) ?_
  refine e_i (fun _ => e_some ⟨hW, hC, Fr.rf⟩) (fun _ => ?_)
  refine e_bnd ?_
  refine e_eq (f_Yard_isNot.eq_1 _ _ _ _) ?_
  refine e_i (fun _ => ?_) (fun q1 => ?_)
  · exact e_some (e_f (by decide) (e_some ⟨hW, hC, Fr.rf⟩))
  · refine e_i (fun q2 => ?_) (fun _ => ?_)
    · refine e_some (e_t rfl ?_)
      have hv := le_l (nlt_l (rgt v) (rgl 0 0 0 rfl) q1) (rgl 99 99 99 rfl) q2
      refine e_cE (spx hW hC (Or.inr (hv.sub rfl))) (fun r T p => ?_)
      exact e_some p
    · exact e_some (e_f (by decide) (e_some ⟨hW, hC, Fr.rf⟩))
theorem of_0 {S : SS} {w : Nat} {a : Int32} (h : QA S w 0 0) : Ex2 (f_Potentials_of a S) (fun r U => U = S ∧ r = -4) := by
  refine e_eq (f_Potentials_of.eq_1 _ _) ?_
  refine e_cE (isR h) (fun r T p => ?_)
  obtain ⟨e, p⟩ := p
  subst e
  rcases p with p | ⟨p, k, k1, -⟩
  · exact e_t p (e_some ⟨rfl, rfl⟩)
  · exact absurd k1 (by omega)
theorem CQ.rk {S U : SS} {G : Nat} (hC : CQ S G) (g : Fr [110, 112] [] S U) (hR : QR U) : CQ U G := hC.of hR g.2 (g.1 71 5 rfl) (g.1 71 6 rfl) (g.1 71 7 rfl) (fun i => g.1 114 i rfl)
def HL : List Nat := [110, 112, 116, 117, 118, 119, 126, 127]
theorem hox {S : SS} {G : Nat} (hW : WR S) (hC : CQ S G) : Ex2 (f_Plans_holds S) (fun _ U => WR U ∧ CQ U G ∧ Fr HL [] S U) := by
  refine e_eq (f_Plans_holds.eq_1 _) ?_
  refine e_i (fun _ => e_some ⟨hW, hC, Fr.rf⟩) (fun _ => ?_)
  refine e_cE (t_Plans_leadsToGoal hW) (fun r1 T1 p => ?_)
  obtain ⟨w1, g1, -⟩ := p
  have C1 : CQ T1 G := hC.fr g1 (fun k hk i => by
    simp only [List.mem_cons, List.mem_nil_iff, or_false] at hk
    rcases hk with rfl | rfl | rfl | rfl | rfl | rfl <;> rfl) (fun i => rfl) ⟨rfl, rfl, rfl⟩
  have F1' : Fr HL [] S T1 := Fr.tr Fr.rf g1 rfl
  refine e_i (fun _ => e_some ⟨w1, C1, F1'⟩) (fun _ => ?_)
  refine e_i (fun _ => e_some ⟨w1, C1, F1'⟩) (fun _ => ?_)
  rcases C1.2 with ⟨h1, h2, h3, h4, h5⟩ | ⟨w, W, h1, h2, h3⟩
  · have qa : QA T1 0 0 0 := ⟨by omega, by omega, by omega, by omega, by omega, h2, h3, h4⟩
    refine e_cE (rkx_goal w1 qa C1.1) (fun r2 T2 p => ?_)
    obtain ⟨w2, g2, r2'⟩ := p
    have qa2 : QA T2 0 0 0 := ⟨by omega, by omega, by rw [g2.2]; omega, by omega, by omega, (g2.1 71 5 rfl).trans h2, (g2.1 71 6 rfl).trans h3, (g2.1 71 7 rfl).trans h4⟩
    refine e_cE (of_0 qa2) (fun r3 T3 p => ?_)
    obtain ⟨e3, p⟩ := p
    subst e3
    refine e_f (by rw [p]; decide) ?_
    exact e_some ⟨w2, C1.rk g2 r2', Fr.tr F1' g2 rfl⟩
  · refine e_cE (rkx_goal w1 h2.qa C1.1) (fun r2 T2 p => ?_)
    obtain ⟨w2, g2, r2'⟩ := p
    have C2 := C1.rk g2 r2'
    have q2 : QW T2 w W := h2.of g2.2 (g2.1 71 5 rfl) (g2.1 71 6 rfl) (g2.1 71 7 rfl)
    have F2 : Fr HL [] S T2 := Fr.tr F1' g2 rfl
    refine e_cE (ofx q2.qa r2'.2.2.2.2.2) (fun r3 T3 p => ?_)
    obtain ⟨e3, -⟩ := p
    subst e3
    refine e_i (fun _ => ?_) (fun _ => e_some ⟨w2, C2, F2⟩)
    refine e_cE (rkx_start w2 q2.qa r2') (fun r4 T4 p => ?_)
    obtain ⟨w4, g4, r4'⟩ := p
    have C4 := C2.rk g4 r4'
    have q4 : QW T4 w W := q2.of g4.2 (g4.1 71 5 rfl) (g4.1 71 6 rfl) (g4.1 71 7 rfl)
    have E4 : QE T4 w (shN w) := h3.of (fun i => by rw [g4.1 114 i rfl, g2.1 114 i rfl])
    have F4 : Fr HL [] S T4 := Fr.tr F2 g4 rfl
    refine e_cE (ofx q4.qa r4'.2.2.2.2.2) (fun r5 T5 p => ?_)
    obtain ⟨e5, -⟩ := p
    subst e5
    refine e_i (fun _ => ?_) (fun _ => e_some ⟨w4, C4, F4⟩)
    refine e_cE (pvx w4 r4' q4 E4) (fun r6 T6 p => ?_)
    obtain ⟨⟨w6, r6'⟩, g6⟩ := p
    have C6 : CQ T6 G := C4.of r6' g6.2 (g6.1 71 5 rfl) (g6.1 71 6 rfl) (g6.1 71 7 rfl) (fun i => g6.1 114 i rfl)
    exact e_i (fun _ => e_some ⟨w6, C6, Fr.tr F4 g6 rfl⟩) (fun _ => e_some ⟨w6, C6, Fr.tr F4 g6 rfl⟩)
theorem c_Yard_check {S : SS} {G : Nat} (hW : WR S) (hC : CQ S G) : Ex2 (f_Yard_check S) (fun _ U => WR U ∧ CQ U G ∧ Fr HL [] S U) := by
  refine e_eq (f_Yard_check.eq_1 _) ?_
  refine e_cE (hox hW hC) (fun r T p => ?_)
  exact e_i (fun _ => e_some p) (fun _ => e_some p)
def gho (S : SS) (d : Nat) : SS := (S.1, fun a => if a = 200 then d else S.2 a)
theorem gho_2 (S : SS) (d : Nat) {a : Nat} (h : a ≠ 200) : (gho S d).2 a = S.2 a := if_neg h
theorem CQ.gho {S : SS} {G : Nat} (h : CQ S G) (d : Nat) : CQ (gho S d) G := by
  have e := fun (a : Nat) (ha : a ≠ 200) => gho_2 S d ha
  refine ⟨h.1, ?_⟩
  rcases h.2 with ⟨h1, h2, h3, h4, h5⟩ | ⟨w, W, h1, h2, h3⟩
  · exact Or.inl ⟨h1, h2, h3, h4, (e 120 (by decide)).trans h5⟩
  · obtain ⟨z1, z2, z5, z6, z7, l4, l5, l6, l7, l8, l9, l0, l1⟩ := h2
    exact Or.inr ⟨w, W, h1, ⟨z1, z2, z5, z6, z7, (e 114 (by decide)).trans l4, (e 115 (by decide)).trans l5, (e 116 (by decide)).trans l6, (e 117 (by decide)).trans l7, (e 118 (by decide)).trans l8, (e 119 (by decide)).trans l9, (e 120 (by decide)).trans l0, (e 121 (by decide)).trans l1⟩, h3⟩
theorem ind_j28s (x1 x2 y : Int32) (s1 : Nat → Nat → Int32) : Ind (f_Stacks_wagonAt_start_j28 x1 x2 y) s1 :=
  ind_eq (g := fun S => if y = 0 then some ((-4 : Int32), S) else grd (inb (((10 : Int32) * x1) + x2) 40) (some (s1 122 (((10 : Int32) * x1) + x2).toNatClampNeg, S))) (ind_if _ (ind_some _ _) (ind_grd _ (ind_some _ _))) (fun s2 => f_Stacks_wagonAt_start_j28.eq_1 _ _ _ _)
theorem ind_j27s (x1 x2 : Int32) (s1 : Nat → Nat → Int32) : Ind (f_Stacks_wagonAt_start_j27 x1 x2) s1 := ind_eq (ind_j28s x1 x2 0 s1) (fun s2 => f_Stacks_wagonAt_start_j27.eq_1 _ _ _)
theorem ind_was (a1 a2 : Int32) (s1 : Nat → Nat → Int32) : Ind (f_Stacks_wagonAt_start a1 a2) s1 :=
  ind_eq (g := fun S => if a1 < 0 then f_Stacks_wagonAt_start_j27 a1 a2 S else if (4 : Int32) ≤ a1 then f_Stacks_wagonAt_start_j27 a1 a2 S else if a2 < 0 then f_Stacks_wagonAt_start_j27 a1 a2 S else grd (inb a1 4) (if (s1 123 a1.toNatClampNeg) ≤ a2 then f_Stacks_wagonAt_start_j27 a1 a2 S else f_Stacks_wagonAt_start_j28 a1 a2 (1 : Int32) S)) (ind_if _ (ind_j27s _ _ _) (ind_if _ (ind_j27s _ _ _) (ind_if _ (ind_j27s _ _ _) (ind_grd _ (ind_if _ (ind_j27s _ _ _) (ind_j28s _ _ _ _)))))) (fun s2 => f_Stacks_wagonAt_start.eq_1 _ _ _)
theorem ind_L11s {K : Int32 → Int32 → SS → Option (Int32 × SS)} {s1 : Nat → Nat → Int32} (hK : ∀ a b, Ind (K a b) s1) : ∀ (N : Nat) (x1 x2 x3 : Int32), Ind (f_Stacks_members_start_L11 K N x1 x2 x3) s1
  | 0, x1, x2, x3 => ind_eq (ind_none s1) (fun s2 => f_Stacks_members_start_L11.eq_1 _ _ _ _ _)
  | N + 1, x1, x2, x3 => ind_eq (g := fun S => grd (inb x2 4) (if (s1 123 x2.toNatClampNeg) ≤ x3 then K x1 (x2 + 1) S else bnd (f_Stacks_wagonAt_start x2 x3 S) (fun r3 S2 => f_Stacks_members_start_L11 K N (x1 ||| ((1 : Int32) <<< (r3 &&& 31))) x2 (x3 + 1) S2))) (ind_grd _ (ind_if _ (hK _ _) (ind_bnd (ind_was _ _ _) (fun v => ind_L11s hK N _ _ _)))) (fun s2 => f_Stacks_members_start_L11.eq_2 _ _ _ _ _ _)
theorem ind_L4s {s1 : Nat → Nat → Int32} : ∀ (N : Nat) (x1 x2 : Int32), Ind (f_Stacks_members_start_L4 N x1 x2) s1
  | 0, x1, x2 => ind_eq (ind_none s1) (fun s2 => f_Stacks_members_start_L4.eq_1 _ _ _)
  | N + 1, x1, x2 => ind_eq (g := fun S => if (4 : Int32) ≤ x2 then some (x1, S) else f_Stacks_members_start_L11 (fun v0 v1 S => f_Stacks_members_start_L4 N v0 v1 S) NF x1 x2 (0 : Int32) S) (ind_if _ (ind_some _ _) (ind_L11s (fun a b => ind_L4s N a b) NF _ _ _)) (fun s2 => f_Stacks_members_start_L4.eq_2 _ _ _ _)
theorem ind_mems (s1 : Nat → Nat → Int32) : Ind f_Stacks_members_start s1 := ind_eq (ind_L4s NF 0 0) (fun s2 => f_Stacks_members_start.eq_1 _)
theorem ind_bc (a : Int32) (s1 : Nat → Nat → Int32) : Ind (f_Integer_bitCount_0f7a4 a) s1 := ⟨(f_Integer_bitCount_0f7a4 a (s1, fun _ => 0)).map Prod.fst, fun _ => rfl⟩
theorem ind_same (s1 : Nat → Nat → Int32) : Ind f_Plans_haveSameWagons s1 :=
  ind_eq (g := fun S => bnd (f_Stacks_members_start S) (fun r2 S1 => bnd (f_Stacks_members_goal S1) (fun r4 S3 => if r2 = r4 then some ((1 : Int32), S3) else some ((0 : Int32), S3)))) (ind_bnd (ind_mems s1) (fun v => ind_bnd (ind_mem s1) (fun v' => ind_if _ (ind_some _ _) (ind_some _ _)))) (fun s2 => f_Plans_haveSameWagons.eq_1 _)
theorem ind_small (s1 : Nat → Nat → Int32) : Ind f_Plans_isSmall s1 :=
  ind_eq (g := fun S => bnd (f_Stacks_members_start S) (fun r2 S1 => bnd (f_Integer_bitCount_0f7a4 r2 S1) (fun r4 S3 => if (5 : Int32) < r4 then some ((0 : Int32), S3) else some ((1 : Int32), S3)))) (ind_bnd (ind_mems s1) (fun v => ind_bnd (ind_bc v s1) (fun v' => ind_if _ (ind_some _ _) (ind_some _ _)))) (fun s2 => f_Plans_isSmall.eq_1 _)
theorem ind_val {f : SS → Option (Int32 × SS)} {S : SS} {P : Int32 → SS → Prop} (h : Ind f S.1) (t : Ex2 (f (gho S 0)) P) : ∃ v, ∀ d, f (gho S d) = some (v, gho S d) := by
  obtain ⟨o, h⟩ := h
  obtain ⟨r, U, e, -⟩ := t
  have h0 := h (gho S 0).2
  cases o with
  | none =>
    have e' : f (gho S 0) = none := h0
    rw [e'] at e
    cases e
  | some v => exact ⟨v, fun d => h (gho S d).2⟩
def YL : List Nat := [107, 108, 109, 110, 111, 112, 113, 114, 115, 116, 117, 118, 119, 120, 121, 126, 127]
/-- whether a call of plan makes the rows anew is known ahead of it -/
theorem c_Yard_plan {S : SS} {G : Nat} {a : Int32} (hW : WR S) (hC : CQ S G) : ∃ d, d ≤ 1 ∧ Ex2 (f_Yard_plan a (gho S d)) (fun _ U => WR U ∧ F1 YL MFl S U ∧ ∃ G', CQ U G' ∧ G + d ≤ G') := by
  have hW0 : ∀ d, WR (gho S d) := fun d => hW
  obtain ⟨r1, h1⟩ := ind_val (ind_same S.1) (t_Plans_haveSameWagons (hW0 0))
  obtain ⟨r2, h2⟩ := ind_val (ind_small S.1) (t_Plans_isSmall (hW0 0))
  have eD : ∀ d, Dp (gho S d) = gho (Dp S) d := fun d => rfl
  have wD : WR (gho (Dp S) 0) := WR.st (k := 70) (i := 7) (WR.st (k := 70) (i := 8) (hW0 0) trivial rfl rfl) (rgl 0 0 128 rfl) rfl rfl
  obtain ⟨r3, h3⟩ := ind_val (S := Dp S) (ind_mem (Dp S).1) (t_Stacks_members_goal wD)
  have no : ∀ d, Ex2 (some ((-1 : Int32), gho S d)) (fun _ U => WR U ∧ F1 YL MFl S U ∧ ∃ G', CQ U G' ∧ G + 0 ≤ G') := fun d => e_some ⟨hW0 d, F1.rf, G, hC.gho d, Nat.le_refl _⟩
  have pre : ∀ (d : Nat) (P : Int32 → SS → Prop), (¬ (¬ r1 = 0 ∧ ¬ a = 1 ∧ ¬ r2 = 0 ∧ ¬ a < 0 ∧ a ≤ 1) → Ex2 (some ((-1 : Int32), gho S d)) P) → (a = 1 → ¬ r1 = 0 → Ex2 (bnd (f_Plans_makeByRule (gho S d)) (fun r10 S9 => some (r10, S9))) P) → (¬ r1 = 0 → ¬ a = 1 → ¬ r2 = 0 → Ex2 (bnd (f_Plans_makeLeast (gho S d)) (fun r8 S7 => some (r8, S7))) P) → Ex2 (f_Yard_plan a (gho S d)) P := fun d P n1 n2 n3 => by
    refine e_eq (f_Yard_plan.eq_1 _ _) ?_
    refine e_bnd ?_
    refine e_eq (f_Yard_isNot.eq_1 _ _ _ _) ?_
    refine e_i (fun z => e_some (e_f (by decide) (n1 (fun k => k.2.2.2.1 z)))) (fun z1 => ?_)
    refine e_i (fun z2 => ?_) (fun z => e_some (e_f (by decide) (n1 (fun k => z k.2.2.2.2))))
    refine e_some (e_t rfl ?_)
    rw [h1 d, bnd_r]
    refine e_i (fun z => n1 (fun k => k.1 z)) (fun q1 => ?_)
    refine e_i (fun q => n2 q q1) (fun q => ?_)
    rw [h2 d, bnd_r]
    exact e_i (fun z => n1 (fun k => k.2.2.1 z)) (fun q2 => n3 q1 q q2)
  have rule : ∀ d, Ex2 (bnd (f_Plans_makeByRule (gho S d)) (fun r10 S9 => some (r10, S9))) (fun _ U => WR U ∧ F1 YL MFl S U ∧ ∃ G', CQ U G' ∧ G + 0 ≤ G') := fun d => by
    refine e_cE (t_Plans_makeByRule (hW0 d)) (fun r2 T2 p => ?_)
    obtain ⟨w2, g2, -⟩ := p
    exact e_some ⟨w2, F1.tr (T := gho S d) F1.rf g2.f1 rfl, G, (hC.gho d).fr g2 (fun k hk i => by
      simp only [List.mem_cons, List.mem_nil_iff, or_false] at hk
      rcases hk with rfl | rfl | rfl | rfl | rfl | rfl <;> rfl) (fun i => rfl) ⟨rfl, rfl, rfl⟩, Nat.le_refl _⟩
  by_cases ha : ¬ r1 = 0 ∧ ¬ a = 1 ∧ ¬ r2 = 0 ∧ ¬ a < 0 ∧ a ≤ 1
  · by_cases hb : G ≤ nb r3 10
    · refine ⟨1, by omega, pre 1 _ (fun k => absurd ha k) (fun k _ => absurd k ha.2.1) (fun _ _ _ => ?_)⟩
      refine e_cE (mlx (hW0 1) (hC.gho 1) (fun _ _ _ => rfl)) (fun r4 T3 p => ?_)
      obtain ⟨w3, f3, r, er, C3⟩ := p
      have er' : r = r3 := by
        have h31 := h3 1
        rw [← eD 1, er] at h31
        injection h31 with h31
        injection h31
      subst er'
      refine e_some ⟨w3, F1.tr (T := gho S 1) F1.rf f3 rfl, _, C3, ?_⟩
      unfold Gn
      rw [if_pos hb]
      omega
    · refine ⟨0, by omega, pre 0 _ (fun _ => no 0) (fun _ _ => rule 0) (fun c1 c2 c3 => ?_)⟩
      have hlt := hb
      have same : ∀ r, f_Stacks_members_goal (Dp (gho S 0)) = some (r, Dp (gho S 0)) → r = r3 := fun r hr => by
        have h30 := h3 0
        rw [← eD 0, hr] at h30
        injection h30 with h30
        injection h30
      refine e_cE (mlx (hW0 0) (hC.gho 0) (fun r hr hG => absurd (same r hr ▸ hG) hlt)) (fun r4 T3 p => ?_)
      obtain ⟨w3, f3, r, er, C3⟩ := p
      have er' := same r er
      subst er'
      refine e_some ⟨w3, F1.tr (T := gho S 0) F1.rf f3 rfl, _, C3, ?_⟩
      unfold Gn
      rw [if_neg hlt]
      exact Nat.le_refl _
  · refine ⟨0, by omega, ?_⟩
    refine e_eq (f_Yard_plan.eq_1 _ _) ?_
    refine e_bnd ?_
    refine e_eq (f_Yard_isNot.eq_1 _ _ _ _) ?_
    refine e_i (fun z => e_some (e_f (by decide) (no 0))) (fun z1 => ?_)
    refine e_i (fun z2 => ?_) (fun z => e_some (e_f (by decide) (no 0)))
    refine e_some (e_t rfl ?_)
    rw [h1 0, bnd_r]
    refine e_i (fun z => no 0) (fun q1 => ?_)
    refine e_i (fun q => rule 0) (fun q => ?_)
    rw [h2 0, bnd_r]
    exact e_i (fun z => no 0) (fun q2 => absurd ⟨q1, q, q2, z1, z2⟩ ha)
