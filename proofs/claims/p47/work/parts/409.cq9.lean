/-! ===== the class: which WAGONS the GOAL has does not look at the lengths ===== -/
def Ind (f : SS → Option (Int32 × SS)) (s1 : Nat → Nat → Int32) : Prop := ∃ o : Option Int32, ∀ s2 : Nat → Nat, f (s1, s2) = o.map (fun v => (v, (s1, s2)))
theorem ind_some (s1 : Nat → Nat → Int32) (v : Int32) : Ind (fun S => some (v, S)) s1 := ⟨some v, fun _ => rfl⟩
theorem ind_none (s1 : Nat → Nat → Int32) : Ind (fun _ => none) s1 := ⟨none, fun _ => rfl⟩
theorem ind_grd {s1 : Nat → Nat → Int32} (b : Bool) {f : SS → Option (Int32 × SS)} (h : Ind f s1) : Ind (fun S => grd b (f S)) s1 := by
  cases b
  · exact ind_none s1
  · exact h
theorem ind_if {s1 : Nat → Nat → Int32} (p : Prop) [Decidable p] {f g : SS → Option (Int32 × SS)} (h : Ind f s1) (k : Ind g s1) : Ind (fun S => if p then f S else g S) s1 := by
  by_cases c : p
  · obtain ⟨o, h⟩ := h
    exact ⟨o, fun s2 => by show (if p then f (s1, s2) else g (s1, s2)) = _; rw [if_pos c]; exact h s2⟩
  · obtain ⟨o, h⟩ := k
    exact ⟨o, fun s2 => by show (if p then f (s1, s2) else g (s1, s2)) = _; rw [if_neg c]; exact h s2⟩
theorem ind_eq {s1 : Nat → Nat → Int32} {f g : SS → Option (Int32 × SS)} (h : Ind g s1) (e : ∀ s2, f (s1, s2) = g (s1, s2)) : Ind f s1 := by
  obtain ⟨o, h⟩ := h
  exact ⟨o, fun s2 => (e s2).trans (h s2)⟩
theorem ind_j28 (x1 x2 y : Int32) (s1 : Nat → Nat → Int32) : Ind (f_Stacks_wagonAt_goal_j28 x1 x2 y) s1 :=
  ind_eq (g := fun S => if y = 0 then some ((-4 : Int32), S) else grd (inb (((10 : Int32) * x1) + x2) 40) (some (s1 124 (((10 : Int32) * x1) + x2).toNatClampNeg, S))) (ind_if _ (ind_some _ _) (ind_grd _ (ind_some _ _))) (fun s2 => f_Stacks_wagonAt_goal_j28.eq_1 _ _ _ _)
theorem ind_j27 (x1 x2 : Int32) (s1 : Nat → Nat → Int32) : Ind (f_Stacks_wagonAt_goal_j27 x1 x2) s1 := ind_eq (ind_j28 x1 x2 0 s1) (fun s2 => f_Stacks_wagonAt_goal_j27.eq_1 _ _ _)
theorem ind_wa (a1 a2 : Int32) (s1 : Nat → Nat → Int32) : Ind (f_Stacks_wagonAt_goal a1 a2) s1 :=
  ind_eq (g := fun S => if a1 < 0 then f_Stacks_wagonAt_goal_j27 a1 a2 S else if (4 : Int32) ≤ a1 then f_Stacks_wagonAt_goal_j27 a1 a2 S else if a2 < 0 then f_Stacks_wagonAt_goal_j27 a1 a2 S else grd (inb a1 4) (if (s1 125 a1.toNatClampNeg) ≤ a2 then f_Stacks_wagonAt_goal_j27 a1 a2 S else f_Stacks_wagonAt_goal_j28 a1 a2 (1 : Int32) S)) (ind_if _ (ind_j27 _ _ _) (ind_if _ (ind_j27 _ _ _) (ind_if _ (ind_j27 _ _ _) (ind_grd _ (ind_if _ (ind_j27 _ _ _) (ind_j28 _ _ _ _)))))) (fun s2 => f_Stacks_wagonAt_goal.eq_1 _ _ _)
theorem ind_bnd {s1 : Nat → Nat → Int32} {f : SS → Option (Int32 × SS)} {g : Int32 → SS → Option (Int32 × SS)} (h : Ind f s1) (k : ∀ v, Ind (g v) s1) : Ind (fun S => bnd (f S) g) s1 := by
  obtain ⟨o, h⟩ := h
  cases o with
  | none => exact ⟨none, fun s2 => by show bnd (f (s1, s2)) g = _; rw [h s2]; rfl⟩
  | some v =>
    obtain ⟨o, k⟩ := k v
    exact ⟨o, fun s2 => by show bnd (f (s1, s2)) g = _; rw [h s2]; exact k s2⟩
theorem ind_L11 {K : Int32 → Int32 → SS → Option (Int32 × SS)} {s1 : Nat → Nat → Int32} (hK : ∀ a b, Ind (K a b) s1) : ∀ (N : Nat) (x1 x2 x3 : Int32), Ind (f_Stacks_members_goal_L11 K N x1 x2 x3) s1
  | 0, x1, x2, x3 => ind_eq (ind_none s1) (fun s2 => f_Stacks_members_goal_L11.eq_1 _ _ _ _ _)
  | N + 1, x1, x2, x3 => ind_eq (g := fun S => grd (inb x2 4) (if (s1 125 x2.toNatClampNeg) ≤ x3 then K x1 (x2 + 1) S else bnd (f_Stacks_wagonAt_goal x2 x3 S) (fun r3 S2 => f_Stacks_members_goal_L11 K N (x1 ||| ((1 : Int32) <<< (r3 &&& 31))) x2 (x3 + 1) S2))) (ind_grd _ (ind_if _ (hK _ _) (ind_bnd (ind_wa _ _ _) (fun v => ind_L11 hK N _ _ _)))) (fun s2 => f_Stacks_members_goal_L11.eq_2 _ _ _ _ _ _)
theorem ind_L4 {s1 : Nat → Nat → Int32} : ∀ (N : Nat) (x1 x2 : Int32), Ind (f_Stacks_members_goal_L4 N x1 x2) s1
  | 0, x1, x2 => ind_eq (ind_none s1) (fun s2 => f_Stacks_members_goal_L4.eq_1 _ _ _)
  | N + 1, x1, x2 => ind_eq (g := fun S => if (4 : Int32) ≤ x2 then some (x1, S) else f_Stacks_members_goal_L11 (fun v0 v1 S => f_Stacks_members_goal_L4 N v0 v1 S) NF x1 x2 (0 : Int32) S) (ind_if _ (ind_some _ _) (ind_L11 (fun a b => ind_L4 N a b) NF _ _ _)) (fun s2 => f_Stacks_members_goal_L4.eq_2 _ _ _ _)
theorem ind_mem (s1 : Nat → Nat → Int32) : Ind f_Stacks_members_goal s1 := ind_eq (ind_L4 NF 0 0) (fun s2 => f_Stacks_members_goal.eq_1 _)
/-! ===== the class: spreadFrom, makeLeast ===== -/
def SL : List Nat := TL
theorem sfx {S : SS} {G : Nat} (hW : WR S) (hC : CQ S G) (hg : ∀ r, f_Stacks_members_goal S = some (r, S) → G ≤ nb r 10 → S.2 200 = 1) : Ew (f_Potentials_spreadFrom_goal_Plans_rooms S) (fun U => WR U ∧ F1 TL TFl S U ∧ ∃ r, f_Stacks_members_goal S = some (r, S) ∧ CQ U (Gn G (nb r 10)) ∧ ∃ w W, QW U w W) := by
  refine v_eq (f_Potentials_spreadFrom_goal_Plans_rooms.eq_1 _) ?_
  refine v_cE (e_eqn (t_Stacks_members_goal hW)) (fun r T p => ?_)
  obtain ⟨⟨-, g, -⟩, e⟩ := p
  have := fr_nil g
  subst this
  refine v_cV (twx hW hC (hg r e)) (fun T3 p => ?_)
  obtain ⟨w3, f3, C3⟩ := p
  have nz : Gn G (nb r 10) ≠ 0 := by
    unfold Gn
    by_cases c : G ≤ nb r 10
    · rw [if_pos c]; omega
    · rw [if_neg c]; omega
  obtain ⟨w, W, a1, a2, a3⟩ : ∃ w W, Gn G (nb r 10) = W + 1 ∧ QW T3 w W ∧ QE T3 w (shN w) := by
    rcases C3.2 with ⟨h, -⟩ | h
    · exact absurd h nz
    · exact h
  have q := qn a2.1 a2.2.1
  refine v_cV (lex w3 C3.1 a2 a3) (fun T4 p => ?_)
  obtain ⟨⟨w4, r4⟩, g4⟩ := p
  have q4 : QW T4 w W := LF.qw a2 g4
  have E4 : QE T4 w (shN w) := LF.qe a3 g4
  obtain ⟨z1, z2, z5, z6, z7, l4, l5, l6, l7, l8, l9, l0, l1⟩ := id q4
  refine v_cV (fix w4 r4 (by omega)) (fun T5 p => ?_)
  obtain ⟨w5, r5, g5⟩ := p
  have q5 : QW T5 w W := q4.of g5.2 (g5.1 71 5 rfl) (g5.1 71 6 rfl) (g5.1 71 7 rfl)
  refine v_cE (rkx_goal w5 q5.qa r5) (fun r7 T6 p => ?_)
  obtain ⟨w6, g6, r6⟩ := p
  have q6 : QW T6 w W := q5.of g6.2 (g6.1 71 5 rfl) (g6.1 71 6 rfl) (g6.1 71 7 rfl)
  have E6 : QE T6 w (shN w) := E4.of (fun i => by rw [g6.1 114 i rfl, g5.1 114 i rfl])
  have F6 : F1 TL TFl T T6 := F1.tr (F1.tr (F1.tr (F1.tr F1.rf f3 rfl) (Fr.f1 g4) rfl) g5.f1 rfl) g6.f1 rfl
  refine v_cE (isR q6.qa) (fun r9 T8 p => ?_)
  obtain ⟨e8, p⟩ := p
  subst e8
  rcases p with p | ⟨p, k, k1, rfl⟩
  · exact v_t p (v_some ⟨w6, F6, r, e, ⟨r6, Or.inr ⟨w, W, a1, q6, E6⟩⟩, w, W, q6⟩)
  · refine v_f (by rw [p]; decide) ?_
    obtain ⟨z1, z2, z5, z6, z7, l4, l5, l6, l7, l8, l9, l0, l1⟩ := id q6
    refine v_grd (inb_nI (by omega) (by omega)) ?_
    rw [nI_clamp (n := k) (by omega)]
    refine v_wrA (fun T9 e9 g9 v9 => ?_)
    have w9 := WR.st (k := 120) w6 trivial rfl e9
    have r9 := r6.s120 (Or.inr (rgl 0 0 6720 rfl)) e9
    rw [g9.2, show (0 : Int32) = nI 0 from rfl]
    refine v_grd (inb_nI (by omega) (by omega)) ?_
    refine v_wrA (fun T10 e10 g10 v10 => ?_)
    have w10 := WR.st (k := 121) w9 trivial rfl e10
    have r10 : QR T10 := r9.fr g10 (fun k hk i => by
      simp only [List.mem_cons, List.mem_nil_iff, or_false] at hk
      rcases hk with rfl | rfl | rfl | rfl | rfl | rfl <;> rfl)
    have g2 : Fr [120, 121] [] T8 T10 := Fr.tr (Fr.tr Fr.rf g9 rfl) g10 rfl
    have q10 : QW T10 w W := q6.of g2.2 (g2.1 71 5 rfl) (g2.1 71 6 rfl) (g2.1 71 7 rfl)
    refine v_mono (sp_L57 q10 NF 0 1 T10 w10 r10 Fr.rf (fun i hi => ?_) (by omega) (by omega) (by have : NF = 100000 := rfl; omega)) (fun U pU => ?_)
    · have : i = 0 := by omega
      subst this
      refine ⟨k, 0, k1, Nat.le_refl _, v10, ?_⟩
      rw [g10.1 120 k rfl]
      exact v9
    · obtain ⟨wU, rU, gU⟩ := pU
      have qU : QW U w W := q10.of gU.2 (gU.1 71 5 rfl) (gU.1 71 6 rfl) (gU.1 71 7 rfl)
      exact ⟨wU, F1.tr (F1.tr F6 g2.f1 rfl) (Fr.f1 gU) rfl, r, e, ⟨rU, Or.inr ⟨w, W, a1, qU, E6.of (fun i => by rw [gU.1 114 i rfl, g2.1 114 i rfl])⟩⟩, w, W, qU⟩
def ML : List Nat := [107, 108, 109, 110, 111, 112, 113, 114, 115, 116, 117, 118, 119, 120, 121]
def MFl : List (Nat × Nat) := [(70, 7), (70, 8), (71, 5), (71, 6), (71, 7)]
theorem ml_L65 {S : SS} {w W l : Nat} (hw : QW S w W) (hl : l ≤ 128) : ∀ (N k : Nat) (T : SS), WR T → QR T → Fr [107, 108] [(70, 7), (70, 8)] S T → k ≤ l → l < N + k → Ex2 (f_Plans_makeLeast_L65 N (nI l) (nI k) T) (fun _ U => WR U ∧ QR U ∧ Fr [107, 108] [(70, 7), (70, 8)] S U)
  | 0, k, T, hW, hR, hF, hk, hN => by omega
  | N + 1, k, T, hW, hR, hF, hk, hN => by
    have hwT : QW T w W := hw.of hF.2 (hF.1 71 5 rfl) (hF.1 71 6 rfl) (hF.1 71 7 rfl)
    refine e_eq (f_Plans_makeLeast_L65.eq_2 _ _ _ _) ?_
    by_cases c : k = l
    · refine e_t (nI_le (by omega) (by omega)) ?_
      refine e_wrO (fun T1 e1 g1 v1 => ?_)
      have w1 := WR.st (k := 70) (i := 7) hW (rg_nI (by omega) (by omega) (by omega)) rfl e1
      refine e_wrO (fun T2 e2 g2 v2 => ?_)
      have w2 := WR.st (k := 70) (i := 8) w1 trivial rfl e2
      refine e_some ⟨w2, ?_, Fr.tr (Fr.tr hF g1 rfl) g2 rfl⟩
      exact (hR.fr g1 (fun k hk i => by
        simp only [List.mem_cons, List.mem_nil_iff, or_false] at hk
        rcases hk with rfl | rfl | rfl | rfl | rfl | rfl <;> rfl)).fr g2 (fun k hk i => by
        simp only [List.mem_cons, List.mem_nil_iff, or_false] at hk
        rcases hk with rfl | rfl | rfl | rfl | rfl | rfl <;> rfl)
    · refine e_f (nI_ge (by omega) (by omega)) ?_
      refine e_grd (inb_nI (by omega) (by omega)) ?_
      refine e_cE (edx hwT hR) (fun r1 T1 p => ?_)
      subst p
      refine e_cE (mox hwT) (fun r2 T2 p => ?_)
      subst p
      refine e_grd (inb_nI (by omega) (by omega)) ?_
      refine e_wrA (fun T3 e3 g3 v3 => ?_)
      have w3 := WR.st (k := 107) hW trivial rfl e3
      have r3 : QR T3 := hR.fr g3 (fun k hk i => by
        simp only [List.mem_cons, List.mem_nil_iff, or_false] at hk
        rcases hk with rfl | rfl | rfl | rfl | rfl | rfl <;> rfl)
      have hw3 : QW T3 w W := hwT.of g3.2 (g3.1 71 5 rfl) (g3.1 71 6 rfl) (g3.1 71 7 rfl)
      refine e_grd (inb_nI (by omega) (by omega)) ?_
      refine e_cE (rax hw3 r3) (fun r4 T4 p => ?_)
      subst p
      rw [nI_1]
      refine e_grd (inb_nI (by omega) (by omega)) ?_
      refine e_wrA (fun T5 e5 g5 v5 => ?_)
      have w5 := WR.st (k := 108) w3 trivial rfl e5
      have r5 : QR T5 := r3.fr g5 (fun k hk i => by
        simp only [List.mem_cons, List.mem_nil_iff, or_false] at hk
        rcases hk with rfl | rfl | rfl | rfl | rfl | rfl <;> rfl)
      refine e_nm ?_
      exact ml_L65 hw hl N (k + 1) T5 w5 r5 (Fr.tr (Fr.tr hF g3 rfl) g5 rfl) (by omega) (by omega)
def Dp (S : SS) : SS := st (st S 70 8 0) 70 7 0
set_option maxHeartbeats 1000000 in
theorem mlx {S : SS} {G : Nat} (hW : WR S) (hC : CQ S G) (hg : ∀ r, f_Stacks_members_goal (Dp S) = some (r, Dp S) → G ≤ nb r 10 → S.2 200 = 1) : Ex2 (f_Plans_makeLeast S) (fun _ U => WR U ∧ F1 ML MFl S U ∧ ∃ r, f_Stacks_members_goal (Dp S) = some (r, Dp S) ∧ CQ U (Gn G (nb r 10))) := by
  refine e_eq (f_Plans_makeLeast.eq_1 _) ?_
  refine e_bndv ?_
  refine v_eq (f_Plans_drop.eq_1 _) ?_
  refine v_wrO (fun T1 e1 g1 v1 => ?_)
  have w1 := WR.st (k := 70) (i := 8) hW trivial rfl e1
  refine v_wrO (fun T2 e2 g2 v2 => ?_)
  have w2 := WR.st (k := 70) (i := 7) w1 (rgl 0 0 128 rfl) rfl e2
  have eD : T2 = Dp S := by rw [e2, e1]; rfl
  refine v_some ?_
  have F2 : Fr [] [(70, 7), (70, 8)] S T2 := Fr.tr (Fr.tr Fr.rf g1 rfl) g2 rfl
  have C2 : CQ T2 G := hC.fr F2 (fun k hk i => by
    simp only [List.mem_cons, List.mem_nil_iff, or_false] at hk
    rcases hk with rfl | rfl | rfl | rfl | rfl | rfl <;> rfl) (fun i => rfl) ⟨rfl, rfl, rfl⟩
  refine e_cV (sfx w2 C2 (fun r hr h => by
    rw [eD] at hr
    rw [F2.2]
    exact hg r hr h)) (fun T3 p => ?_)
  obtain ⟨w3, f3, r, er, C3, w, W, q3⟩ := p
  rw [eD] at er
  refine e_cE (rkx_start w3 q3.qa C3.1) (fun r4 T4 p => ?_)
  obtain ⟨w4, g4, r4'⟩ := p
  have C4 : CQ T4 (Gn G (nb r 10)) := C3.of r4' g4.2 (g4.1 71 5 rfl) (g4.1 71 6 rfl) (g4.1 71 7 rfl) (fun i => g4.1 114 i rfl)
  have q4 : QW T4 w W := q3.of g4.2 (g4.1 71 5 rfl) (g4.1 71 6 rfl) (g4.1 71 7 rfl)
  have F4 : F1 ML MFl S T4 := F1.tr (F1.tr (F1.tr F1.rf F2.f1 rfl) f3 rfl) g4.f1 rfl
  refine e_cE (ofx q4.qa r4'.2.2.2.2.2) (fun r6 T5 p => ?_)
  obtain ⟨e5, p⟩ := p
  subst e5
  refine e_i (fun _ => e_some ⟨w4, F4, r, er, C4⟩) (fun q => ?_)
  refine e_i (fun q' => ?_) (fun _ => e_some ⟨w4, F4, r, er, C4⟩)
  obtain ⟨l, rfl, l1, l2, l3⟩ := rg_ex (rn.ne p q) (by omega)
  have hl : l ≤ 128 := by
    rcases Nat.lt_or_ge 128 l with c | c
    · exact absurd q' (nI_ge (a := 128) c (by omega))
    · exact c
  refine e_grd rfl ?_
  refine e_wrA (fun T6 e6 g6 v6 => ?_)
  have w6 := WR.st (k := 108) w4 trivial rfl e6
  have r6 : QR T6 := r4'.fr g6 (fun k hk i => by
    simp only [List.mem_cons, List.mem_nil_iff, or_false] at hk
    rcases hk with rfl | rfl | rfl | rfl | rfl | rfl <;> rfl)
  have q6 : QW T6 w W := q4.of g6.2 (g6.1 71 5 rfl) (g6.1 71 6 rfl) (g6.1 71 7 rfl)
  refine e_mono (ml_L65 q6 hl NF 0 T6 w6 r6 Fr.rf (by omega) (by have : NF = 100000 := rfl; omega)) (fun _ U pU => ?_)
  obtain ⟨wU, rU, gU⟩ := pU
  refine ⟨wU, F1.tr (F1.tr F4 g6.f1 rfl) gU.f1 rfl, r, er, C4.of rU ?_ ?_ ?_ ?_ (fun i => ?_)⟩
  · rw [gU.2, g6.2]
  · rw [gU.1 71 5 rfl, g6.1 71 5 rfl]
  · rw [gU.1 71 6 rfl, g6.1 71 6 rfl]
  · rw [gU.1 71 7 rfl, g6.1 71 7 rfl]
  · rw [gU.1 114 i rfl, g6.1 114 i rfl]
