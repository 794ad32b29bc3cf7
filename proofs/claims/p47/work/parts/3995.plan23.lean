/-! ===== measure, the whole of it ===== -/
theorem Cn.rb {S U : SS} {n : Nat} {X : Cf} (h : Cn S n X) (k : Sm S U) (r : ∀ s, rmN U s = rmN S s) : Cn U n X := by
  obtain ⟨h1, h2, V, v1, v2, v3, v4⟩ := h
  refine ⟨k.cx h1, fun s hs => ?_, V, v1, v2, v3, v4.1.trans k.1.symm, fun j => (v4.2 j).trans (k.2 j).symm⟩
  rw [r s]
  exact h2 s hs
theorem mv_rb {R R' : Nat → Nat} {X Z : Cf} (h : Mv R X Z) (r : ∀ s, R' s = R s) : Mv R' X Z := by
  have : R' = R := funext r
  rw [this]; exact h
theorem BI.rb {S U : SS} {n : Nat} {G : Cf} {T : SS} {Ys : Nat → Cf} {pt : Nat → Nat} {sz k : Nat} (h : BI S n G T Ys pt sz k) (m : Sm S U) (r : ∀ s, rmN U s = rmN S s) : BI U n G T Ys pt sz k := by
  have e : ∀ X, cdX U n X = cdX S n X := fun X => m.cd
  refine ⟨fun i hi => (h.cf i hi).rb m r, fun i hi => by rw [e]; exact h.q i hi, fun i hi => by rw [e]; exact h.p i hi, fun i j hi hj q => h.inj i j hi hj (by rw [e, e] at q; exact q), fun c hc q => h.out c hc (fun i hi => by have := q i hi; rw [e] at this; exact this), h.z0, h.z1, h.z2, h.le, h.mono, h.near, fun i hi hs Z hZ => h.sp i hi hs Z (mv_rb hZ (fun s => (r s).symm)), fun j hj hp => ?_, fun i hi => ?_⟩
  · obtain ⟨i, a, b, c⟩ := h.par j hj hp
    exact ⟨i, a, b, mv_rb c r⟩
  · have : rmN U = rmN S := funext r
    rw [this]
    exact h.rch i hi
/-- the ranks: row 54 holds the GOAL's WAGONS -/
def RG (S U : SS) (n : Nat) : Prop := ∃ g : Nat → Nat, (∀ j, j < n → g j < 10 ∧ U.1 54 j = nI (g j) ∧ Bef (S.1 49) (S.1 50) (nI (g j)) 4 0) ∧ (∀ i j, i < n → j < n → g i = g j → i = j) ∧ ∀ w, w < 10 → Bef (S.1 49) (S.1 50) (nI w) 4 0 → ∃ j, j < n ∧ g j = w
/-- what measure leaves: ranks, and a queue that is fully spread -/
def ME (S U : SS) (n : Nat) (G : Cf) : Prop := PW U n ∧ RG S U n ∧ Cn U n G ∧ ∃ Ys pt sz, BI U n G U Ys pt sz sz
set_option maxHeartbeats 1000000 in
theorem mex {S : SS} (hW : WR S) (hP : PL S) (h5 : ∀ (n : Nat) (g : Nat → Nat), (∀ j, j < n → g j < 10 ∧ Bef (S.1 49) (S.1 50) (nI (g j)) 4 0) → (∀ i j, i < n → j < n → g i = g j → i = j) → n ≤ 5) : Ew (f_M_measure S) (fun U => WR U ∧ Fr [54, 55, 57, 58, 59, 60] [(0, 81)] S U ∧ ∃ n G, ME S U n G) := by
  refine v_eq (f_M_measure.eq_1 _) ?_
  refine v_wrO (fun T0 e0 g0 v0 => ?_)
  have w0 := wo_0_81 hW (rgl 0 0 10 rfl) e0
  have k49 : T0.1 49 = S.1 49 := funext fun i => g0.1 49 i rfl
  have k50 : T0.1 50 = S.1 50 := funext fun i => g0.1 50 i rfl
  refine me_L7 (S := T0) (fun U N wU gU hR => ?_) NF 0 T0 w0 Fr.rf ⟨0, fun _ => 0, by omega, v0, fun j hj => by omega, fun i j hi hj => by omega, fun w hw => by omega⟩ (by omega) (by have : NF = 100000 := rfl; omega)
  obtain ⟨n, g, hn, h81, hg, hlt, hall⟩ := hR
  rw [k49, k50] at hg hall
  have ginj : ∀ i j, i < n → j < n → g i = g j → i = j := fun i j hi hj e => by
    rcases Nat.lt_trichotomy i j with c | c | c
    · have := hlt i j c hj; omega
    · exact c
    · have := hlt j i c hi; omega
  have n5 := h5 n g (fun j hj => ⟨(hg j hj).1, (hg j hj).2.2⟩) ginj
  refine v_eq (f_M_measure_L7.eq_2 _ _ _) ?_
  refine v_t (nI_le (a := 10) (by omega) (by omega)) ?_
  refine me_L56 (S := U) (fun B N' wB gB hB => ?_) NF 0 U wU Fr.rf (fun i hi => by omega) (by omega) (by have : NF = 100000 := rfl; omega)
  have pB : PW B n := by
    refine ⟨⟨(gB.1 0 81 rfl).trans h81, n5, fun i j hi hj e => ?_⟩, fun r hr => ⟨g r, (hg r hr).1, (gB.1 54 r rfl).trans (hg r hr).2.1⟩⟩
    rw [gB.1 54 i rfl, gB.1 54 j rfl, (hg i hi).2.1, (hg j hj).2.1] at e
    refine ginj i j hi hj ?_
    have a := congrArg Int32.toInt e
    rw [nI_ti (by have := (hg i hi).1; omega), nI_ti (by have := (hg j hj).1; omega)] at a
    omega
  have rB : ∀ s, rmN B s ≤ 10 := fun s => (rmN_le wB s).1
  have FS : Fr [54, 55, 57, 58, 59, 60] [(0, 81)] S B := Fr.tr (Fr.tr (Fr.tr Fr.rf g0 rfl) gU rfl) gB rfl
  refine v_eq (f_M_measure_L56.eq_2 _ _ _) ?_
  refine v_t (nI_le (a := 25920) (by omega) (by omega)) ?_
  refine v_cV (tkx (x1 := 1) wB) (fun T h1 => ?_)
  obtain ⟨wT, gT, hT⟩ := h1
  have hT : tkP B T 1 := hT
  have nT := tk_NN wB hT
  have b49 : B.1 (tkM 1) = S.1 49 := funext fun i => FS.1 49 i rfl
  have b50 : B.1 (tkO 1) = S.1 50 := funext fun i => FS.1 50 i rfl
  have PB : PL B := hP.of (fun k hk i => by
    simp only [List.mem_cons, List.mem_nil_iff, or_false] at hk
    rcases hk with rfl | rfl | rfl | rfl | rfl <;> exact FS.1 _ i rfl)
  have dT : DW (T.1 58) (T.1 57) := tk_DW wT hT (by rw [b49, b50]; exact hP.2.2)
  have bT : ∀ w, Bef (T.1 58) (T.1 57) w 4 0 ↔ Bef (S.1 49) (S.1 50) w 4 0 := fun w => by rw [tk_Bef wT hT w, b49, b50]
  have cT : CX B n (cfS T) := cx_of wT nT dT (g := g) (fun j hj => ⟨(hg j hj).1, (gB.1 54 j rfl).trans (hg j hj).2.1, (bT _).mpr (hg j hj).2.2⟩) ginj (fun w hw k => hall w hw ((bT _).mp k))
  have sT : Sm B T := ⟨gT.1 0 81 rfl, fun j => gT.1 54 j rfl⟩
  have cG : Cn B n (cfS T) := ⟨cT, tk_Fit wB wT PB hT, T, wT, nT, rfl, sT⟩
  refine v_cE (cdx' pB cT sT wT nT rfl) (fun r T3 h3 => ?_)
  obtain ⟨w3, g3, e3⟩ := h3
  subst e3
  have hv := (cd_v pB cT).2
  refine v_grd rfl ?_
  rw [show (0 : Int32).toNatClampNeg = 0 by decide]
  refine v_wrA (fun T4 e4 g4 v4 => ?_)
  have w4 := wo_60 w3 (rg_nI (j := cdX B n (cfS T)) (by omega) (by omega) (by omega)) e4
  refine v_grd rfl ?_
  rw [v4]
  refine v_grd (inb_nI hv (by omega)) ?_
  rw [nI_clamp (n := cdX B n (cfS T)) (by omega)]
  refine v_wrA (fun T5 e5 g5 v5 => ?_)
  have w5 := WR.st (k := 55) w4 trivial rfl e5
  have F5 : MF B T5 := Fr.tr (Fr.tr (Fr.tr (Fr.tr Fr.rf gT rfl) g3 rfl) g4 rfl) g5 rfl
  have k55 : ∀ i, T4.1 55 i = B.1 55 i := fun i => by rw [g4.1 55 i rfl, g3.1 55 i rfl, gT.1 55 i rfl]
  have bi : BI B n (cfS T) T5 (fun _ => cfS T) (fun _ => 0) 1 0 := by
    refine ⟨fun i hi => cG, fun i hi => ?_, fun i hi => v5, fun i j hi hj _ => by omega, fun c hc q => ?_, by omega, rfl, rfl, fun i hi => Nat.zero_le _, fun i j _ _ => Nat.le_refl _, fun j hj _ => Nat.zero_le _, fun i hi => by omega, fun j hj hp => absurd hp (Nat.lt_irrefl 0), fun i hi => ⟨0, rfl⟩⟩
    · have : i = 0 := by omega
      subst this
      rw [g5.1 60 0 rfl]; exact v4
    · rw [e5, st_at, if_pos rfl, if_neg (Ne.symm (q 0 (by omega))), k55]
      exact hB c hc
  refine v_mono (me_L107 pB rB NF 0 T5 _ _ 1 w5 F5 bi (by omega) (by have : NF = 100000 := rfl; omega)) (fun V hV => ?_)
  obtain ⟨wV, FV, Ys, pt, sz, hb⟩ := hV
  have sV := FV.sm
  refine ⟨wV, Fr.tr FS FV rfl, n, cfS T, sV.pw pB, ⟨g, fun j hj => ⟨(hg j hj).1, ?_, (hg j hj).2.2⟩, ginj, hall⟩, cG.rb sV FV.rm, Ys, pt, sz, hb.rb sV FV.rm⟩
  rw [sV.2, gB.1 54 j rfl]
  exact (hg j hj).2.1
