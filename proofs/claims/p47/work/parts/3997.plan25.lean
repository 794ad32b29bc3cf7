/-! ===== hasFallen and wander ===== -/
theorem nn_cg {S U : SS} (h : NN S) (e1 : ∀ i, U.1 57 i = S.1 57 i) (e2 : ∀ s, U.1 58 s = S.1 58 s) : NN U := fun s i hs hi => by
  rw [e1]
  unfold mN at hi
  rw [e2] at hi
  exact h s i hs hi
theorem cf_cg {S U : SS} (e1 : ∀ i, U.1 57 i = S.1 57 i) (e2 : ∀ s, U.1 58 s = S.1 58 s) : cfS U = cfS S := by
  funext s
  by_cases hs : s < 4
  · unfold cfS mN wN
    rw [if_pos hs, if_pos hs, e2]
    exact List.map_congr_left (fun i _ => by rw [e1])
  · rw [cfS_far _ (by omega), cfS_far _ (by omega)]
theorem hfx {B T : SS} {n x : Nat} {X : Cf} (hp : PW B n) (hr : ∀ s, rmN B s ≤ 10) (hX : Cn B n X) (hW : WR T) (k : Sm B T) (kr : ∀ s, rmN T s = rmN B s) (hx : x < 80) : Ex2 (f_M_hasFallen (nI (cdX B n X)) (nI (x / 20)) (nI (x / 5 % 4)) (nI (x % 5 + 1)) T) (fun r U => WR U ∧ Fr [57, 58, 59] [] T U ∧ ((r = 0 ∧ ∀ Z, Mvn (rmN B) x X Z → ¬ T.1 55 (cdX B n Z) = T.1 55 (cdX B n X) - 1) ∨ (r = 1 ∧ NN U ∧ ∃ Z, Mvn (rmN B) x X Z ∧ cfS U = Z ∧ T.1 55 (cdX B n Z) = T.1 55 (cdX B n X) - 1))) := by
  have ha : x / 20 < 4 := by omega
  have hb : x / 5 % 4 < 4 := by omega
  refine e_eq (f_M_hasFallen.eq_1 _ _ _ _ _) ?_
  refine e_cV (dcx' hp hX k hW) (fun T1 h1 => ?_)
  obtain ⟨w1, g1, n1, c1⟩ := h1
  have la : mN T1 (x / 20) = (X (x / 20)).length := by rw [← c1, cfS_len ha]
  have lb : mN T1 (x / 5 % 4) = (X (x / 5 % 4)).length := by rw [← c1, cfS_len hb]
  have r1 : ∀ s, rmN T1 s = rmN B s := fun s => by
    rw [← kr s]
    unfold rmN
    rw [g1.1 46 s rfl]
  refine e_cE (mmx w1 ha hb (by omega)) (fun r T2 h2 => ?_)
  obtain ⟨e2, h2⟩ := h2
  subst e2
  rw [r1, la, lb] at h2
  rcases h2 with ⟨hr0, h2⟩ | ⟨hr1, h2⟩
  · refine e_t hr0 ?_
    exact e_some ⟨w1, g1, Or.inl ⟨rfl, fun Z hZ => absurd ⟨hZ.1, by omega, hZ.2.1, hZ.2.2.1⟩ h2⟩⟩
  · refine e_f (by rw [hr1]; decide) ?_
    obtain ⟨hab, q1, q2, q3⟩ := h2
    have hr10 := hr (x / 5 % 4)
    have hm : Mvn (rmN B) x X (mvd (x / 20) (x / 5 % 4) (x % 5 + 1) X) := ⟨hab, q2, q3, rfl⟩
    have hZ := cn_mv hr hX (mvn_mv hx hm)
    generalize hZe : mvd (x / 20) (x / 5 % 4) (x % 5 + 1) X = Z at hm hZ
    refine e_cV (shn w1 n1 ha hb hab (by omega) (by omega)) (fun T3 h3 => ?_)
    obtain ⟨⟨w3, g3, c3⟩, n3⟩ := h3
    rw [c1, hZe] at c3
    have k3 : Sm B T3 := ⟨((g3.1 0 81 rfl).trans (g1.1 0 81 rfl)).trans k.1, fun j => ((g3.1 54 j rfl).trans (g1.1 54 j rfl)).trans (k.2 j)⟩
    refine e_cE (cdx' hp hZ.1 k3 w3 n3 c3) (fun r4 T4 h4 => ?_)
    obtain ⟨w4, g4, e4⟩ := h4
    subst e4
    have hv := (cd_v hp hZ.1).2
    have hvx := (cd_v hp hX.1).2
    have k55 : ∀ i, T4.1 55 i = T.1 55 i := fun i => by rw [g4.1 55 i rfl, g3.1 55 i rfl, g1.1 55 i rfl]
    have F4 : Fr [57, 58, 59] [] T T4 := Fr.tr (Fr.tr g1 g3 rfl) g4 rfl
    refine e_grd (inb_nI hv (by omega)) ?_
    refine e_grd (inb_nI hvx (by omega)) ?_
    rw [nI_clamp (n := cdX B n Z) (by omega), nI_clamp (n := cdX B n X) (by omega), k55, k55]
    refine e_i (fun q => ?_) (fun q => ?_)
    · exact e_some ⟨w4, F4, Or.inr ⟨rfl, nn_cg n3 (fun i => g4.1 57 i rfl) (fun s => g4.1 58 s rfl), Z, hm, (cf_cg (fun i => g4.1 57 i rfl) (fun s => g4.1 58 s rfl)).trans c3, q⟩⟩
    · refine e_some ⟨w4, F4, Or.inl ⟨rfl, fun W hW' => ?_⟩⟩
      rw [hW'.2.2.2, hZe]
      exact q
def WF (B T : SS) : Prop := Fr [51, 52, 53, 56, 57, 58, 59] [(0, 77)] B T
theorem WF.sm {S T : SS} (h : WF S T) : Sm S T := ⟨h.1 0 81 rfl, fun j => h.1 54 j rfl⟩
theorem WF.rm {S T : SS} (h : WF S T) (s : Nat) : rmN T s = rmN S s := by
  unfold rmN
  rw [h.1 46 s rfl]
/-- the numbers along the way -/
def Pth (B : SS) (n : Nat) (T : SS) (m : Nat) : Prop := ∀ j, j ≤ m → ∃ X, Cn B n X ∧ T.1 56 j = nI (cdX B n X)
theorem nI_inj {a b : Nat} (ha : a < 2 ^ 31) (hb : b < 2 ^ 31) (e : nI a = nI b) : a = b := by
  have q := congrArg Int32.toInt e
  rw [nI_ti ha, nI_ti hb] at q
  omega
set_option maxHeartbeats 1000000 in
theorem wa_L25 {B : SS} {K : Int32 → SS → Option SS} {P : SS → Prop} {n m i sz : Nat} {G : Cf} {Ys : Nat → Cf} {pt : Nat → Nat} (hp : PW B n) (hr : ∀ s, rmN B s ≤ 10) (hB : BI B n G B Ys pt sz sz) (hi : i < sz) (hpi : 0 < pt i) (hm : m + 1 < 400) (hK : ∀ U j, j < sz → pt j + 1 = pt i → WR U → WF B U → U.1 0 77 = nI (m + 1) → Pth B n U (m + 1) → Ew (K (nI (cdX B n (Ys j))) U) P) : ∀ (N x : Nat) (T : SS), WR T → WF B T → T.1 0 77 = nI m → Pth B n T m → (∃ y Z, x ≤ y ∧ y < 80 ∧ Mvn (rmN B) y (Ys i) Z ∧ B.1 55 (cdX B n Z) = B.1 55 (cdX B n (Ys i)) - 1) → 80 < N + x → Ew (f_M_wander_L25 K N (nI (cdX B n (Ys i))) (nI x) T) P
  | 0, x, T, hW, hF, h77, hP, hy, hN => by
    obtain ⟨y, Z, h1, h2, -⟩ := hy
    omega
  | N + 1, x, T, hW, hF, h77, hP, hy, hN => by
    obtain ⟨y, Y, y1, y2, y3, y4⟩ := hy
    have hx : x < 80 := by omega
    refine v_eq (f_M_wander_L25.eq_2 _ _ _ _ _) ?_
    rw [x_20 hx, x_4 hx, x_5 hx]
    refine v_cE (hfx hp hr (hB.cf i hi) hW hF.sm hF.rm hx) (fun r T1 h1 => ?_)
    obtain ⟨w1, g1, h1⟩ := h1
    have k55 : ∀ j, T.1 55 j = B.1 55 j := fun j => hF.1 55 j rfl
    have F1 : WF B T1 := Fr.tr hF g1 rfl
    have t77 : T1.1 0 77 = nI m := (g1.1 0 77 rfl).trans h77
    have P1 : Pth B n T1 m := fun j hj => by rw [g1.1 56 j rfl]; exact hP j hj
    rcases h1 with ⟨r0, h1⟩ | ⟨r1, n1, Z, z1, z2, z3⟩
    · refine v_t r0 ?_
      refine v_nm ?_
      rw [nI_1]
      refine wa_L25 hp hr hB hi hpi hm hK N (x + 1) T1 w1 F1 t77 P1 ⟨y, Y, ?_, y2, y3, y4⟩ (by omega)
      rcases Nat.lt_or_ge x y with c | c
      · omega
      · have : y = x := by omega
        subst this
        have q := h1 Y y3
        rw [k55, k55] at q
        exact absurd y4 q
    · refine v_f (by rw [r1]; decide) ?_
      obtain ⟨j, j1, j2, j3⟩ := hB.sp i hi hi Z (mvn_mv hx z1)
      have cZ : Cn B n Z := by rw [← j2]; exact hB.cf j j1
      have pj : pt j + 1 = pt i := by
        rw [k55, k55, ← j2, hB.p j j1, hB.p i hi] at z3
        have a := hB.le i hi
        have b := hB.le j j1
        have c := hB.le6 hp
        rw [show nI (pt i) - (1 : Int32) = nI (pt i - 1) from nI_sb (b := 1) (by omega) (by omega)] at z3
        have := nI_inj (by omega) (by omega) z3
        omega
      rw [t77]
      refine v_grd (inb_nI (by omega) (by omega)) ?_
      refine v_wrA (fun T2 e2 g2 v2 => ?_)
      have w2 := wo_51 w1 (rg_nI (j := x / 20) (by omega) (by omega) (by omega)) e2
      rw [g2.1 0 77 rfl, t77]
      refine v_grd (inb_nI (by omega) (by omega)) ?_
      refine v_wrA (fun T3 e3 g3 v3 => ?_)
      have w3 := wo_52 w2 (rg_nI (j := x / 5 % 4) (by omega) (by omega) (by omega)) e3
      rw [g3.1 0 77 rfl, g2.1 0 77 rfl, t77]
      refine v_grd (inb_nI (by omega) (by omega)) ?_
      refine v_wrA (fun T4 e4 g4 v4 => ?_)
      have w4 := WR.st (k := 53) w3 trivial rfl e4
      have F4 : WF B T4 := Fr.tr (Fr.tr (Fr.tr F1 g2 rfl) g3 rfl) g4 rfl
      have a57 : ∀ i, T4.1 57 i = T1.1 57 i := fun i => by rw [g4.1 57 i rfl, g3.1 57 i rfl, g2.1 57 i rfl]
      have a58 : ∀ i, T4.1 58 i = T1.1 58 i := fun i => by rw [g4.1 58 i rfl, g3.1 58 i rfl, g2.1 58 i rfl]
      refine v_cE (cdx' hp cZ.1 F4.sm w4 (nn_cg n1 a57 a58) ((cf_cg a57 a58).trans z2)) (fun r5 T5 h5 => ?_)
      obtain ⟨w5, g5, e5⟩ := h5
      subst e5
      have hv := (cd_v hp cZ.1).2
      have t5 : T5.1 0 77 = nI m := by rw [g5.1 0 77 rfl, g4.1 0 77 rfl, g3.1 0 77 rfl, g2.1 0 77 rfl, t77]
      rw [t5, nI_1]
      refine v_wrO (fun T6 e6 g6 v6 => ?_)
      have w6 := wo_0_77 w5 (rg_nI (j := m + 1) (by omega) (by omega) (by omega)) e6
      rw [v6]
      refine v_grd (inb_nI (by omega) (by omega)) ?_
      rw [nI_clamp (n := m + 1) (by omega)]
      refine v_wrA (fun T7 e7 g7 v7 => ?_)
      have w7 := wo_56 w6 (rg_nI (j := cdX B n Z) (by omega) (by omega) (by omega)) e7
      have F7 : WF B T7 := Fr.tr (Fr.tr (Fr.tr F4 g5 rfl) g6 rfl) g7 rfl
      rw [← j2]
      rw [← j2] at e7
      refine hK T7 j j1 pj w7 F7 ((g7.1 0 77 rfl).trans v6) (fun l hl => ?_)
      rw [e7, st_at, if_pos rfl]
      by_cases c : l = m + 1
      · rw [if_pos c]
        exact ⟨Ys j, hB.cf j j1, rfl⟩
      · rw [if_neg c, g6.1 56 l rfl, g5.1 56 l rfl, g4.1 56 l rfl, g3.1 56 l rfl, g2.1 56 l rfl]
        exact P1 l (by omega)
theorem wa_L14 {B : SS} {n sz : Nat} {G : Cf} {Ys : Nat → Cf} {pt : Nat → Nat} (hp : PW B n) (hr : ∀ s, rmN B s ≤ 10) (hB : BI B n G B Ys pt sz sz) : ∀ (N i m : Nat) (T : SS), i < sz → WR T → WF B T → T.1 0 77 = nI m → Pth B n T m → m + pt i ≤ 50 → pt i < N → Ew (f_M_wander_L14 N (nI (cdX B n (Ys i))) T) (fun U => WR U ∧ WF B U ∧ ∃ m, m ≤ 50 ∧ U.1 0 77 = nI m ∧ Pth B n U m)
  | 0, i, m, T, hi, hW, hF, h77, hP, hm, hN => by omega
  | N + 1, i, m, T, hi, hW, hF, h77, hP, hm, hN => by
    have hv := (cd_v hp (hB.cf i hi).1).2
    refine v_eq (f_M_wander_L14.eq_2 _ _ _) ?_
    refine v_grd (inb_nI hv (by omega)) ?_
    rw [nI_clamp (n := cdX B n (Ys i)) (by omega), hF.1 55 _ rfl, hB.p i hi]
    refine v_i (fun q => ?_) (fun q => ?_)
    · exact v_some ⟨hW, hF, m, by omega, h77, hP⟩
    · have hpi : 0 < pt i := by
        rcases Nat.eq_zero_or_pos (pt i) with c | c
        · rw [c] at q; exact absurd (by decide) q
        · exact c
      obtain ⟨j, j1, j2, j3⟩ := hB.par i hi hpi
      have ht : tot (Ys i) ≤ 5 := by rw [(hB.cf i hi).1.1]; exact hp.1.2.1
      obtain ⟨y, hy, hmy⟩ := mv_mvn ht j3
      refine wa_L25 hp hr hB hi hpi (by omega) (fun U l l1 l2 u1 u2 u3 u4 => wa_L14 hp hr hB N l (m + 1) U l1 u1 u2 u3 u4 (by omega) (by omega)) NF 0 T hW hF h77 hP ⟨y, Ys j, by omega, hy, hmy, ?_⟩ (by have : NF = 100000 := rfl; omega)
      rw [hB.p j j1, hB.p i hi, ← j2]
      exact (nI_sb (a := pt j + 1) (b := 1) (by omega) (by omega)).symm
theorem wax {S : SS} {n sz i : Nat} {G : Cf} {Ys : Nat → Cf} {pt : Nat → Nat} (hW : WR S) (hp : PW S n) (hr1 : ∀ s, s < 4 → 1 ≤ rmN S s) (hB : BI S n G S Ys pt sz sz) (hi : i < sz) : Ew (f_M_wander (nI (cdX S n (Ys i))) S) (fun U => WR U ∧ WF S U ∧ ∃ m, m ≤ 50 ∧ U.1 0 77 = nI m ∧ Pth S n U m) := by
  have hr : ∀ s, rmN S s ≤ 10 := fun s => (rmN_le hW s).1
  have hv := (cd_v hp (hB.cf i hi).1).2
  refine v_eq (f_M_wander.eq_1 _ _) ?_
  refine v_wrO (fun T1 e1 g1 v1 => ?_)
  have w1 := wo_0_77 hW (rgl 0 0 399 rfl) e1
  refine v_grd rfl ?_
  refine v_wrA (fun T2 e2 g2 v2 => ?_)
  have w2 := wo_56 w1 (rg_nI (j := cdX S n (Ys i)) (by omega) (by omega) (by omega)) e2
  have F2 : WF S T2 := Fr.tr (Fr.tr Fr.rf g1 rfl) g2 rfl
  have p50 := hB.p50 hp hr1 hi
  refine wa_L14 hp hr hB NF i 0 T2 hi w2 F2 ((g2.1 0 77 rfl).trans v1) (fun j hj => ?_) (by omega) (by have : NF = 100000 := rfl; omega)
  have : j = 0 := by omega
  subst this
  exact ⟨Ys i, hB.cf i hi, v2⟩
