/-! ===== measure: one MOVE tried; all of them; the whole queue ===== -/
theorem x_20 {x : Nat} (hx : x < 80) : nI x / (20 : Int32) = nI (x / 20) := nI_div (b := 20) (by omega) (by omega) (by omega)
theorem x_4 {x : Nat} (hx : x < 80) : (nI x / (5 : Int32)) - (nI x / (5 : Int32)) / (4 : Int32) * (4 : Int32) = nI (x / 5 % 4) := by
  rw [show nI x / (5 : Int32) = nI (x / 5) from nI_div (b := 5) (by omega) (by omega) (by omega)]
  exact nI_rem (b := 4) (by omega) (by omega) (by omega)
theorem x_5 {x : Nat} (hx : x < 80) : (nI x - nI x / (5 : Int32) * (5 : Int32)) + (1 : Int32) = nI (x % 5 + 1) := by
  rw [show nI x - nI x / (5 : Int32) * (5 : Int32) = nI (x % 5) from nI_rem (b := 5) (by omega) (by omega) (by omega), nI_1]
theorem nI_nn {a : Nat} (h : a < 2 ^ 31) : ¬ nI a < 0 := by
  rw [Int32.lt_iff_toInt_lt, nI_ti h]
  have : (0 : Int32).toInt = 0 := by decide
  omega
def MF (S T : SS) : Prop := Fr [55, 57, 58, 59, 60] [] S T
theorem MF.sm {S T : SS} (h : MF S T) : Sm S T := ⟨h.1 0 81 rfl, fun j => h.1 54 j rfl⟩
theorem MF.rm {S T : SS} (h : MF S T) (s : Nat) : rmN T s = rmN S s := by
  unfold rmN
  rw [h.1 46 s rfl]
set_option maxHeartbeats 1000000 in
theorem me_L124 {S : SS} {K : Int32 → Int32 → SS → Option SS} {P : SS → Prop} {n k : Nat} {G : Cf} (hp : PW S n) (hr : ∀ s, rmN S s ≤ 10) (hK : ∀ U Ys pt sz, WR U → MF S U → BI S n G U Ys pt sz (k + 1) → k + 1 ≤ sz → Ew (K (nI sz) (nI (k + 1)) U) P) : ∀ (N x : Nat) (T : SS) (Ys : Nat → Cf) (pt : Nat → Nat) (sz : Nat), WR T → MF S T → BI S n G T Ys pt sz k → k < sz → NN T → cfS T = Ys k → (∀ y, y < x → ∀ Z, Mvn (rmN S) y (Ys k) Z → ∃ j, j < sz ∧ Ys j = Z) → x ≤ 80 → 80 < N + x → Ew (f_M_measure_L124 K N (nI sz) (nI k) (nI x) T) P
  | 0, x, T, Ys, pt, sz, hW, hF, hB, hk, hN, hc, hd, hx, hf => by omega
  | N + 1, x, T, Ys, pt, sz, hW, hF, hB, hk, hN, hc, hd, hx, hf => by
    have h6 := hB.le6 hp
    refine v_eq (f_M_measure_L124.eq_2 _ _ _ _ _ _) ?_
    by_cases c : x = 80
    · subst c
      refine v_t (nI_le (a := 80) (by omega) (by omega)) ?_
      refine v_nm ?_
      rw [nI_1]
      refine hK T Ys pt sz hW hF (hB.nx hk (fun Z hZ => ?_)) (by omega)
      have ht : tot (Ys k) ≤ 5 := by
        rw [(hB.cf k hk).1.1]; exact hp.1.2.1
      obtain ⟨y, hy, hm⟩ := mv_mvn ht hZ
      exact hd y hy Z hm
    · have hx8 : x < 80 := by omega
      refine v_f (nI_ge (b := 80) hx8 (by omega)) ?_
      rw [x_20 hx8, x_4 hx8, x_5 hx8]
      refine v_nm ?_
      refine v_nm ?_
      refine v_nm ?_
      have go : ∀ (T' : SS) (Ys' : Nat → Cf) (pt' : Nat → Nat) (sz' : Nat), WR T' → MF S T' → BI S n G T' Ys' pt' sz' k → k < sz' → NN T' → cfS T' = Ys' k → (∀ y, y < x + 1 → ∀ Z, Mvn (rmN S) y (Ys' k) Z → ∃ j, j < sz' ∧ Ys' j = Z) → Ew (f_M_measure_j236 (fun v0 v1 v2 S => f_M_measure_L124 K N v0 v1 v2 S) (nI sz') (nI k) (nI x) T') P := fun T' Ys' pt' sz' a1 a2 a3 a4 a5 a6 a7 => by
        refine v_eq (f_M_measure_j236.eq_1 _ _ _ _ _) ?_
        refine v_nm ?_
        rw [nI_1]
        exact me_L124 hp hr hK N (x + 1) T' Ys' pt' sz' a1 a2 a3 a4 a5 a6 a7 (by omega) (by omega)
      have ha : x / 20 < 4 := by omega
      have hb : x / 5 % 4 < 4 := by omega
      have la : mN T (x / 20) = (Ys k (x / 20)).length := by rw [← hc, cfS_len ha]
      have lb : mN T (x / 5 % 4) = (Ys k (x / 5 % 4)).length := by rw [← hc, cfS_len hb]
      refine v_cE (mmx hW ha hb (by omega)) (fun r T1 h1 => ?_)
      obtain ⟨e1, h1⟩ := h1
      subst e1
      rw [hF.rm, la, lb] at h1
      rcases h1 with ⟨hr0, h1⟩ | ⟨hr1, h1⟩
      · refine v_t hr0 ?_
        refine go T1 Ys pt sz hW hF hB hk hN hc (fun y hy Z hZ => ?_)
        by_cases cy : y = x
        · subst cy
          exact absurd ⟨hZ.1, by omega, hZ.2.1, hZ.2.2.1⟩ h1
        · exact hd y (by omega) Z hZ
      · refine v_f (by rw [hr1]; decide) ?_
        obtain ⟨hab, q1, q2, q3⟩ := h1
        have hmv : Mvn (rmN S) x (Ys k) (mvd (x / 20) (x / 5 % 4) (x % 5 + 1) (Ys k)) := ⟨hab, q2, q3, rfl⟩
        have hm := mvn_mv hx8 hmv
        have hZ := cn_mv hr (hB.cf k hk) hm
        generalize hZe : mvd (x / 20) (x / 5 % 4) (x % 5 + 1) (Ys k) = Z at hmv hm hZ
        have hr10 := hr (x / 5 % 4)
        refine v_cV (shn hW hN ha hb hab (by omega) (by omega)) (fun T2 h2 => ?_)
        obtain ⟨⟨w2, g2, c2⟩, n2⟩ := h2
        rw [hc, hZe] at c2
        have f2 : MF S T2 := Fr.tr hF g2 rfl
        refine v_cE (cdx' hp hZ.1 f2.sm w2 n2 c2) (fun r3 T3 h3 => ?_)
        obtain ⟨w3, g3, e3⟩ := h3
        have f3 : MF S T3 := Fr.tr f2 g3 rfl
        have m3 : ∀ s, mN T3 s = mN T2 s := fun s => by unfold mN; rw [g3.1 58 s rfl]
        have n3 : NN T3 := fun s i hs hi => by
          rw [g3.1 57 _ rfl]
          rw [m3] at hi
          exact n2 s i hs hi
        have c3 : cfS T3 = Z := by
          rw [← c2]
          funext s
          by_cases hs : s < 4
          · unfold cfS
            rw [if_pos hs, if_pos hs, m3]
            refine List.map_congr_left (fun i _ => ?_)
            unfold wN
            rw [g3.1 57 _ rfl]
          · rw [cfS_far _ (by omega), cfS_far _ (by omega)]
        have z1 : (Z (x / 5 % 4)).length = (Ys k (x / 5 % 4)).length + (x % 5 + 1) := by
          rw [← hZe, mvd_len hab q2, if_neg (Ne.symm hab), if_pos rfl]
        have z2 : (Z (x / 20)).length = (Ys k (x / 20)).length - (x % 5 + 1) := by
          rw [← hZe, mvd_len hab q2, if_pos rfl]
        have y1 : mN T3 (x / 5 % 4) = (Z (x / 5 % 4)).length := by rw [← c3, cfS_len hb]
        have y2 : mN T3 (x / 20) = (Z (x / 20)).length := by rw [← c3, cfS_len ha]
        have l10 : (Ys k (x / 20)).length ≤ 10 := by rw [← la]; exact (mN_le hW _).1
        refine v_cV (shn w3 n3 hb ha (Ne.symm hab) (n := x % 5 + 1) (by omega) (by omega)) (fun T4 h4 => ?_)
        obtain ⟨⟨w4, g4, c4⟩, n4⟩ := h4
        have c4 : cfS T4 = Ys k := by
          rw [c4, c3, ← hZe]
          exact mvd_rev hab q2
        have f4 : MF S T4 := Fr.tr f3 g4 rfl
        have k60 : ∀ i, T4.1 60 i = T1.1 60 i := fun i => by rw [g4.1 60 i rfl, g3.1 60 i rfl, g2.1 60 i rfl]
        have k55 : ∀ i, T4.1 55 i = T1.1 55 i := fun i => by rw [g4.1 55 i rfl, g3.1 55 i rfl, g2.1 55 i rfl]
        have hB4 := hB.cg k60 k55
        have hv := (cd_v hp hZ.1).2
        subst e3
        refine v_grd (inb_nI hv (by omega)) ?_
        rw [nI_clamp (n := cdX S n Z) (by omega)]
        refine v_i (fun q => ?_) (fun q => ?_)
        · have hn : ∀ i, i < sz → cdX S n (Ys i) ≠ cdX S n Z := fun i hi e => by
            have := hB4.p i hi
            rw [e] at this
            rw [this] at q
            have l := hB4.le i hi
            exact nI_nn (by omega) q
          have hlt := hB4.lt hp hZ hn
          refine v_grd (inb_nI (by omega) (by omega)) ?_
          rw [nI_clamp (n := k) (by omega), hB4.q k hk]
          have hvk := (cd_v hp (hB4.cf k hk).1).2
          refine v_grd (inb_nI hvk (by omega)) ?_
          refine v_grd (inb_nI hv (by omega)) ?_
          rw [nI_clamp (n := cdX S n (Ys k)) (by omega), hB4.p k hk, nI_1]
          refine v_wrA (fun T5 e5 g5 v5 => ?_)
          have w5 := WR.st (k := 55) w4 trivial rfl e5
          refine v_grd (inb_nI (by omega) (by omega)) ?_
          rw [nI_clamp (n := sz) (by omega)]
          refine v_wrA (fun T6 e6 g6 v6 => ?_)
          have w6 := wo_60 w5 (rg_nI (j := cdX S n Z) (by omega) (by omega) (by omega)) e6
          refine v_nm ?_
          rw [nI_1]
          have hB6 := hB4.add (U := T6) hk hZ hm hn (fun i => by
            rw [e6, st_at, if_pos rfl]
            by_cases ci : i = sz
            · rw [if_pos ci, if_pos ci]
            · rw [if_neg ci, if_neg ci]; exact g5.1 60 i rfl) (fun i => by
            rw [g6.1 55 i rfl, e5, st_at, if_pos rfl])
          have o : ∀ i, i < sz → ups Ys sz Z i = Ys i := fun i hi => ups_n _ _ (by omega)
          have m6 : ∀ s, mN T6 s = mN T4 s := fun s => by unfold mN; rw [g6.1 58 s rfl, g5.1 58 s rfl]
          refine go T6 _ _ (sz + 1) w6 (Fr.tr (Fr.tr f4 g5 rfl) g6 rfl) hB6 (by omega) (fun s i hs hi => ?_) ?_ (fun y hy W hW' => ?_)
          · rw [g6.1 57 _ rfl, g5.1 57 _ rfl]
            rw [m6] at hi
            exact n4 s i hs hi
          · rw [o k hk, ← c4]
            funext s
            by_cases hs : s < 4
            · unfold cfS
              rw [if_pos hs, if_pos hs, m6]
              refine List.map_congr_left (fun i _ => ?_)
              unfold wN
              rw [g6.1 57 _ rfl, g5.1 57 _ rfl]
            · rw [cfS_far _ (by omega), cfS_far _ (by omega)]
          · rw [o k hk] at hW'
            by_cases cy : y = x
            · subst cy
              refine ⟨sz, by omega, ?_⟩
              rw [ups_k, hW'.2.2.2]; exact hZe.symm
            · obtain ⟨j, j1, j2⟩ := hd y (by omega) W hW'
              exact ⟨j, by omega, (o j j1).trans j2⟩
        · refine go T4 Ys pt sz w4 f4 hB4 hk n4 c4 (fun y hy W hW' => ?_)
          by_cases cy : y = x
          · subst cy
            apply Classical.byContradiction
            intro no
            have hn : ∀ i, i < sz → cdX S n (Ys i) ≠ cdX S n Z := fun i hi e => no ⟨i, hi, by
              rw [hW'.2.2.2, hZe]
              exact cd_inj hp (hB4.cf i hi) hZ e⟩
            have := hB4.out _ hv hn
            rw [this] at q
            exact q (by decide)
          · exact hd y (by omega) W hW'
theorem me_L107 {S : SS} {n : Nat} {G : Cf} (hp : PW S n) (hr : ∀ s, rmN S s ≤ 10) : ∀ (N k : Nat) (T : SS) (Ys : Nat → Cf) (pt : Nat → Nat) (sz : Nat), WR T → MF S T → BI S n G T Ys pt sz k → k ≤ sz → 6720 < N + k → Ew (f_M_measure_L107 N (nI sz) (nI k) T) (fun U => WR U ∧ MF S U ∧ ∃ Ys pt sz, BI S n G U Ys pt sz sz)
  | 0, k, T, Ys, pt, sz, hW, hF, hB, hk, hf => by
    have := hB.le6 hp
    omega
  | N + 1, k, T, Ys, pt, sz, hW, hF, hB, hk, hf => by
    have h6 := hB.le6 hp
    refine v_eq (f_M_measure_L107.eq_2 _ _ _ _) ?_
    by_cases c : k = sz
    · subst c
      refine v_t (nI_le (by omega) (by omega)) ?_
      exact v_some ⟨hW, hF, Ys, pt, k, hB⟩
    · have hk : k < sz := by omega
      refine v_f (nI_ge hk (by omega)) ?_
      refine v_grd (inb_nI (by omega) (by omega)) ?_
      rw [nI_clamp (n := k) (by omega), hB.q k hk]
      refine v_cV (dcx' hp (hB.cf k hk) hF.sm hW) (fun T1 h1 => ?_)
      obtain ⟨w1, g1, n1, c1⟩ := h1
      exact me_L124 hp hr (fun U Ys' pt' sz' a1 a2 a3 a4 => me_L107 hp hr N (k + 1) U Ys' pt' sz' a1 a2 a3 a4 (by omega)) NF 0 T1 Ys pt sz w1 (Fr.tr hF g1 rfl) (hB.cg (fun i => g1.1 60 i rfl) (fun i => g1.1 55 i rfl)) hk n1 c1 (fun y hy => by omega) (by omega) (by have : NF = 100000 := rfl; omega)
