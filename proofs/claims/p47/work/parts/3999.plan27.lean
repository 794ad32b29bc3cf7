/-! ===== code() of whatever stands there: NONE, or a number in range ===== -/
theorem lss_le (f : Nat → Nat) (i : Nat) : ∀ d j, lss f i d j ≤ d
  | 0, j => Nat.le_refl 0
  | d + 1, j => by
    have := lss_le f i d (j + 1)
    show (if f j < f i then 1 else 0) + lss f i d (j + 1) ≤ d + 1
    by_cases c : f j < f i
    · rw [if_pos c]; omega
    · rw [if_neg c]; omega
theorem leh_le (f : Nat → Nat) (n : Nat) : ∀ d i c, i + d = n → leh f n d i c + 1 ≤ (c + 1) * fcN d
  | 0, i, c, h => by
    show c + 1 ≤ (c + 1) * 1
    omega
  | d + 1, i, c, h => by
    have q := leh_le f n d (i + 1) (c * (n - i) + lss f i (n - (i + 1)) (i + 1)) (by omega)
    have l := lss_le f i (n - (i + 1)) (i + 1)
    show leh f n d (i + 1) (c * (n - i) + lss f i (n - (i + 1)) (i + 1)) + 1 ≤ (c + 1) * ((d + 1) * fcN d)
    rw [← Nat.mul_assoc]
    refine Nat.le_trans q (Nat.mul_le_mul_right _ ?_)
    rw [show n - i = d + 1 by omega] at *
    rw [show n - (i + 1) = d by omega] at *
    rw [Nat.succ_mul c (d + 1)]
    omega
theorem cg_L28 {S : SS} {K : Int32 → Int32 → SS → Option (Int32 × SS)} {P : Int32 → SS → Prop} {s : Nat} (hW0 : WR S) (hs : s < 4) (hoff : off S s + mN S s ≤ 5) (hX : ∀ T, WR T → Fr [59] [] S T → P (-4) T) (hK : ∀ T, WR T → Fr [59] [] S T → (∀ j, j < off S s + mN S s → ∃ v, v < 10 ∧ T.1 59 j = nI v) → Ex2 (K (nI (off S s + mN S s)) (nI (s + 1)) T) P) : ∀ (N i : Nat) (T : SS), WR T → Fr [59] [] S T → (∀ j, j < off S s + i → ∃ v, v < 10 ∧ T.1 59 j = nI v) → i ≤ mN S s → mN S s < N + i → Ex2 (f_M_code_L28 K N (nI (off S s + i)) (nI s) (nI i) T) P
  | 0, i, T, hW, hF, hj, hi, hN => by omega
  | N + 1, i, T, hW, hF, hj, hi, hN => by
    obtain ⟨lm, em⟩ := mN_le hW0 s
    refine e_eq (f_M_code_L28.eq_2 _ _ _ _ _ _) ?_
    rw [nI_clamp (n := s) (by omega), hF.1 58 s rfl, em]
    refine e_grd (inb_nI hs (by omega)) ?_
    refine e_i (fun q => ?_) (fun q => ?_)
    · have : i = mN S s := by
        rcases Nat.lt_or_ge i (mN S s) with e | e
        · exact absurd q (nI_ge e (by omega))
        · omega
      subst this
      refine e_nm ?_
      rw [nI_1]
      exact hK T hW hF hj
    · have him : i < mN S s := by
        rcases Nat.lt_or_ge i (mN S s) with e | e
        · exact e
        · exact absurd (nI_le e (by omega)) q
      have e : (10 : Int32) * nI s + nI i = nI (10 * s + i) := by
        rw [show (10 : Int32) * nI s = nI (10 * s) from nI_mul 10 s, nI_add]
      rw [e, nI_clamp (n := 10 * s + i) (by omega)]
      refine e_grd (inb_nI (by omega) (by omega)) ?_
      refine e_cE (t_M_rankOf hW) (fun r T1 h1 => ?_)
      obtain ⟨-, h1, hr⟩ := h1
      have := fr_nil h1
      subst this
      refine e_grd (inb_nI (by omega) (by omega)) ?_
      rw [nI_clamp (n := off S s + i) (by omega)]
      refine e_wrA (fun U eU gU vU => ?_)
      have hW1 := WR.st (k := 59) hW trivial rfl eU
      refine e_grd (inb_nI (by omega) (by omega)) ?_
      rw [vU]
      refine e_i (fun q4 => ?_) (fun q4 => ?_)
      · exact e_some (hX U hW1 (hF.tr gU rfl))
      · obtain ⟨v, v1, v2, v3, v4⟩ := rg_ex (rn.ne hr q4) (by omega)
        refine e_nm ?_
        refine e_nm ?_
        rw [nI_1, nI_1, show off S s + i + 1 = off S s + (i + 1) by omega]
        refine cg_L28 hW0 hs hoff hX hK N (i + 1) U hW1 (hF.tr gU rfl) (fun j hj2 => ?_) (by omega) (by omega)
        rw [eU, st_at, if_pos rfl]
        by_cases c : j = off S s + i
        · rw [if_pos c]; exact ⟨v, by omega, v1⟩
        · rw [if_neg c]; exact hj j (by omega)
theorem pick10 {T : SS} {n : Nat} (h : ∀ j, j < n → ∃ v, v < 10 ∧ T.1 59 j = nI v) : ∀ j, j < n → T.1 59 j = nI ((T.1 59 j).toNatClampNeg) ∧ (T.1 59 j).toNatClampNeg < 10 := fun j hj => by
  obtain ⟨v, v1, v2⟩ := h j hj
  have : (T.1 59 j).toNatClampNeg = v := by rw [v2, nI_clamp (by omega)]
  rw [this]
  exact ⟨v2, v1⟩
theorem cg_L21 {S : SS} {n : Nat} (hW0 : WR S) (hn : n ≤ 5) (hoff : off S 4 = n) : ∀ (N s : Nat) (T : SS), WR T → Fr [59] [] S T → (∀ j, j < off S s → ∃ v, v < 10 ∧ T.1 59 j = nI v) → s ≤ 4 → 4 < N + s → Ex2 (f_M_code_L21 N (nI (off S s)) (nI s) T) (fun r U => WR U ∧ Fr [59] [] S U ∧ rn r 0 25919)
  | 0, s, T, hW, hF, hj, hs, hN => by omega
  | N + 1, s, T, hW, hF, hj, hs, hN => by
    refine e_eq (f_M_code_L21.eq_2 _ _ _ _) ?_
    refine e_i (fun q => ?_) (fun q => ?_)
    · have : s = 4 := by
        rcases Nat.lt_or_ge s 4 with e | e
        · exact absurd q (nI_ge (b := 4) e (by omega))
        · omega
      subst this
      rw [hoff] at hj ⊢
      have pk := pick10 hj
      refine e_mono (co_L92 hW0 hn hW hF Fr.rf pk n 0 0 NF (by omega) (by have : NF = 100000 := rfl; omega)) (fun r U hU => ?_)
      obtain ⟨u1, u2, u3⟩ := hU
      refine ⟨u1, u2, Or.inr ?_⟩
      rw [u3]
      have l := leh_le (fun j => (T.1 59 j).toNatClampNeg) n n 0 0 (by omega)
      have f := fcN_le hn
      have o := off_4 S
      generalize leh (fun j => (T.1 59 j).toNatClampNeg) n n 0 0 = L at l ⊢
      exact rg_nI (by omega) (by omega) (by omega)
    · have hs4 : s < 4 := by
        rcases Nat.lt_or_ge s 4 with e | e
        · exact e
        · exact absurd (nI_le (a := 4) e (by omega)) q
      have hle := off_le S hs4
      have lm := (mN_le hW0 s).1
      refine cg_L28 hW0 hs4 (by omega) (fun T' hW' hF' => ⟨hW', hF', rn4l _ _⟩) (fun T' hW' hF' hj' => ?_) NF 0 T hW hF hj (by omega) (by have : NF = 100000 := rfl; omega)
      exact cg_L21 hW0 hn hoff N (s + 1) T' hW' hF' hj' (by omega) (by omega)
theorem cog {S : SS} {n : Nat} (hW : WR S) (h81 : S.1 0 81 = nI n) (hn : n ≤ 5) : Ex2 (f_M_code S) (fun r U => WR U ∧ Fr [59] [] S U ∧ rn r 0 25919) := by
  refine e_eq (f_M_code.eq_1 _) ?_
  refine e_bnd ?_
  refine e_eq (f_M_sumOf_M_many.eq_1 _) ?_
  refine e_grd rfl ?_
  refine e_grd rfl ?_
  refine e_grd rfl ?_
  refine e_grd rfl ?_
  refine e_some ?_
  rw [show (0 : Int32).toNatClampNeg = 0 by decide, show (1 : Int32).toNatClampNeg = 1 by decide, show (2 : Int32).toNatClampNeg = 2 by decide, show (3 : Int32).toNatClampNeg = 3 by decide, (mN_le hW 0).2, (mN_le hW 1).2, (mN_le hW 2).2, (mN_le hW 3).2, nI_add, nI_add, nI_add, h81]
  have l0 := (mN_le hW 0).1
  have l1 := (mN_le hW 1).1
  have l2 := (mN_le hW 2).1
  have l3 := (mN_le hW 3).1
  refine e_i (fun q => ?_) (fun q => ?_)
  · have := nI_inj (by omega) (by omega) q
    exact cg_L21 hW hn (by rw [off_4]; exact this) NF 0 S hW Fr.rf (fun j hj => absurd hj (by show ¬ j < 0; omega)) (by omega) (by have : NF = 100000 := rfl; omega)
  · exact e_some ⟨hW, Fr.rf, rn4l _ _⟩
/-! ===== proves and check ===== -/
def PF (B T : SS) : Prop := Fr [57, 58, 59] [] B T
theorem PF.sm {S T : SS} (h : PF S T) : Sm S T := ⟨h.1 0 81 rfl, fun j => h.1 54 j rfl⟩
set_option maxHeartbeats 1000000 in
theorem pr_L97 {B : SS} {K : Int32 → Int32 → SS → Option (Int32 × SS)} {P : Int32 → SS → Prop} {n c : Nat} {X : Cf} (hp : PW B n) (hX : Cw B n X) (hc : c < 25920) (hK : ∀ U b, WR U → PF B U → Ex2 (K (bI b) (nI (c + 1)) U) P) : ∀ (N x : Nat) (b : Bool) (T : SS), WR T → PF B T → NN T → cfS T = X → x ≤ 80 → 80 < N + x → Ex2 (f_M_proves_L97 K N (bI b) (nI c) (nI x) T) P
  | 0, x, b, T, hW, hF, hN, hC, hx, hf => by omega
  | N + 1, x, b, T, hW, hF, hN, hC, hx, hf => by
    have out : Ex2 (f_M_proves_j214 K (bI b) (nI c) T) P := by
      refine e_eq (f_M_proves_j214.eq_1 _ _ _ _) ?_
      refine e_nm ?_
      rw [nI_1]
      exact hK T b hW hF
    refine e_eq (f_M_proves_L97.eq_2 _ _ _ _ _ _) ?_
    by_cases c8 : x = 80
    · subst c8
      exact e_t (nI_le (a := 80) (by omega) (by omega)) out
    · have hx8 : x < 80 := by omega
      refine e_f (nI_ge (b := 80) hx8 (by omega)) ?_
      refine e_i (fun _ => out) (fun _ => ?_)
      rw [x_20 hx8, x_4 hx8, x_5 hx8]
      refine e_nm ?_
      refine e_nm ?_
      refine e_nm ?_
      have go : ∀ (b' : Bool) (T' : SS), WR T' → PF B T' → NN T' → cfS T' = X → Ex2 (f_M_proves_j208 (fun v0 v1 v2 S => f_M_proves_L97 K N v0 v1 v2 S) (bI b') (nI c) (nI x) T') P := fun b' T' a1 a2 a3 a4 => by
        refine e_eq (f_M_proves_j208.eq_1 _ _ _ _ _) ?_
        refine e_nm ?_
        rw [nI_1]
        exact pr_L97 hp hX hc hK N (x + 1) b' T' a1 a2 a3 a4 (by omega) (by omega)
      have go7 : ∀ (b' : Bool) (T' : SS), WR T' → PF B T' → NN T' → cfS T' = X → Ex2 (f_M_proves_j207 (fun v0 v1 v2 S => f_M_proves_L97 K N v0 v1 v2 S) (nI c) (nI x) (bI b') T') P := fun b' T' a1 a2 a3 a4 => e_eq (f_M_proves_j207.eq_1 _ _ _ _ _) (go b' T' a1 a2 a3 a4)
      have go6 : ∀ (T' : SS), WR T' → PF B T' → NN T' → cfS T' = X → Ex2 (f_M_proves_j206 (fun v0 v1 v2 S => f_M_proves_L97 K N v0 v1 v2 S) (nI c) (nI x) T') P := fun T' a1 a2 a3 a4 => e_eq (f_M_proves_j206.eq_1 _ _ _ _) (go7 false T' a1 a2 a3 a4)
      have ha : x / 20 < 4 := by omega
      have hb : x / 5 % 4 < 4 := by omega
      have la : mN T (x / 20) = (X (x / 20)).length := by rw [← hC, cfS_len ha]
      have lb : mN T (x / 5 % 4) = (X (x / 5 % 4)).length := by rw [← hC, cfS_len hb]
      refine e_cE (mmx hW ha hb (by omega)) (fun r T1 h1 => ?_)
      obtain ⟨e1, h1⟩ := h1
      subst e1
      rcases h1 with ⟨hr0, h1⟩ | ⟨hr1, h1⟩
      · exact e_t hr0 (go b T1 hW hF hN hC)
      · refine e_f (by rw [hr1]; decide) ?_
        obtain ⟨hab, q1, q2, q3⟩ := h1
        have r10 := (rmN_le hW (x / 5 % 4)).1
        have hZ := cw_mv hX ha hb hab q1 (by omega) (by omega)
        generalize hZe : mvd (x / 20) (x / 5 % 4) (x % 5 + 1) X = Z at hZ
        refine e_cV (shn hW hN ha hb hab (by omega) (by omega)) (fun T2 h2 => ?_)
        obtain ⟨⟨w2, g2, c2⟩, n2⟩ := h2
        rw [hC, hZe] at c2
        have f2 : PF B T2 := Fr.tr hF g2 rfl
        refine e_cE (cdx' hp hZ.1 f2.sm w2 n2 c2) (fun r3 T3 h3 => ?_)
        obtain ⟨w3, g3, e3⟩ := h3
        have f3 : PF B T3 := Fr.tr f2 g3 rfl
        have n3 := nn_cg n2 (fun i => g3.1 57 i rfl) (fun s => g3.1 58 s rfl)
        have c3 : cfS T3 = Z := (cf_cg (fun i => g3.1 57 i rfl) (fun s => g3.1 58 s rfl)).trans c2
        have q2' : x % 5 + 1 ≤ (X (x / 20)).length := by omega
        have z1 : (Z (x / 5 % 4)).length = (X (x / 5 % 4)).length + (x % 5 + 1) := by
          rw [← hZe, mvd_len hab q2', if_neg (Ne.symm hab), if_pos rfl]
        have z2 : (Z (x / 20)).length = (X (x / 20)).length - (x % 5 + 1) := by
          rw [← hZe, mvd_len hab q2', if_pos rfl]
        have y1 : mN T3 (x / 5 % 4) = (Z (x / 5 % 4)).length := by rw [← c3, cfS_len hb]
        have y2 : mN T3 (x / 20) = (Z (x / 20)).length := by rw [← c3, cfS_len ha]
        have l10 : (X (x / 20)).length ≤ 10 := by rw [← la]; exact (mN_le hW _).1
        refine e_cV (shn w3 n3 hb ha (Ne.symm hab) (n := x % 5 + 1) (by omega) (by omega)) (fun T4 h4 => ?_)
        obtain ⟨⟨w4, g4, c4⟩, n4⟩ := h4
        have c4 : cfS T4 = X := by
          rw [c4, c3, ← hZe]
          exact mvd_rev hab q2'
        have f4 : PF B T4 := Fr.tr f3 g4 rfl
        have hv := (cd_v hp hZ.1).2
        subst e3
        refine e_grd (inb_nI hv (by omega)) ?_
        refine e_i (fun _ => go6 T4 w4 f4 n4 c4) (fun _ => ?_)
        refine e_grd (inb_nI hv (by omega)) ?_
        refine e_grd (inb_nI hc (by omega)) ?_
        exact e_i (fun _ => go6 T4 w4 f4 n4 c4) (fun _ => go7 true T4 w4 f4 n4 c4)
theorem pr_L63 {B : SS} {n : Nat} (hp : PW B n) (hB : ∀ c, c < 25920 → 0 ≤ B.1 55 c → ∃ X, Cw B n X ∧ cdX B n X = c) : ∀ (N c : Nat) (b : Bool) (T : SS), WR T → PF B T → c ≤ 25920 → 25920 < N + c → Ex2 (f_M_proves_L63 N (bI b) (nI c) T) (fun r U => WR U ∧ PF B U ∧ rg r 0 1)
  | 0, c, b, T, hW, hF, hc, hN => by omega
  | N + 1, c, b, T, hW, hF, hc, hN => by
    have fin : Ex2 (grd (isB (bI b)) (some (bI b, T))) (fun r U => WR U ∧ PF B U ∧ rg r 0 1) := by
      cases b
      · exact e_grd (by decide) (e_some ⟨hW, hF, rgl 0 0 1 rfl⟩)
      · exact e_grd (by decide) (e_some ⟨hW, hF, rgl 1 0 1 rfl⟩)
    refine e_eq (f_M_proves_L63.eq_2 _ _ _ _) ?_
    by_cases cc : c = 25920
    · subst cc
      exact e_t (nI_le (a := 25920) (by omega) (by omega)) fin
    · have hc2 : c < 25920 := by omega
      refine e_f (nI_ge (b := 25920) hc2 (by omega)) ?_
      refine e_i (fun _ => fin) (fun _ => ?_)
      refine e_grd (inb_nI hc2 (by omega)) ?_
      rw [nI_clamp (n := c) (by omega), hF.1 55 c rfl]
      refine e_i (fun q => ?_) (fun q => ?_)
      · obtain ⟨X, x1, x2⟩ := hB c hc2 q
        have d := dcw hp x1 hF.sm hW
        rw [x2] at d
        refine e_cV d (fun T1 h1 => ?_)
        obtain ⟨w1, g1, n1, c1⟩ := h1
        exact pr_L97 hp x1 hc2 (fun U b' u1 u2 => pr_L63 hp hB N (c + 1) b' U u1 u2 (by omega) (by omega)) NF 0 b T1 w1 (Fr.tr hF g1 rfl) n1 c1 (by omega) (by have : NF = 100000 := rfl; omega)
      · refine e_eq (f_M_proves_j214.eq_1 _ _ _ _) ?_
        refine e_nm ?_
        rw [nI_1]
        exact pr_L63 hp hB N (c + 1) b T hW hF (by omega) (by omega)
theorem prx {S : SS} (hW : WR S) (hI : PI S) (q4 : ¬ S.1 0 76 = -4) (q1 : ¬ S.1 0 76 = 1) : Ex2 (f_M_proves S) (fun r U => WR U ∧ Fr [57, 58, 59] [] S U ∧ rg r 0 1) := by
  obtain ⟨n, m, hp, -, -, -, hB⟩ := hI q4 q1
  have j59 : ∀ (b : Bool) (T : SS), WR T → PF S T → Ex2 (f_M_proves_j59 (bI b) T) (fun r U => WR U ∧ Fr [57, 58, 59] [] S U ∧ rg r 0 1) := fun b T a1 a2 => e_eq (f_M_proves_j59.eq_1 _ _) (pr_L63 hp hB NF 0 b T a1 a2 (by omega) (by have : NF = 100000 := rfl; omega))
  have j58 : ∀ (T : SS), WR T → PF S T → Ex2 (f_M_proves_j58 T) (fun r U => WR U ∧ Fr [57, 58, 59] [] S U ∧ rg r 0 1) := fun T a1 a2 => e_eq (f_M_proves_j58.eq_1 _) (j59 false T a1 a2)
  refine e_eq (f_M_proves.eq_1 _) ?_
  refine e_cV (t_M_take hW) (fun T1 h1 => ?_)
  obtain ⟨w1, g1⟩ := h1
  refine e_cE (cog w1 ((g1.1 0 81 rfl).trans hp.1.1) hp.1.2.1) (fun r2 T2 h2 => ?_)
  obtain ⟨w2, g2, r2r⟩ := h2
  refine e_cV (t_M_take w2) (fun T3 h3 => ?_)
  obtain ⟨w3, g3⟩ := h3
  refine e_cE (cog w3 (by rw [g3.1 0 81 rfl, g2.1 0 81 rfl, g1.1 0 81 rfl]; exact hp.1.1) hp.1.2.1) (fun r4 T4 h4 => ?_)
  obtain ⟨w4, g4, r4r⟩ := h4
  have F4 : PF S T4 := Fr.tr (Fr.tr (Fr.tr (Fr.tr Fr.rf g1 rfl) g2 rfl) g3 rfl) g4 rfl
  refine e_i (fun _ => j58 T4 w4 F4) (fun q2 => ?_)
  refine e_i (fun _ => j58 T4 w4 F4) (fun q4 => ?_)
  refine e_grd (inb_g (rn.ne r2r q2) rfl) ?_
  refine e_i (fun _ => ?_) (fun _ => j58 T4 w4 F4)
  refine e_grd (inb_g (rn.ne r4r q4) rfl) ?_
  exact e_i (fun _ => j59 true T4 w4 F4) (fun _ => j58 T4 w4 F4)
theorem t_M_check {S : SS} (hW : WR S) (hI : PI S) : Ex2 (f_M_check S) (fun r U => WR U ∧ Fr [57, 58, 59] [] S U) := by
  refine e_eq (f_M_check.eq_1 _) ?_
  refine e_i (fun _ => e_some ⟨hW, Fr.rf⟩) (fun q => ?_)
  refine e_cE (t_M_works hW) (fun r1 T1 h1 => ?_)
  obtain ⟨w1, g1, -⟩ := h1
  have F1 : Fr [57, 58, 59] [] S T1 := Fr.tr Fr.rf g1 rfl
  refine e_i (fun _ => e_some ⟨w1, F1⟩) (fun _ => ?_)
  refine e_i (fun _ => e_some ⟨w1, F1⟩) (fun q1 => ?_)
  have I1 : PI T1 := hI.of (fun k hk i => by
    simp only [List.mem_cons, List.mem_nil_iff, or_false] at hk
    rcases hk with rfl | rfl | rfl <;> exact g1.1 _ i rfl) (g1.1 0 76 rfl) (g1.1 0 77 rfl) (g1.1 0 81 rfl)
  refine e_cE (prx w1 I1 (by rw [g1.1 0 76 rfl]; exact q) q1) (fun r2 T2 h2 => ?_)
  obtain ⟨w2, g2, -⟩ := h2
  exact e_i (fun _ => e_some ⟨w2, Fr.tr F1 g2 rfl⟩) (fun _ => e_some ⟨w2, Fr.tr F1 g2 rfl⟩)
