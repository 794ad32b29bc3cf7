/-! ===== the class: prove; the first MOVE down ===== -/
theorem ip_L14 {S : SS} {w W k z : Nat} (hw : QW S w W) (hR : QR S) (hk : k < fcN w * shN w) (hz : z < shN w) : ∀ (N x : Nat), x ≤ 840 → 840 < N + x → Ex2 (f_Potentials_isProved_L14 N (nI k) (nI z) (nI x) S) (fun _ U => U = S)
  | 0, x, hx, hN => by omega
  | N + 1, x, hx, hN => by
    obtain ⟨q1, q2, q5, q6, q7, l4, l5, l6, l7, l8, l9, l0, l1⟩ := id hw
    have q := qn q1 q2
    refine e_eq (f_Potentials_isProved_L14.eq_2 _ _ _ _ _) ?_
    rw [nI_1]
    refine e_grd (inb_nI (by omega) (by omega)) ?_
    obtain ⟨fb, ef, f1, f2, f3⟩ := rg_ex (hR.2.2.2.1 (nI (z + 1)).toNatClampNeg) (by omega)
    rw [ef]
    by_cases c : fb ≤ x
    · exact e_t (nI_le c (by omega)) (e_some rfl)
    · refine e_f (nI_ge (by omega) (by omega)) ?_
      refine e_cE (rax hw hR) (fun r T p => ?_)
      subst p
      refine e_cE (ofx hw.qa hR.2.2.2.2.2) (fun r2 T2 p => ?_)
      obtain ⟨e2, -⟩ := p
      subst e2
      refine e_i (fun _ => e_some rfl) (fun _ => ?_)
      refine e_grd (inb_nI (by omega) (by omega)) ?_
      refine e_i (fun _ => ?_) (fun _ => e_some rfl)
      refine e_nm ?_
      rw [nI_1]
      exact ip_L14 hw hR hk hz N (x + 1) (by omega) (by omega)
theorem ipx {S : SS} {w W k : Nat} (hw : QW S w W) (hR : QR S) (hk : k < fcN w * shN w) : Ex2 (f_Potentials_isProved (nI k) S) (fun _ U => U = S) := by
  obtain ⟨q1, q2, q5, q6, q7, l4, l5, l6, l7, l8, l9, l0, l1⟩ := id hw
  have q := qn q1 q2
  have hm : k % shN w < shN w := Nat.mod_lt _ (by omega)
  refine e_eq (f_Potentials_isProved.eq_1 _ _) ?_
  rw [q7]
  refine e_grd (nI_nz (by omega) (by omega)) ?_
  refine e_nm ?_
  rw [nI_rem (by omega) (by omega) (by omega)]
  refine e_grd (inb_nI (by omega) (by omega)) ?_
  refine e_nm ?_
  obtain ⟨fb, ef, f1, f2, f3⟩ := rg_ex (hR.2.2.2.1 (nI (k % shN w)).toNatClampNeg) (by omega)
  rw [ef]
  exact ip_L14 hw hR hk hm NF fb (by omega) (by have : NF = 100000 := rfl; omega)
theorem pv_L7 {S : SS} {w W : Nat} (hw : QW S w W) (hR : QR S) : ∀ (N k : Nat), k ≤ fcN w * shN w → fcN w * shN w < N + k → Ex2 (f_Potentials_prove_Plans_rooms_L7 N (nI k) S) (fun _ U => U = S)
  | 0, k, hk, hN => by omega
  | N + 1, k, hk, hN => by
    obtain ⟨q1, q2, q5, q6, q7, l4, l5, l6, l7, l8, l9, l0, l1⟩ := id hw
    have q := qn q1 q2
    refine e_eq (f_Potentials_prove_Plans_rooms_L7.eq_2 _ _ _) ?_
    rw [q6, q7, nI_mul]
    by_cases c : k = fcN w * shN w
    · exact e_t (nI_le (by omega) (by omega)) (e_some rfl)
    · have hk' : k < fcN w * shN w := by omega
      refine e_f (nI_ge hk' (by omega)) ?_
      refine e_grd (inb_nI (by omega) (by omega)) ?_
      have go : Ex2 (f_Potentials_prove_Plans_rooms_j41 (fun v0 S => f_Potentials_prove_Plans_rooms_L7 N v0 S) (nI k) S) (fun _ U => U = S) := by
        refine e_eq (f_Potentials_prove_Plans_rooms_j41.eq_1 _ _ _) ?_
        refine e_nm ?_
        rw [nI_1]
        exact pv_L7 hw hR N (k + 1) (by omega) (by omega)
      refine e_i (fun _ => go) (fun _ => ?_)
      refine e_cE (ipx hw hR hk') (fun r T p => ?_)
      subst p
      exact e_i (fun _ => e_some rfl) (fun _ => go)
theorem QW.of {S U : SS} {w W : Nat} (h : QW S w W) (e2 : U.2 = S.2) (e5 : U.1 71 5 = S.1 71 5) (e6 : U.1 71 6 = S.1 71 6) (e7 : U.1 71 7 = S.1 71 7) : QW U w W := by
  obtain ⟨q1, q2, q5, q6, q7, r⟩ := h
  refine ⟨q1, q2, e5.trans q5, e6.trans q6, e7.trans q7, ?_⟩
  rw [e2]
  exact r
theorem QE.of {S U : SS} {w k : Nat} (h : QE S w k) (e : ∀ i, U.1 114 i = S.1 114 i) : QE U w k := fun sh hs => by
  obtain ⟨a, b, c, h1, h2, h3, h4, h5, h6, h7⟩ := h sh hs
  exact ⟨a, b, c, h1, h2, h3, by rw [e]; exact h4, by rw [e]; exact h5, by rw [e]; exact h6, by rw [e]; exact h7⟩
theorem LF.qw {S U : SS} {w W : Nat} (h : QW S w W) (g : LF S U) : QW U w W := h.of g.2 (g.1 71 5 rfl) (g.1 71 6 rfl) (g.1 71 7 rfl)
theorem LF.qe {S U : SS} {w k : Nat} (h : QE S w k) (g : LF S U) : QE U w k := h.of (fun i => g.1 114 i rfl)
theorem pvx {S : SS} {w W : Nat} (hW : WR S) (hR : QR S) (hw : QW S w W) (hE : QE S w (shN w)) : Ex2 (f_Potentials_prove_Plans_rooms S) (fun _ U => LQ U ∧ LF S U) := by
  have q := qn hw.1 hw.2.1
  have q' := qn (Nat.le_refl w) (by have := hw.1; have := hw.2.1; omega : w ≤ 5)
  refine e_eq (f_Potentials_prove_Plans_rooms.eq_1 _) ?_
  refine e_cV (lex hW hR hw hE) (fun T p => ?_)
  obtain ⟨p1, p2⟩ := p
  refine e_mono (pv_L7 (LF.qw hw p2) p1.2 NF 0 (by omega) (by have : NF = 100000 := rfl; omega)) (fun r U e => ?_)
  rw [e]
  exact ⟨p1, p2⟩
theorem ed_L26 {S : SS} {w W z : Nat} {a : Int32} (hw : QW S w W) (hR : QR S) (hz : z < shN w) : ∀ (N x : Nat), x ≤ 840 → 840 < N + x → Ex2 (f_Potentials_entryDown_L26 N a (nI z) (nI x) S) (fun _ U => U = S)
  | 0, x, hx, hN => by omega
  | N + 1, x, hx, hN => by
    obtain ⟨q1, q2, q5, q6, q7, l4, l5, l6, l7, l8, l9, l0, l1⟩ := id hw
    have q := qn q1 q2
    refine e_eq (f_Potentials_entryDown_L26.eq_2 _ _ _ _ _) ?_
    rw [nI_1]
    refine e_grd (inb_nI (by omega) (by omega)) ?_
    obtain ⟨fb, ef, f1, f2, f3⟩ := rg_ex (hR.2.2.2.1 (nI (z + 1)).toNatClampNeg) (by omega)
    rw [ef]
    by_cases c : fb ≤ x
    · exact e_t (nI_le c (by omega)) (e_some rfl)
    · refine e_f (nI_ge (by omega) (by omega)) ?_
      refine e_cE (rax hw hR) (fun r T p => ?_)
      subst p
      refine e_cE (ofx hw.qa hR.2.2.2.2.2) (fun r2 T2 p => ?_)
      obtain ⟨e2, -⟩ := p
      subst e2
      refine e_cE (ofx hw.qa hR.2.2.2.2.2) (fun r3 T3 p => ?_)
      obtain ⟨e3, -⟩ := p
      subst e3
      refine e_i (fun _ => e_some rfl) (fun _ => ?_)
      refine e_nm ?_
      rw [nI_1]
      exact ed_L26 hw hR hz N (x + 1) (by omega) (by omega)
theorem edx {S : SS} {w W : Nat} {a : Int32} (hw : QW S w W) (hR : QR S) : Ex2 (f_Potentials_entryDown a S) (fun _ U => U = S) := by
  obtain ⟨q1, q2, q5, q6, q7, l4, l5, l6, l7, l8, l9, l0, l1⟩ := id hw
  have q := qn q1 q2
  have j18 : ∀ z, z < shN w → Ex2 (f_Potentials_entryDown_j18 a (nI z) S) (fun _ U => U = S) := fun z hz => by
    refine e_eq (f_Potentials_entryDown_j18.eq_1 _ _ _) ?_
    refine e_grd (inb_nI (by omega) (by omega)) ?_
    refine e_nm ?_
    obtain ⟨fb, ef, f1, f2, f3⟩ := rg_ex (hR.2.2.2.1 (nI z).toNatClampNeg) (by omega)
    rw [ef]
    exact ed_L26 hw hR hz NF fb (by omega) (by have : NF = 100000 := rfl; omega)
  refine e_eq (f_Potentials_entryDown.eq_1 _ _) ?_
  refine e_cE (isR hw.qa) (fun r T p => ?_)
  obtain ⟨e, p⟩ := p
  subst e
  rcases p with p | ⟨p, k, k1, rfl⟩
  · exact e_t p (j18 0 (by omega))
  · refine e_f (by rw [p]; decide) ?_
    rw [q7]
    refine e_grd (nI_nz (by omega) (by omega)) ?_
    have q' := qn (Nat.le_refl w) (by omega : w ≤ 5)
    rw [nI_rem (by omega) (by omega) (by omega)]
    exact j18 _ (Nat.mod_lt _ (by omega))
theorem mox {S : SS} {w W : Nat} {a : Int32} (hw : QW S w W) : Ex2 (f_Potentials_moveOf a S) (fun _ U => U = S) := by
  obtain ⟨q1, q2, q5, q6, q7, l4, l5, l6, l7, l8, l9, l0, l1⟩ := id hw
  have q := qn q1 q2
  refine e_eq (f_Potentials_moveOf.eq_1 _ _) ?_
  refine e_i (fun _ => e_some rfl) (fun qa => ?_)
  refine e_i (fun qb => ?_) (fun _ => e_some rfl)
  obtain ⟨j, rfl, -, -, j3⟩ := rg_ex (nlt_l (rgt a) (rgl 0 0 0 rfl) qa) (by omega)
  have hj : j < S.2 117 := (nI_ltJ j3 (by omega)).mp qb
  refine e_grd (inb_nI (by omega) (by omega)) ?_
  exact e_some rfl
/-! ===== the class: filling, and spreading ===== -/
theorem QR.s120 {S U : SS} {j : Nat} {v : Int32} (h : QR S) (hv : rn v 0 6720) (e : U = st S 120 j v) : QR U := by
  obtain ⟨h1, h2, h3, h4, h5, h6⟩ := h
  subst e
  refine ⟨fun i => ?_, fun i => ?_, fun i => ?_, fun i => ?_, fun i => ?_, fun i => ?_⟩
  · rw [st_at, if_neg (by decide)]; exact h1 _
  · rw [st_at, if_neg (by decide)]; exact h2 _
  · rw [st_at, if_neg (by decide)]; exact h3 _
  · rw [st_at, if_neg (by decide)]; exact h4 _
  · rw [st_at, if_neg (by decide)]; exact h5 _
  · rw [st_at, if_pos rfl]
    by_cases c : i = j
    · rw [if_pos c]; exact hv
    · rw [if_neg c]; exact h6 _
theorem fi_L5 {S : SS} {n : Nat} (hn : S.2 120 = n) (h6 : n ≤ 6720) : ∀ (N i : Nat) (T : SS), WR T → QR T → Fr [120] [] S T → i ≤ n → n < N + i → Ew (f_Arrays_fill_53178_Potentials_least_L5 N (-4) (nI i) (nI n) T) (fun U => WR U ∧ QR U ∧ Fr [120] [] S U)
  | 0, i, T, hW, hQ, hF, hi, hN => by omega
  | N + 1, i, T, hW, hQ, hF, hi, hN => by
    refine v_eq (f_Arrays_fill_53178_Potentials_least_L5.eq_2 _ _ _ _ _) ?_
    by_cases c : i = n
    · exact v_t (nI_le (by omega) (by omega)) (v_some ⟨hW, hQ, hF⟩)
    · refine v_f (nI_ge (by omega) (by omega)) ?_
      rw [hF.2]
      refine v_grd (inb_nI (by omega) (by omega)) ?_
      refine v_wrA (fun U e g v => ?_)
      refine v_nm ?_
      rw [nI_1]
      exact fi_L5 hn h6 N (i + 1) U (WR.st (k := 120) hW trivial rfl e) (hQ.s120 (rn4l _ _) e) (Fr.tr hF g rfl) (by omega) (by omega)
theorem fix {S : SS} (hW : WR S) (hQ : QR S) (h6 : S.2 120 ≤ 6720) : Ew (f_Arrays_fill_53178_Potentials_least (-4) S) (fun U => WR U ∧ QR U ∧ Fr [120] [] S U) := by
  refine v_eq (f_Arrays_fill_53178_Potentials_least.eq_1 _ _) ?_
  refine v_nm ?_
  exact fi_L5 rfl h6 NF 0 S hW hQ Fr.rf (by omega) (by have : NF = 100000 := rfl; omega)
/-- the queue: ranks, each with its POTENTIAL -/
def SQ (T : SS) (M t : Nat) : Prop := ∀ i, i < t → ∃ q p, q < M ∧ p ≤ i ∧ T.1 121 i = nI q ∧ T.1 120 q = nI p
def SF (S T : SS) : Prop := Fr [120, 121] [] S T
set_option maxHeartbeats 1000000 in
theorem sp_L105 {S : SS} {K : Int32 → Int32 → SS → Option SS} {V : SS → Prop} {w W h z q : Nat} (hw : QW S w W) (hz : z < shN w) (hq : q < fcN w * shN w) (hK : ∀ U t, WR U → QR U → SF S U → SQ U (fcN w * shN w) t → h < t → t ≤ fcN W * shN W → Ew (K (nI t) (nI (h + 1)) U) V) : ∀ (N x t : Nat) (T : SS), WR T → QR T → SF S T → SQ T (fcN w * shN w) t → T.1 121 h = nI q → h < t → t ≤ fcN W * shN W → x ≤ 840 → 840 < N + x → Ew (f_Potentials_spreadFrom_goal_Plans_rooms_L105 K N (nI t) (nI h) (nI q) (nI z) (nI x) T) V
  | 0, x, t, T, hW, hR, hF, hS, hh, ht, htt, hx, hN => by omega
  | N + 1, x, t, T, hW, hR, hF, hS, hh, ht, htt, hx, hN => by
    have hwT : QW T w W := hw.of hF.2 (hF.1 71 5 rfl) (hF.1 71 6 rfl) (hF.1 71 7 rfl)
    obtain ⟨q1, q2, q5, q6, q7, l4, l5, l6, l7, l8, l9, l0, l1⟩ := id hwT
    have qq := qn q1 q2
    refine v_eq (f_Potentials_spreadFrom_goal_Plans_rooms_L105.eq_2 _ _ _ _ _ _ _ _) ?_
    rw [nI_1]
    refine v_grd (inb_nI (by omega) (by omega)) ?_
    obtain ⟨fb, ef, f1, f2, f3⟩ := rg_ex (hR.2.2.2.1 (nI (z + 1)).toNatClampNeg) (by omega)
    rw [ef]
    by_cases c : fb ≤ x
    · refine v_t (nI_le c (by omega)) ?_
      refine v_nm ?_
      rw [nI_1]
      exact hK T t hW hR hF hS ht htt
    · refine v_f (nI_ge (by omega) (by omega)) ?_
      have go : ∀ (U : SS) (t' : Nat), WR U → QR U → SF S U → SQ U (fcN w * shN w) t' → U.1 121 h = nI q → h < t' → t' ≤ fcN W * shN W → Ew (f_Potentials_spreadFrom_goal_Plans_rooms_j188 (fun v0 v1 v2 v3 v4 S => f_Potentials_spreadFrom_goal_Plans_rooms_L105 K N v0 v1 v2 v3 v4 S) (nI t') (nI h) (nI q) (nI z) (nI x) U) V := fun U t' a1 a2 a3 a4 a5 a6 a7 => by
        refine v_eq (f_Potentials_spreadFrom_goal_Plans_rooms_j188.eq_1 _ _ _ _ _ _ _) ?_
        refine v_nm ?_
        rw [nI_1]
        exact sp_L105 hw hz hq hK N (x + 1) t' U a1 a2 a3 a4 a5 a6 a7 (by omega) (by omega)
      refine v_cE (rax hwT hR) (fun r T1 p => ?_)
      subst p
      refine v_cE (isR hwT.qa) (fun r2 T2 p => ?_)
      obtain ⟨e2, p⟩ := p
      subst e2
      rcases p with p | ⟨p, k, k1, rfl⟩
      · exact v_t p (go T2 t hW hR hF hS hh ht htt)
      · refine v_f (by rw [p]; decide) ?_
        refine v_grd (inb_nI (by omega) (by omega)) ?_
        refine v_i (fun q4 => ?_) (fun _ => go T2 t hW hR hF hS hh ht htt)
        refine v_i (fun _ => go T2 t hW hR hF hS hh ht htt) (fun qt => ?_)
        have htl : t < T2.2 121 := by
          rcases Nat.lt_or_ge t (T2.2 121) with d | d
          · exact d
          · exact absurd (nI_le d (by omega)) qt
        rw [nI_clamp (n := k) (by omega)] at q4 ⊢
        refine v_grd (inb_nI (by omega) (by omega)) ?_
        refine v_grd (inb_nI (by omega) (by omega)) ?_
        rw [nI_clamp (n := q) (by omega)]
        obtain ⟨q', p', s1, s2, s3, s4⟩ := hS h ht
        have eq' : q' = q := nI_inj (by omega) (by omega) (s3.symm.trans hh)
        subst eq'
        rw [s4, nI_1]
        refine v_wrA (fun T3 e3 g3 v3 => ?_)
        have w3 := WR.st (k := 120) hW trivial rfl e3
        have r3 := hR.s120 (Or.inr (rg_nI (j := p' + 1) (by omega) (by omega) (by omega))) e3
        rw [g3.2]
        refine v_grd (inb_nI (by omega) (by omega)) ?_
        rw [nI_clamp (n := t) (by omega)]
        refine v_wrA (fun T4 e4 g4 v4 => ?_)
        have w4 := WR.st (k := 121) w3 trivial rfl e4
        have r4 : QR T4 := r3.fr g4 (fun k hk i => by
          simp only [List.mem_cons, List.mem_nil_iff, or_false] at hk
          rcases hk with rfl | rfl | rfl | rfl | rfl | rfl <;> rfl)
        refine v_nm ?_
        rw [nI_1]
        refine go T4 (t + 1) w4 r4 (Fr.tr (Fr.tr hF g3 rfl) g4 rfl) (fun i hi => ?_) ?_ (by omega) (by omega)
        · by_cases ci : i = t
          · refine ⟨k, p' + 1, k1, by omega, by rw [ci]; exact v4, by rw [g4.1 120 k rfl]; exact v3⟩
          · obtain ⟨q2', p2', b1, b2, b3, b4⟩ := hS i (by omega)
            refine ⟨q2', p2', b1, b2, ?_, ?_⟩
            · rw [e4, st_at, if_pos rfl, if_neg ci, g3.1 121 i rfl]; exact b3
            · rw [g4.1 120 _ rfl, e3, st_at, if_pos rfl, if_neg (fun ck => ?_)]
              · exact b4
              · rw [ck, q4] at b4
                exact absurd b4.symm (nI_m4 (by omega))
        · rw [e4, st_at, if_pos rfl, if_neg (by omega), g3.1 121 h rfl]; exact hh
theorem sp_L57 {S : SS} {w W : Nat} (hw : QW S w W) : ∀ (N h t : Nat) (T : SS), WR T → QR T → SF S T → SQ T (fcN w * shN w) t → h ≤ t → t ≤ fcN W * shN W → 6720 < N + h → Ew (f_Potentials_spreadFrom_goal_Plans_rooms_L57 N (nI t) (nI h) T) (fun U => WR U ∧ QR U ∧ SF S U)
  | 0, h, t, T, hW, hR, hF, hS, hh, ht, hN => by
    have q := qn hw.1 hw.2.1
    omega
  | N + 1, h, t, T, hW, hR, hF, hS, hh, ht, hN => by
    have hwT : QW T w W := hw.of hF.2 (hF.1 71 5 rfl) (hF.1 71 6 rfl) (hF.1 71 7 rfl)
    obtain ⟨q1, q2, q5, q6, q7, l4, l5, l6, l7, l8, l9, l0, l1⟩ := id hwT
    have qq := qn q1 q2
    refine v_eq (f_Potentials_spreadFrom_goal_Plans_rooms_L57.eq_2 _ _ _ _) ?_
    by_cases c : h = t
    · exact v_t (nI_le (by omega) (by omega)) (v_some ⟨hW, hR, hF⟩)
    · have hlt : h < t := by omega
      refine v_f (nI_ge hlt (by omega)) ?_
      refine v_i (fun _ => v_some ⟨hW, hR, hF⟩) (fun _ => ?_)
      refine v_grd (inb_nI (by omega) (by omega)) ?_
      obtain ⟨q, p, s1, s2, s3, s4⟩ := hS h hlt
      rw [nI_clamp (n := h) (by omega), s3]
      refine v_nm ?_
      rw [q7]
      refine v_grd (nI_nz (by omega) (by omega)) ?_
      refine v_nm ?_
      rw [nI_rem (by omega) (by omega) (by omega)]
      have hm : q % shN w < shN w := Nat.mod_lt _ (by omega)
      refine v_grd (inb_nI (by omega) (by omega)) ?_
      refine v_nm ?_
      obtain ⟨fb, ef, f1, f2, f3⟩ := rg_ex (hR.2.2.2.1 (nI (q % shN w)).toNatClampNeg) (by omega)
      rw [ef]
      exact sp_L105 hw hm s1 (fun U t' u1 u2 u3 u4 u5 u6 => sp_L57 hw N (h + 1) t' U u1 u2 u3 u4 (by omega) u6 (by omega)) NF fb t T hW hR hF hS s3 hlt ht (by omega) (by have : NF = 100000 := rfl; omega)
