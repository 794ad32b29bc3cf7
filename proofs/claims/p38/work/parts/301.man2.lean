/-! ===== walks by hand: small methods ===== -/
theorem t_M_forget {S : SS} (hW : WR S) : Ew (f_M_forget S) (fun U => WR U ∧ Fr [] [(0, 60), (0, 61)] S U) := by
  refine v_eq (f_M_forget.eq_1 _) ?_
  refine v_wrO (fun T eT hT vT => ?_)
  refine v_wrO (fun U eU hU vU => ?_)
  have hR : RO U := RO.st (k := 0) (i := 61) (RO.st (k := 0) (i := 60) hW.1 (rgl 0 0 8 rfl) eT) (rgl 0 0 8 rfl) eU
  have hF : Fr [] [(0, 60), (0, 61)] S U := (Fr.tr Fr.rf hT rfl).tr hU rfl
  refine v_some ⟨⟨hR, ?_, hW.2.2.of (hF.1 64 6 rfl) (hF.1 64 7 rfl)⟩, hF⟩
  obtain ⟨n, hn, h29, hA, -⟩ := hW.2.1
  refine ⟨n, hn, (hF.1 0 29 rfl).trans h29, ?_, 0, 0, by omega, (hU.1 0 60 rfl).trans vT, vU, fun s hs => by omega, fun s hs => by omega⟩
  rw [show U.1 23 = S.1 23 from funext fun b => hF.1 23 b rfl]
  exact hA
theorem t_History_forget {S : SS} (hW : WR S) : Ew (f_History_forget S) (fun U => WR U ∧ Fr [] [(64, 6), (64, 7)] S U) := by
  refine v_eq (f_History_forget.eq_1 _) ?_
  refine v_wrO (fun T eT hT vT => ?_)
  refine v_wrO (fun U eU hU vU => ?_)
  have hR : RO U := RO.st (k := 64) (i := 7) (RO.st (k := 64) (i := 6) hW.1 (rgl 0 0 8 rfl) eT) (rgl 0 0 8 rfl) eU
  have hF : Fr [] [(64, 6), (64, 7)] S U := (Fr.tr Fr.rf hT rfl).tr hU rfl
  refine v_some ⟨⟨hR, hW.2.1.of (fun b => hF.1 23 b rfl) (fun b => hF.1 40 b rfl) (hF.1 0 29 rfl) (hF.1 0 60 rfl) (hF.1 0 61 rfl), ?_⟩, hF⟩
  unfold J2
  rw [(hU.1 64 6 rfl).trans vT, vU]
  decide
theorem loaded_l {S0 : SS} : ∀ (n x i : Nat) (v : Int32) (S : SS), WR S → Fr [] [] S0 S → x ≤ 71 → i ≤ 20 → rg v 0 (100 + 120 * i) → 20 < n + i → Ex2 (f_M_loaded_L9 n (nI x) v (nI i) S) (fun r U => WR U ∧ Fr [] [] S0 U ∧ rg r 0 2500)
  | 0, x, i, v, S, hW, hF, hx, hi, hv, hn => by omega
  | n + 1, x, i, v, S, hW, hF, hx, hi, hv, hn => by
    refine e_eq (f_M_loaded_L9.eq_2 _ _ _ _ _) ?_
    refine e_grd (inb_nI (by omega) (by omega)) ?_
    refine e_i (fun q => ?_) (fun q => ?_)
    · exact e_some ⟨hW, hF, hv.1, by have := hv.2; omega⟩
    · have h35 := (rn.toR (ro_35 hW (nI x).toNatClampNeg) rfl : rg _ (-4) 20)
      have hi2 : i < 20 := by
        rw [Int32.le_iff_toInt_le, nI_toInt (by omega)] at q
        have := h35.2
        omega
      have e : (20 : Int32) * nI x + nI i = nI (20 * x + i) := by
        rw [show (20 : Int32) * nI x = nI (20 * x) from nI_mul 20 x, nI_add]
      refine e_grd (by rw [e]; exact inb_nI (by omega) (by omega)) ?_
      refine e_nmG (fun z hz => ?_)
      refine e_nmG (fun w hw => ?_)
      rw [nI_1] at hw
      subst hw
      have h37 := ro_37 hW ((20 : Int32) * nI x + nI i).toNatClampNeg
      refine loaded_l n x (i + 1) z S hW hF hx (by omega) ?_ (by omega)
      rw [hz]
      have a1 := hv.1; have a2 := hv.2; have b1 := h37.1; have b2 := h37.2
      unfold rg
      rw [Int32.toInt_add, bm (by omega) (by omega)]
      omega
theorem t_M_loaded {a1 : Int32} {S : SS} (hW : WR S) (h0 : rg a1 0 71) : Ex2 (f_M_loaded a1 S) (fun r U => WR U ∧ Fr [] [] S U ∧ rg r 0 2500) := by
  obtain ⟨x, rfl, hx0, hx1, hx2⟩ := rg_ex h0 (by omega)
  refine e_eq (f_M_loaded.eq_1 _ _) ?_
  refine e_grd (inb_nI (by omega) (by omega)) ?_
  refine e_nmG (fun z hz => ?_)
  have h29 := ro_29 hW (nI x).toNatClampNeg
  exact loaded_l NF x 0 z S hW Fr.rf (by omega) (by omega) (by rw [hz]; exact h29.sub rfl) (by have : NF = 100000 := rfl; omega)
theorem t_M_log {a1 : Int32} {a2 : Int32} {S : SS} (hW : WR S) : Ex2 (f_M_log a1 a2 S) (fun r U => WR U ∧ Fr [] [] S U ∧ True) := by
  refine e_eq (f_M_log.eq_1 _ _ _) ?_
  refine e_i (fun q1 => e_some ⟨hW, Fr.rf, trivial⟩) (fun q1 => ?_)
  refine e_i (fun q2 => e_some ⟨hW, Fr.rf, trivial⟩) (fun q2 => ?_)
  refine e_i (fun q3 => ?_) (fun q3 => e_some ⟨hW, Fr.rf, trivial⟩)
  refine e_i (fun q4 => e_some ⟨hW, Fr.rf, trivial⟩) (fun q4 => ?_)
  refine e_i (fun q5 => ?_) (fun q5 => e_some ⟨hW, Fr.rf, trivial⟩)
  have h := ro_0_62 hW
  have hr : rg ((S.1 0 62 - 1) - a1) 0 600 := by
    rw [Int32.lt_iff_toInt_lt, Int32.toInt_zero] at q1
    rw [Int32.lt_iff_toInt_lt] at q5
    have h1 := h.1; have h2 := h.2
    have e1 : (1 : Int32).toInt = 1 := by decide
    unfold rg
    rw [Int32.toInt_sub, Int32.toInt_sub, e1, bm (z := (S.1 0 62).toInt - 1) (by omega) (by omega), bm (by omega) (by omega)]
    omega
  have hz := rg_rem 39 40 hr (y := 40) (by decide) rfl
  refine e_nmG (fun z e => ?_)
  have hz := rg_tr hz e
  refine e_i (fun q6 => ?_) (fun q6 => ?_)
  · exact e_grd (inb_g hz rfl) (e_some ⟨hW, Fr.rf, trivial⟩)
  · exact e_grd (inb_g hz rfl) (e_some ⟨hW, Fr.rf, trivial⟩)
set_option maxHeartbeats 1000000 in
theorem fo71 {n : Nat} {c : Nat → Int32} {pos : Nat → Int} {dir : Nat → Nat} (hn : n ≤ 72) (hc : ACw n c pos dir) {S0 : SS} : ∀ (N m x s : Nat) (S : SS), WR S → S.1 23 = c → S.1 0 70 = nI m → x < n → s < 2 → 1 - s = dir x → m + gp pos n (pos x) ≤ n → gp pos n (pos x) < N → Fr [44, 45] [(0, 70)] S0 S → Ew (f_M_follow_L71 N (nI x) (nI s) S) (fun U => WR U ∧ Fr [44, 45] [(0, 70)] S0 U)
  | 0, m, x, s, S, hW, h23, h70, hx, hs, hd, hg, hN, hF => by omega
  | N + 1, m, x, s, S, hW, h23, h70, hx, hs, hd, hg, hN, hF => by
    refine v_eq (f_M_follow_L71.eq_2 _ _ _ _) ?_
    have ei : ((2 : Int32) * nI x + 1) - nI s = nI (2 * x + (1 - s)) := by
      rw [show (2 : Int32) * nI x = nI (2 * x) from nI_mul 2 x, nI_1]
      rcases (show s = 0 ∨ s = 1 by omega) with r | r
      · subst r
        rw [show nI 0 = 0 from rfl, Int32.sub_zero]
      · subst r
        rw [show nI 1 = 1 from rfl, nI_pred]; rfl
    rw [ei, nI_clamp (by omega), h23]
    refine v_grd (inb_nI (by omega) (by omega)) ?_
    refine v_i (fun q => v_some ⟨hW, hF⟩) (fun q => ?_)
    obtain ⟨o, t, ho, ht, e1, e2, e3, e4⟩ := ac_next hc hn hx (s := 1 - s) (by omega) q
    obtain ⟨e5, e6⟩ := e4 hd
    have hgl := gp_lt (pos := pos) ho e5
    refine v_grd (inb_nI (by omega) (by omega)) ?_
    refine v_nm ?_
    rw [e1, sideTo_s h23 (by omega) ht e3, bnd_r, h70]
    refine v_grd (inb_nI (by omega) (by omega)) ?_
    rw [nI_clamp (by omega)]
    refine v_wrA (fun T eT hT vT => ?_)
    have hW1 := wo_44 hW (rg_nI (j := o) (by omega) (by omega) (by omega)) eT
    have h70a : T.1 0 70 = nI m := (hT.1 0 70 rfl).trans h70
    rw [h70a]
    refine v_grd (inb_nI (by omega) (by omega)) ?_
    rw [nI_clamp (by omega)]
    refine v_wrA (fun U eU hU vU => ?_)
    have hW2 := wo_45 hW1 (rg_nI (j := t) (by omega) (by omega) (by omega)) eU
    have h70b : U.1 0 70 = nI m := (hU.1 0 70 rfl).trans h70a
    refine v_wrO (fun V eV hV vV => ?_)
    rw [h70b, nI_1] at eV vV
    have hW3 := wo_0_70 hW2 (rg_nI (j := m + 1) (by omega) (by omega) (by omega)) eV
    have h23' : V.1 23 = c := by
      rw [← h23]; funext b; rw [hV.1 23 b rfl, hU.1 23 b rfl, hT.1 23 b rfl]
    exact fo71 hn hc N (m + 1) o t V hW3 h23' vV ho ht e6 (by omega) (by omega) (((hF.tr hT rfl).tr hU rfl).tr hV rfl)
set_option maxHeartbeats 1000000 in
theorem fo5 {n : Nat} {c : Nat → Int32} {pos : Nat → Int} {dir : Nat → Nat} (hn : n ≤ 72) (hc : ACw n c pos dir) {S0 : SS} : ∀ (N x s : Nat) (S : SS), WR S → S.1 23 = c → x < n → s < 2 → s = dir x → gp pos n (pos x) < N → Fr [44, 45] [(0, 70)] S0 S → Ew (f_M_follow_L5 N (nI x) (nI s) S) (fun U => WR U ∧ Fr [44, 45] [(0, 70)] S0 U)
  | 0, x, s, S, hW, h23, hx, hs, hd, hN, hF => by omega
  | N + 1, x, s, S, hW, h23, hx, hs, hd, hN, hF => by
    refine v_eq (f_M_follow_L5.eq_2 _ _ _ _) ?_
    rw [n2, nI_clamp (by omega), h23]
    refine v_grd (inb_nI (by omega) (by omega)) ?_
    refine v_i (fun q => ?_) (fun q => ?_)
    · refine v_grd rfl ?_
      refine v_wrA (fun T eT hT vT => ?_)
      have hW1 := wo_44 hW (rg_nI (j := x) (by omega) (by omega) (by omega)) eT
      refine v_grd rfl ?_
      refine v_wrA (fun U eU hU vU => ?_)
      have hW2 := wo_45 hW1 (rg_nI (j := s) (by omega) (by omega) (by omega)) eU
      refine v_wrO (fun V eV hV vV => ?_)
      have hW3 := wo_0_70 hW2 (rgl 1 0 72 rfl) eV
      have h23' : V.1 23 = c := by
        rw [← h23]; funext b; rw [hV.1 23 b rfl, hU.1 23 b rfl, hT.1 23 b rfl]
      exact fo71 hn hc.flip NF 1 x s V hW3 h23' vV hx hs (by show 1 - s = 1 - dir x; omega) (by have := gp_n (pos := fun x => - pos x) hx; omega) (by have := gp_n (pos := fun x => - pos x) hx; have : NF = 100000 := rfl; omega) (((hF.tr hT rfl).tr hU rfl).tr hV rfl)
    · obtain ⟨o, t, ho, ht, e1, e2, e3, e4⟩ := ac_next hc hn hx hs q
      obtain ⟨e5, e6⟩ := e4 hd
      have hgl := gp_lt (pos := pos) ho e5
      refine v_grd (inb_nI (by omega) (by omega)) ?_
      refine v_nm ?_
      rw [e1, sideTo_s h23 (by omega) ht e3, bnd_r]
      refine v_nm ?_
      rw [n1m ht]
      exact fo5 hn hc N o (1 - t) S hW h23 ho (by omega) e6 (by omega) hF
theorem t_M_follow {a1 : Int32} {a2 : Int32} {S : SS} (hW : WR S) (h0 : rg a1 0 71) (h1 : rg a2 0 1) (hl0 : ¬ S.1 0 29 ≤ a1) : Ew (f_M_follow a1 a2 S) (fun U => WR U ∧ Fr [44, 45] [(0, 70)] S U) := by
  obtain ⟨x, rfl, hx0, hx1, hx2⟩ := rg_ex h0 (by omega)
  obtain ⟨s, rfl, hs0, hs1, hs2⟩ := rg_ex h1 (by omega)
  obtain ⟨n, hn, h29, hA, -⟩ := hW.2.1
  have hx : x < n := lm_n h29 hn (by omega) hl0
  obtain ⟨pos, dir, hc, hd⟩ := hA.dir x (s := s) (by omega)
  refine v_eq (f_M_follow.eq_1 _ _ _) ?_
  exact fo5 hn hc NF x s S hW rfl hx (by omega) hd (by have := gp_n (pos := pos) hx; have : NF = 100000 := rfl; omega) Fr.rf
