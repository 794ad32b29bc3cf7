/-! ===== ways to stand: their numbers, and the ways out of the numbers ===== -/
/-- the GOAL's WAGONS, ranked -/
def PW (S : SS) (n : Nat) : Prop := PWd S n ∧ ∀ r, r < n → ∃ w, w < 10 ∧ S.1 54 r = nI w
def Sm (S V : SS) : Prop := V.1 0 81 = S.1 0 81 ∧ ∀ j, V.1 54 j = S.1 54 j
theorem Sm.rf {S : SS} : Sm S S := ⟨rfl, fun _ => rfl⟩
theorem Sm.pw {S V : SS} {n : Nat} (h : PW S n) (k : Sm S V) : PW V n := by
  obtain ⟨⟨h1, h2, h3⟩, h4⟩ := h
  refine ⟨⟨k.1.trans h1, h2, fun i j hi hj e => h3 i j hi hj ?_⟩, fun r hr => ?_⟩
  · rw [k.2, k.2] at e; exact e
  · rw [k.2]; exact h4 r hr
theorem Sm.cx {S V : SS} {n : Nat} {X : Cf} (h : CX S n X) (k : Sm S V) : CX V n X := ⟨h.1, h.2.1, fun w hw => by
  obtain ⟨h1, r, hr, e⟩ := h.2.2 w hw
  exact ⟨h1, r, hr, by rw [k.2]; exact e⟩⟩
theorem Sm.cd {S V : SS} {n : Nat} {X : Cf} (k : Sm S V) : cdX V n X = cdX S n X := by
  have e : fX V n X = fX S n X := by
    funext j
    unfold fX rkN
    have : (fun r => (V.1 54 r).toNatClampNeg == (Flat X).getD j 0) = (fun r => (S.1 54 r).toNatClampNeg == (Flat X).getD j 0) := funext fun r => by rw [k.2]
    rw [this]
  unfold cdX
  rw [e]
theorem fX_lt {S : SS} {n : Nat} {X : Cf} (h : CX S n X) {i : Nat} (hi : i < n) : fX S n X i < n ∧ (S.1 54 (fX S n X i)).toNatClampNeg = (Flat X).getD i 0 := by
  have hl : i < (Flat X).length := by rw [flat_len, h.1]; exact hi
  have e : (Flat X).getD i 0 = (Flat X)[i] := by rw [List.getD_eq_getElem?_getD, List.getElem?_eq_getElem hl]; rfl
  obtain ⟨h1, r, hr, er⟩ := h.2.2 ((Flat X)[i]) (List.count_pos_iff.mpr (List.getElem_mem hl))
  unfold fX
  refine rkN_ok hr ?_
  rw [er, e, nI_clamp (by omega)]
theorem fX_inj {S : SS} {n : Nat} {X : Cf} (h : CX S n X) {i j : Nat} (hi : i < n) (hj : j < n) (e : fX S n X i = fX S n X j) : i = j := by
  have a := (fX_lt h hi).2
  have b := (fX_lt h hj).2
  rw [e] at a
  have q := a.symm.trans b
  have hl : i < (Flat X).length := by rw [flat_len, h.1]; exact hi
  have hm : j < (Flat X).length := by rw [flat_len, h.1]; exact hj
  exact (List.getD_inj hl hm (List.nodup_iff_count.mpr h.2.1)).mp q
/-- a way to stand that some world has -/
def Cn (S : SS) (n : Nat) (X : Cf) : Prop := CX S n X ∧ Fit (rmN S) X ∧ ∃ V, WR V ∧ NN V ∧ cfS V = X ∧ Sm S V
theorem Cn.far {S : SS} {n : Nat} {X : Cf} (h : Cn S n X) : ∀ s, 4 ≤ s → X s = [] := by
  obtain ⟨V, -, -, e, -⟩ := h.2.2
  intro s hs
  rw [← e]
  exact cfS_far V hs
theorem cd_v {S : SS} {n : Nat} {X : Cf} (hp : PW S n) (h : CX S n X) : cdX S n X ∈ vC n ∧ cdX S n X < 25920 := by
  have hn := hp.1.2.1
  have k := lhI hn (fun i hi => (fX_lt h hi).1) (fun i j hi hj e => fX_inj h hi hj e)
  have t : (X 0).length + (X 1).length + (X 2).length + (X 3).length = n := h.1
  have l := fcN_le hn
  refine ⟨vC_mem hn k.1 (by omega), ?_⟩
  unfold cdX
  have := k.1
  omega
/-- code() tells the number -/
theorem cdx' {S T : SS} {n : Nat} {X : Cf} (hp : PW S n) (h : CX S n X) (k : Sm S T) (hW : WR T) (hN : NN T) (e : cfS T = X) : Ex2 (f_M_code T) (fun r U => WR U ∧ Fr [59] [] T U ∧ r = nI (cdX S n X)) := by
  have hp' := k.pw hp
  have h' : CX T n (cfS T) := by rw [e]; exact k.cx h
  have q := cox hW hp'.1 (rk_fX hp'.2 (cx_in hN h')) (cx_off h')
  rw [cdX_eq, e, k.cd] at q
  exact q
/-- the same without regard to ROOM -/
def Cw (S : SS) (n : Nat) (X : Cf) : Prop := CX S n X ∧ ∃ V, WR V ∧ NN V ∧ cfS V = X ∧ Sm S V
theorem Cn.w {S : SS} {n : Nat} {X : Cf} (h : Cn S n X) : Cw S n X := ⟨h.1, h.2.2⟩
/-- decode() makes the way to stand of a number -/
theorem dcw {S T : SS} {n : Nat} {X : Cf} (hp : PW S n) (h : Cw S n X) (k : Sm S T) (hW : WR T) : Ew (f_M_decode (nI (cdX S n X)) T) (fun U => WR U ∧ Fr [57, 58, 59] [] T U ∧ NN U ∧ cfS U = X) := by
  obtain ⟨hc, V, hV, hN, e, kV⟩ := h
  subst e
  have hp' := kV.pw hp
  have h' : CX V n (cfS V) := kV.cx hc
  have q := dco (T := T) hp'.1 (rk_fX hp'.2 (cx_in hN h')) (cx_off h') (fun i j hi hj e => fX_inj h' hi hj e) (fun i hi => (fX_lt h' hi).1) hW (k.1.trans kV.1.symm) (fun j => (k.2 j).trans (kV.2 j).symm)
  rw [cdX_eq, kV.cd] at q
  refine v_mono q (fun U hU => ?_)
  obtain ⟨u1, u2, u3, u4, u5⟩ := hU
  refine ⟨u1, u2, fun s i hs hi => ?_, u5⟩
  rw [u3 s hs] at hi
  rw [u4 s i hs hi]
  exact hN s i hs hi
theorem dcx' {S T : SS} {n : Nat} {X : Cf} (hp : PW S n) (h : Cn S n X) (k : Sm S T) (hW : WR T) : Ew (f_M_decode (nI (cdX S n X)) T) (fun U => WR U ∧ Fr [57, 58, 59] [] T U ∧ NN U ∧ cfS U = X) := dcw hp h.w k hW
theorem cd_inj {S : SS} {n : Nat} {X Y : Cf} (hp : PW S n) (h : Cn S n X) (k : Cn S n Y) (e : cdX S n X = cdX S n Y) : X = Y := by
  obtain ⟨V, hV, -, -, kV⟩ := h.2.2
  have q := dcx' hp h kV hV
  have r := dcx' hp k kV hV
  rw [e] at q
  obtain ⟨U, -, a, b⟩ := v_and q r
  exact a.2.2.2.symm.trans b.2.2.2
/-- MOVES of such ways are such ways -/
theorem cn_mv {S : SS} {n : Nat} {X Z : Cf} (hr : ∀ s, rmN S s ≤ 10) (h : Cn S n X) (m : Mv (rmN S) X Z) : Cn S n Z := by
  refine ⟨cx_mv h.1 m, m.fit h.2.1, ?_⟩
  obtain ⟨V, hV, hN, e, kV⟩ := h.2.2
  obtain ⟨a, b, c, ha, hb, hab, h1, h2, h3, rfl⟩ := m
  subst e
  rw [cfS_len ha] at h2
  rw [cfS_len hb] at h3
  obtain ⟨U, -, ⟨u1, u2, u3⟩, u4⟩ := shn hV hN ha hb hab h2 (Nat.le_trans h3 (hr b))
  exact ⟨U, u1, u4, u3, (u2.1 0 81 rfl).trans kV.1, fun j => (u2.1 54 j rfl).trans (kV.2 j)⟩
theorem cw_mv {S : SS} {n a b c : Nat} {X : Cf} (h : Cw S n X) (ha : a < 4) (hb : b < 4) (hab : a ≠ b) (h1 : 1 ≤ c) (h2 : c ≤ (X a).length) (h3 : (X b).length + c ≤ 10) : Cw S n (mvd a b c X) := by
  refine ⟨cx_mv h.1 (R := fun _ => 10) ⟨a, b, c, ha, hb, hab, h1, h2, h3, rfl⟩, ?_⟩
  obtain ⟨V, hV, hN, e, kV⟩ := h.2
  subst e
  rw [cfS_len ha] at h2
  rw [cfS_len hb] at h3
  obtain ⟨U, -, ⟨u1, u2, u3⟩, u4⟩ := shn hV hN ha hb hab h2 h3
  exact ⟨U, u1, u4, u3, (u2.1 0 81 rfl).trans kV.1, fun j => (u2.1 54 j rfl).trans (kV.2 j)⟩
theorem Cw.rb {S U : SS} {n : Nat} {X : Cf} (h : Cw S n X) (k : Sm S U) : Cw U n X := by
  obtain ⟨h1, V, v1, v2, v3, v4⟩ := h
  exact ⟨k.cx h1, V, v1, v2, v3, v4.1.trans k.1.symm, fun j => (v4.2 j).trans (k.2 j).symm⟩
