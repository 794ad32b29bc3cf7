section
/-! ===== ways to stand: their numbers, and the ways out of the numbers ===== -/
/-- the GOAL's WAGONS, ranked -/
def PW (S : SS) (n : Nat) : Prop := PWd S n ∧ ∀ r, r < n → ∃ w, w < 10 ∧ S.1 54 r = nI w
def Sm (S V : SS) : Prop := V.1 0 81 = S.1 0 81 ∧ ∀ j, V.1 54 j = S.1 54 j
theorem Sm.rf {S : SS} : Sm S S := ⟨rfl, fun _ => rfl⟩
theorem Sm.pw {S V : SS} {n : Nat} (h : PW S n) (k : Sm S V) : PW V n := by
  obtain ⟨⟨h1, h2, h3⟩, h4⟩ := h
  refine ⟨⟨k.1.trans h1, h2, fun i j hi hj e => h3 i j hi hj ?_⟩, fun r hr => ?_⟩
  · rw [k.2, k.2] at e; exact e
  · rw [k.2]; exact h4 r hr
theorem Sm.cx {S V : SS} {n : Nat} {X : Cf} (h : CX S n X) (k : Sm S V) : CX V n X := ⟨h.1, h.2.1, fun w hw => by
  obtain ⟨h1, r, hr, e⟩ := h.2.2 w hw
  exact ⟨h1, r, hr, by rw [k.2]; exact e⟩⟩
theorem Sm.cd {S V : SS} {n : Nat} {X : Cf} (k : Sm S V) : cdX V n X = cdX S n X := by
  have e : fX V n X = fX S n X := by
    funext j
    unfold fX rkN
    have : (fun r => (V.1 54 r).toNatClampNeg == (Flat X).getD j 0) = (fun r => (S.1 54 r).toNatClampNeg == (Flat X).getD j 0) := funext fun r => by rw [k.2]
    rw [this]
  unfold cdX
  rw [e]
theorem fX_lt {S : SS} {n : Nat} {X : Cf} (h : CX S n X) {i : Nat} (hi : i < n) : fX S n X i < n ∧ (S.1 54 (fX S n X i)).toNatClampNeg = (Flat X).getD i 0 := by
  have hl : i < (Flat X).length := by rw [flat_len, h.1]; exact hi
  have e : (Flat X).getD i 0 = (Flat X)[i] := by rw [List.getD_eq_getElem?_getD, List.getElem?_eq_getElem hl]; rfl
  obtain ⟨h1, r, hr, er⟩ := h.2.2 ((Flat X)[i]) (List.count_pos_iff.mpr (List.getElem_mem hl))
  unfold fX
  refine rkN_ok hr ?_
  rw [er, e, nI_clamp (by omega)]
theorem fX_inj {S : SS} {n : Nat} {X : Cf} (h : CX S n X) {i j : Nat} (hi : i < n) (hj : j < n) (e : fX S n X i = fX S n X j) : i = j := by
  have a := (fX_lt h hi).2
  have b := (fX_lt h hj).2
  rw [e] at a
  have q := a.symm.trans b
  have hl : i < (Flat X).length := by rw [flat_len, h.1]; exact hi
  have hm : j < (Flat X).length := by rw [flat_len, h.1]; exact hj
  exact (List.getD_inj hl hm (List.nodup_iff_count.mpr h.2.1)).mp q
/-- a way to stand that some world has -/
def Cn (S : SS) (n : Nat) (X : Cf) : Prop := CX S n X ∧ Fit (rmN S) X ∧ ∃ V, WR V ∧ NN V ∧ cfS V = X ∧ Sm S V
theorem Cn.far {S : SS} {n : Nat} {X : Cf} (h : Cn S n X) : ∀ s, 4 ≤ s → X s = [] := by
  obtain ⟨V, -, -, e, -⟩ := h.2.2
  intro s hs
  rw [← e]
  exact cfS_far V hs
theorem cd_v {S : SS} {n : Nat} {X : Cf} (hp : PW S n) (h : CX S n X) : cdX S n X ∈ vC n ∧ cdX S n X < 25920 := by
  have hn := hp.1.2.1
  have k := lhI hn (fun i hi => (fX_lt h hi).1) (fun i j hi hj e => fX_inj h hi hj e)
  have t : (X 0).length + (X 1).length + (X 2).length + (X 3).length = n := h.1
  have l := fcN_le hn
  refine ⟨vC_mem hn k.1 (by omega), ?_⟩
  unfold cdX
  have := k.1
  omega
/-- code() tells the number -/
theorem cdx' {S T : SS} {n : Nat} {X : Cf} (hp : PW S n) (h : CX S n X) (k : Sm S T) (hW : WR T) (hN : NN T) (e : cfS T = X) : Ex2 (f_M_code T) (fun r U => WR U ∧ Fr [59] [] T U ∧ r = nI (cdX S n X)) := by
  have hp' := k.pw hp
  have h' : CX T n (cfS T) := by rw [e]; exact k.cx h
  have q := cox hW hp'.1 (rk_fX hp'.2 (cx_in hN h')) (cx_off h')
  rw [cdX_eq, e, k.cd] at q
  exact q
/-- the same without regard to ROOM -/
def Cw (S : SS) (n : Nat) (X : Cf) : Prop := CX S n X ∧ ∃ V, WR V ∧ NN V ∧ cfS V = X ∧ Sm S V
theorem Cn.w {S : SS} {n : Nat} {X : Cf} (h : Cn S n X) : Cw S n X := ⟨h.1, h.2.2⟩
/-- decode() makes the way to stand of a number -/
theorem dcw {S T : SS} {n : Nat} {X : Cf} (hp : PW S n) (h : Cw S n X) (k : Sm S T) (hW : WR T) : Ew (f_M_decode (nI (cdX S n X)) T) (fun U => WR U ∧ Fr [57, 58, 59] [] T U ∧ NN U ∧ cfS U = X) := by
  obtain ⟨hc, V, hV, hN, e, kV⟩ := h
  subst e
  have hp' := kV.pw hp
  have h' : CX V n (cfS V) := kV.cx hc
  have q := dco (T := T) hp'.1 (rk_fX hp'.2 (cx_in hN h')) (cx_off h') (fun i j hi hj e => fX_inj h' hi hj e) (fun i hi => (fX_lt h' hi).1) hW (k.1.trans kV.1.symm) (fun j => (k.2 j).trans (kV.2 j).symm)
  rw [cdX_eq, kV.cd] at q
  refine v_mono q (fun U hU => ?_)
  obtain ⟨u1, u2, u3, u4, u5⟩ := hU
  refine ⟨u1, u2, fun s i hs hi => ?_, u5⟩
  rw [u3 s hs] at hi
  rw [u4 s i hs hi]
  exact hN s i hs hi
theorem dcx' {S T : SS} {n : Nat} {X : Cf} (hp : PW S n) (h : Cn S n X) (k : Sm S T) (hW : WR T) : Ew (f_M_decode (nI (cdX S n X)) T) (fun U => WR U ∧ Fr [57, 58, 59] [] T U ∧ NN U ∧ cfS U = X) := dcw hp h.w k hW
theorem cd_inj {S : SS} {n : Nat} {X Y : Cf} (hp : PW S n) (h : Cn S n X) (k : Cn S n Y) (e : cdX S n X = cdX S n Y) : X = Y := by
  obtain ⟨V, hV, -, -, kV⟩ := h.2.2
  have q := dcx' hp h kV hV
  have r := dcx' hp k kV hV
  rw [e] at q
  obtain ⟨U, -, a, b⟩ := v_and q r
  exact a.2.2.2.symm.trans b.2.2.2
/-- MOVES of such ways are such ways -/
theorem cn_mv {S : SS} {n : Nat} {X Z : Cf} (hr : ∀ s, rmN S s ≤ 10) (h : Cn S n X) (m : Mv (rmN S) X Z) : Cn S n Z := by
  refine ⟨cx_mv h.1 m, m.fit h.2.1, ?_⟩
  obtain ⟨V, hV, hN, e, kV⟩ := h.2.2
  obtain ⟨a, b, c, ha, hb, hab, h1, h2, h3, rfl⟩ := m
  subst e
  rw [cfS_len ha] at h2
  rw [cfS_len hb] at h3
  obtain ⟨U, -, ⟨u1, u2, u3⟩, u4⟩ := shn hV hN ha hb hab h2 (Nat.le_trans h3 (hr b))
  exact ⟨U, u1, u4, u3, (u2.1 0 81 rfl).trans kV.1, fun j => (u2.1 54 j rfl).trans (kV.2 j)⟩
theorem cw_mv {S : SS} {n a b c : Nat} {X : Cf} (h : Cw S n X) (ha : a < 4) (hb : b < 4) (hab : a ≠ b) (h1 : 1 ≤ c) (h2 : c ≤ (X a).length) (h3 : (X b).length + c ≤ 10) : Cw S n (mvd a b c X) := by
  refine ⟨cx_mv h.1 (R := fun _ => 10) ⟨a, b, c, ha, hb, hab, h1, h2, h3, rfl⟩, ?_⟩
  obtain ⟨V, hV, hN, e, kV⟩ := h.2
  subst e
  rw [cfS_len ha] at h2
  rw [cfS_len hb] at h3
  obtain ⟨U, -, ⟨u1, u2, u3⟩, u4⟩ := shn hV hN ha hb hab h2 h3
  exact ⟨U, u1, u4, u3, (u2.1 0 81 rfl).trans kV.1, fun j => (u2.1 54 j rfl).trans (kV.2 j)⟩
theorem Cw.rb {S U : SS} {n : Nat} {X : Cf} (h : Cw S n X) (k : Sm S U) : Cw U n X := by
  obtain ⟨h1, V, v1, v2, v3, v4⟩ := h
  exact ⟨k.cx h1, V, v1, v2, v3, v4.1.trans k.1.symm, fun j => (v4.2 j).trans (k.2 j).symm⟩
end
section
/-! ===== measure's queue ===== -/
def ups {α : Type} (f : Nat → α) (k : Nat) (v : α) (i : Nat) : α := if i = k then v else f i
theorem ups_k {α : Type} (f : Nat → α) (k : Nat) (v : α) : ups f k v k = v := if_pos rfl
theorem ups_n {α : Type} (f : Nat → α) {k i : Nat} (v : α) (h : i ≠ k) : ups f k v i = f i := if_neg h
def BI (S : SS) (n : Nat) (G : Cf) (T : SS) (Ys : Nat → Cf) (pt : Nat → Nat) (sz k : Nat) : Prop := (∀ i, i < sz → Cn S n (Ys i)) ∧ (∀ i, i < sz → T.1 60 i = nI (cdX S n (Ys i))) ∧ (∀ i, i < sz → T.1 55 (cdX S n (Ys i)) = nI (pt i)) ∧ (∀ i j, i < sz → j < sz → cdX S n (Ys i) = cdX S n (Ys j) → i = j) ∧ (∀ c, c < 25920 → (∀ i, i < sz → cdX S n (Ys i) ≠ c) → T.1 55 c = -1) ∧ (0 < sz) ∧ (Ys 0 = G) ∧ (pt 0 = 0) ∧ (∀ i, i < sz → pt i ≤ i) ∧ (∀ i j, i ≤ j → j < sz → pt i ≤ pt j) ∧ (∀ j, j < sz → k < sz → pt j ≤ pt k + 1) ∧ (∀ i, i < k → i < sz → ∀ Z, Mv (rmN S) (Ys i) Z → ∃ j, j < sz ∧ Ys j = Z ∧ pt j ≤ pt i + 1) ∧ (∀ j, j < sz → 0 < pt j → ∃ i, i < sz ∧ pt i + 1 = pt j ∧ Mv (rmN S) (Ys j) (Ys i)) ∧ (∀ i, i < sz → ∃ m, Rc (rmN S) m G (Ys i))
theorem BI.cf {S : SS} {n : Nat} {G : Cf} {T : SS} {Ys : Nat → Cf} {pt : Nat → Nat} {sz k : Nat} (h : BI S n G T Ys pt sz k) : ∀ i, i < sz → Cn S n (Ys i) := h.1
theorem BI.q {S : SS} {n : Nat} {G : Cf} {T : SS} {Ys : Nat → Cf} {pt : Nat → Nat} {sz k : Nat} (h : BI S n G T Ys pt sz k) : ∀ i, i < sz → T.1 60 i = nI (cdX S n (Ys i)) := h.2.1
theorem BI.p {S : SS} {n : Nat} {G : Cf} {T : SS} {Ys : Nat → Cf} {pt : Nat → Nat} {sz k : Nat} (h : BI S n G T Ys pt sz k) : ∀ i, i < sz → T.1 55 (cdX S n (Ys i)) = nI (pt i) := h.2.2.1
theorem BI.inj {S : SS} {n : Nat} {G : Cf} {T : SS} {Ys : Nat → Cf} {pt : Nat → Nat} {sz k : Nat} (h : BI S n G T Ys pt sz k) : ∀ i j, i < sz → j < sz → cdX S n (Ys i) = cdX S n (Ys j) → i = j := h.2.2.2.1
theorem BI.out {S : SS} {n : Nat} {G : Cf} {T : SS} {Ys : Nat → Cf} {pt : Nat → Nat} {sz k : Nat} (h : BI S n G T Ys pt sz k) : ∀ c, c < 25920 → (∀ i, i < sz → cdX S n (Ys i) ≠ c) → T.1 55 c = -1 := h.2.2.2.2.1
theorem BI.z0 {S : SS} {n : Nat} {G : Cf} {T : SS} {Ys : Nat → Cf} {pt : Nat → Nat} {sz k : Nat} (h : BI S n G T Ys pt sz k) : 0 < sz := h.2.2.2.2.2.1
theorem BI.z1 {S : SS} {n : Nat} {G : Cf} {T : SS} {Ys : Nat → Cf} {pt : Nat → Nat} {sz k : Nat} (h : BI S n G T Ys pt sz k) : Ys 0 = G := h.2.2.2.2.2.2.1
theorem BI.z2 {S : SS} {n : Nat} {G : Cf} {T : SS} {Ys : Nat → Cf} {pt : Nat → Nat} {sz k : Nat} (h : BI S n G T Ys pt sz k) : pt 0 = 0 := h.2.2.2.2.2.2.2.1
theorem BI.le {S : SS} {n : Nat} {G : Cf} {T : SS} {Ys : Nat → Cf} {pt : Nat → Nat} {sz k : Nat} (h : BI S n G T Ys pt sz k) : ∀ i, i < sz → pt i ≤ i := h.2.2.2.2.2.2.2.2.1
theorem BI.mono {S : SS} {n : Nat} {G : Cf} {T : SS} {Ys : Nat → Cf} {pt : Nat → Nat} {sz k : Nat} (h : BI S n G T Ys pt sz k) : ∀ i j, i ≤ j → j < sz → pt i ≤ pt j := h.2.2.2.2.2.2.2.2.2.1
theorem BI.near {S : SS} {n : Nat} {G : Cf} {T : SS} {Ys : Nat → Cf} {pt : Nat → Nat} {sz k : Nat} (h : BI S n G T Ys pt sz k) : ∀ j, j < sz → k < sz → pt j ≤ pt k + 1 := h.2.2.2.2.2.2.2.2.2.2.1
theorem BI.sp {S : SS} {n : Nat} {G : Cf} {T : SS} {Ys : Nat → Cf} {pt : Nat → Nat} {sz k : Nat} (h : BI S n G T Ys pt sz k) : ∀ i, i < k → i < sz → ∀ Z, Mv (rmN S) (Ys i) Z → ∃ j, j < sz ∧ Ys j = Z ∧ pt j ≤ pt i + 1 := h.2.2.2.2.2.2.2.2.2.2.2.1
theorem BI.par {S : SS} {n : Nat} {G : Cf} {T : SS} {Ys : Nat → Cf} {pt : Nat → Nat} {sz k : Nat} (h : BI S n G T Ys pt sz k) : ∀ j, j < sz → 0 < pt j → ∃ i, i < sz ∧ pt i + 1 = pt j ∧ Mv (rmN S) (Ys j) (Ys i) := h.2.2.2.2.2.2.2.2.2.2.2.2.1
theorem BI.rch {S : SS} {n : Nat} {G : Cf} {T : SS} {Ys : Nat → Cf} {pt : Nat → Nat} {sz k : Nat} (h : BI S n G T Ys pt sz k) : ∀ i, i < sz → ∃ m, Rc (rmN S) m G (Ys i) := h.2.2.2.2.2.2.2.2.2.2.2.2.2
theorem BI.cg {S : SS} {n : Nat} {G : Cf} {T U : SS} {Ys : Nat → Cf} {pt : Nat → Nat} {sz k : Nat} (h : BI S n G T Ys pt sz k) (e1 : ∀ i, U.1 60 i = T.1 60 i) (e2 : ∀ i, U.1 55 i = T.1 55 i) : BI S n G U Ys pt sz k :=
  ⟨h.cf, fun i hi => (e1 i).trans (h.q i hi), fun i hi => (e2 _).trans (h.p i hi), h.inj, fun c hc k => (e2 c).trans (h.out c hc k), h.z0, h.z1, h.z2, h.le, h.mono, h.near, h.sp, h.par, h.rch⟩
theorem BI.lt {S : SS} {n : Nat} {G : Cf} {T : SS} {Ys : Nat → Cf} {pt : Nat → Nat} {sz k : Nat} {Z : Cf} (hp : PW S n) (h : BI S n G T Ys pt sz k) (hZ : Cn S n Z) (hn : ∀ i, i < sz → cdX S n (Ys i) ≠ cdX S n Z) : sz < 6720 := by
  have q := php (vC n) (sz + 1) (fun i => cdX S n (ups Ys sz Z i)) (fun i hi => ?_) (fun i j hi hj e => ?_)
  · have := vC_len hp.1.2.1
    omega
  · show cdX S n (ups Ys sz Z i) ∈ vC n
    by_cases c : i = sz
    · rw [c, ups_k]; exact (cd_v hp hZ.1).1
    · rw [ups_n _ _ c]; exact (cd_v hp (h.cf i (by omega)).1).1
  · have e : cdX S n (ups Ys sz Z i) = cdX S n (ups Ys sz Z j) := e
    by_cases c : i = sz
    · by_cases d : j = sz
      · omega
      · rw [c, ups_k, ups_n _ _ d] at e
        exact absurd e.symm (hn j (by omega))
    · by_cases d : j = sz
      · rw [d, ups_k, ups_n _ _ c] at e
        exact absurd e (hn i (by omega))
      · rw [ups_n _ _ c, ups_n _ _ d] at e
        exact h.inj i j (by omega) (by omega) e
theorem BI.le6 {S : SS} {n : Nat} {G : Cf} {T : SS} {Ys : Nat → Cf} {pt : Nat → Nat} {sz k : Nat} (hp : PW S n) (h : BI S n G T Ys pt sz k) : sz ≤ 6720 := by
  have q := php (vC n) sz (fun i => cdX S n (Ys i)) (fun i hi => (cd_v hp (h.cf i hi).1).1) (fun i j hi hj e => h.inj i j hi hj e)
  have := vC_len hp.1.2.1
  omega
theorem BI.add {S : SS} {n : Nat} {G : Cf} {T U : SS} {Ys : Nat → Cf} {pt : Nat → Nat} {sz k : Nat} {Z : Cf} (h : BI S n G T Ys pt sz k) (hk : k < sz) (hZ : Cn S n Z) (hm : Mv (rmN S) (Ys k) Z) (hn : ∀ i, i < sz → cdX S n (Ys i) ≠ cdX S n Z) (e1 : ∀ i, U.1 60 i = if i = sz then nI (cdX S n Z) else T.1 60 i) (e2 : ∀ i, U.1 55 i = if i = cdX S n Z then nI (pt k + 1) else T.1 55 i) : BI S n G U (ups Ys sz Z) (ups pt sz (pt k + 1)) (sz + 1) k := by
  have hz := h.z0
  have o : ∀ i, i < sz → ups Ys sz Z i = Ys i := fun i hi => ups_n _ _ (by omega)
  have o2 : ∀ i, i < sz → ups pt sz (pt k + 1) i = pt i := fun i hi => ups_n _ _ (by omega)
  refine ⟨fun i hi => ?_, fun i hi => ?_, fun i hi => ?_, fun i j hi hj e => ?_, fun c hc d => ?_, by omega, (o 0 hz).trans h.z1, (o2 0 hz).trans h.z2, fun i hi => ?_, fun i j hij hj => ?_, fun j hj _ => ?_, fun i hi hs W hW => ?_, fun j hj hpj => ?_, fun i hi => ?_⟩
  · by_cases c : i = sz
    · rw [c, ups_k]; exact hZ
    · rw [o i (by omega)]; exact h.cf i (by omega)
  · rw [e1]
    by_cases c : i = sz
    · rw [if_pos c, c, ups_k]
    · rw [if_neg c, o i (by omega)]; exact h.q i (by omega)
  · rw [e2]
    by_cases c : i = sz
    · rw [c, ups_k, ups_k, if_pos rfl]
    · rw [o i (by omega), o2 i (by omega), if_neg (hn i (by omega))]; exact h.p i (by omega)
  · by_cases c : i = sz
    · by_cases d : j = sz
      · omega
      · rw [c, ups_k, o j (by omega)] at e
        exact absurd e.symm (hn j (by omega))
    · by_cases d : j = sz
      · rw [d, ups_k, o i (by omega)] at e
        exact absurd e (hn i (by omega))
      · rw [o i (by omega), o j (by omega)] at e
        exact h.inj i j (by omega) (by omega) e
  · have d1 := d sz (by omega)
    rw [ups_k] at d1
    rw [e2, if_neg (Ne.symm d1)]
    refine h.out c hc (fun i hi => ?_)
    have := d i (by omega)
    rw [o i hi] at this
    exact this
  · by_cases c : i = sz
    · rw [c, ups_k]; have := h.le k hk; omega
    · rw [o2 i (by omega)]; exact h.le i (by omega)
  · by_cases c : j = sz
    · rw [c, ups_k]
      by_cases d : i = sz
      · rw [d, ups_k]; exact Nat.le_refl _
      · rw [o2 i (by omega)]; exact h.near i (by omega) hk
    · rw [o2 j (by omega), o2 i (by omega)]; exact h.mono i j hij (by omega)
  · rw [o2 k hk]
    by_cases c : j = sz
    · rw [c, ups_k]; exact Nat.le_refl _
    · rw [o2 j (by omega)]; exact h.near j (by omega) hk
  · rw [o i (by omega)] at hW
    rw [o2 i (by omega)]
    obtain ⟨j, h1, h2, h3⟩ := h.sp i hi (by omega) W hW
    exact ⟨j, by omega, (o j h1).trans h2, by rw [o2 j h1]; exact h3⟩
  · by_cases c : j = sz
    · refine ⟨k, by omega, ?_, ?_⟩
      · rw [c, ups_k, o2 k hk]
      · rw [c, ups_k, o k hk]
        exact hm.rev (h.cf k hk).2.1
    · rw [o2 j (by omega)] at hpj ⊢
      obtain ⟨i, h1, h2, h3⟩ := h.par j (by omega) hpj
      exact ⟨i, by omega, by rw [o2 i h1]; exact h2, by rw [o j (by omega), o i h1]; exact h3⟩
  · by_cases c : i = sz
    · obtain ⟨m, hr⟩ := h.rch k hk
      rw [c, ups_k]
      exact ⟨m + 1, hr.trans (Rc.one hm)⟩
    · rw [o i (by omega)]; exact h.rch i (by omega)
/-- the place ahead is fully spread: on to the next -/
theorem BI.nx {S : SS} {n : Nat} {G : Cf} {T : SS} {Ys : Nat → Cf} {pt : Nat → Nat} {sz k : Nat} (h : BI S n G T Ys pt sz k) (hk : k < sz) (hs : ∀ Z, Mv (rmN S) (Ys k) Z → ∃ j, j < sz ∧ Ys j = Z) : BI S n G T Ys pt sz (k + 1) := by
  refine ⟨h.cf, h.q, h.p, h.inj, h.out, h.z0, h.z1, h.z2, h.le, h.mono, fun j hj hk1 => ?_, fun i hi hsz Z hZ => ?_, h.par, h.rch⟩
  · have := h.near j hj hk
    have := h.mono k (k + 1) (by omega) hk1
    omega
  · by_cases c : i = k
    · subst c
      obtain ⟨j, h1, h2⟩ := hs Z hZ
      exact ⟨j, h1, h2, h.near j h1 hk⟩
    · exact h.sp i (by omega) hsz Z hZ
/-- what one MOVE of the 80 is -/
def Mvn (R : Nat → Nat) (x : Nat) (X Z : Cf) : Prop := x / 20 ≠ x / 5 % 4 ∧ x % 5 + 1 ≤ (X (x / 20)).length ∧ (X (x / 5 % 4)).length + (x % 5 + 1) ≤ R (x / 5 % 4) ∧ Z = mvd (x / 20) (x / 5 % 4) (x % 5 + 1) X
theorem mvn_mv {R : Nat → Nat} {x : Nat} {X Z : Cf} (hx : x < 80) (h : Mvn R x X Z) : Mv R X Z := ⟨x / 20, x / 5 % 4, x % 5 + 1, by omega, by omega, h.1, by omega, h.2.1, h.2.2.1, h.2.2.2⟩
theorem mv_mvn {R : Nat → Nat} {X Z : Cf} (ht : tot X ≤ 5) (h : Mv R X Z) : ∃ x, x < 80 ∧ Mvn R x X Z := by
  obtain ⟨a, b, m, ha, hb, hab, h1, h2, h3, rfl⟩ := h
  have hm : m ≤ 5 := by
    unfold tot at ht
    rcases (show a = 0 ∨ a = 1 ∨ a = 2 ∨ a = 3 by omega) with rfl | rfl | rfl | rfl <;> omega
  have e1 : (a * 20 + b * 5 + (m - 1)) / 20 = a := by omega
  have e2 : (a * 20 + b * 5 + (m - 1)) / 5 % 4 = b := by omega
  have e3 : (a * 20 + b * 5 + (m - 1)) % 5 + 1 = m := by omega
  refine ⟨a * 20 + b * 5 + (m - 1), by omega, ?_⟩
  unfold Mvn
  rw [e1, e2, e3]
  exact ⟨hab, h2, h3, rfl⟩
end
section
/-! ===== measure: one MOVE tried; all of them; the whole queue ===== -/
theorem x_20 {x : Nat} (hx : x < 80) : nI x / (20 : Int32) = nI (x / 20) := nI_div (b := 20) (by omega) (by omega) (by omega)
theorem x_4 {x : Nat} (hx : x < 80) : (nI x / (5 : Int32)) - (nI x / (5 : Int32)) / (4 : Int32) * (4 : Int32) = nI (x / 5 % 4) := by
  rw [show nI x / (5 : Int32) = nI (x / 5) from nI_div (b := 5) (by omega) (by omega) (by omega)]
  exact nI_rem (b := 4) (by omega) (by omega) (by omega)
theorem x_5 {x : Nat} (hx : x < 80) : (nI x - nI x / (5 : Int32) * (5 : Int32)) + (1 : Int32) = nI (x % 5 + 1) := by
  rw [show nI x - nI x / (5 : Int32) * (5 : Int32) = nI (x % 5) from nI_rem (b := 5) (by omega) (by omega) (by omega), nI_1]
theorem nI_nn {a : Nat} (h : a < 2 ^ 31) : ¬ nI a < 0 := by
  rw [Int32.lt_iff_toInt_lt, nI_ti h]
  have : (0 : Int32).toInt = 0 := by decide
  omega
def MF (S T : SS) : Prop := Fr [55, 57, 58, 59, 60] [] S T
theorem MF.sm {S T : SS} (h : MF S T) : Sm S T := ⟨h.1 0 81 rfl, fun j => h.1 54 j rfl⟩
theorem MF.rm {S T : SS} (h : MF S T) (s : Nat) : rmN T s = rmN S s := by
  unfold rmN
  rw [h.1 46 s rfl]
set_option maxHeartbeats 1000000 in
theorem me_L124 {S : SS} {K : Int32 → Int32 → SS → Option SS} {P : SS → Prop} {n k : Nat} {G : Cf} (hp : PW S n) (hr : ∀ s, rmN S s ≤ 10) (hK : ∀ U Ys pt sz, WR U → MF S U → BI S n G U Ys pt sz (k + 1) → k + 1 ≤ sz → Ew (K (nI sz) (nI (k + 1)) U) P) : ∀ (N x : Nat) (T : SS) (Ys : Nat → Cf) (pt : Nat → Nat) (sz : Nat), WR T → MF S T → BI S n G T Ys pt sz k → k < sz → NN T → cfS T = Ys k → (∀ y, y < x → ∀ Z, Mvn (rmN S) y (Ys k) Z → ∃ j, j < sz ∧ Ys j = Z) → x ≤ 80 → 80 < N + x → Ew (f_M_measure_L124 K N (nI sz) (nI k) (nI x) T) P
  | 0, x, T, Ys, pt, sz, hW, hF, hB, hk, hN, hc, hd, hx, hf => by omega
  | N + 1, x, T, Ys, pt, sz, hW, hF, hB, hk, hN, hc, hd, hx, hf => by
    have h6 := hB.le6 hp
    refine v_eq (f_M_measure_L124.eq_2 _ _ _ _ _ _) ?_
    by_cases c : x = 80
    · subst c
      refine v_t (nI_le (a := 80) (by omega) (by omega)) ?_
      refine v_nm ?_
      rw [nI_1]
      refine hK T Ys pt sz hW hF (hB.nx hk (fun Z hZ => ?_)) (by omega)
      have ht : tot (Ys k) ≤ 5 := by
        rw [(hB.cf k hk).1.1]; exact hp.1.2.1
      obtain ⟨y, hy, hm⟩ := mv_mvn ht hZ
      exact hd y hy Z hm
    · have hx8 : x < 80 := by omega
      refine v_f (nI_ge (b := 80) hx8 (by omega)) ?_
      rw [x_20 hx8, x_4 hx8, x_5 hx8]
      refine v_nm ?_
      refine v_nm ?_
      refine v_nm ?_
      have go : ∀ (T' : SS) (Ys' : Nat → Cf) (pt' : Nat → Nat) (sz' : Nat), WR T' → MF S T' → BI S n G T' Ys' pt' sz' k → k < sz' → NN T' → cfS T' = Ys' k → (∀ y, y < x + 1 → ∀ Z, Mvn (rmN S) y (Ys' k) Z → ∃ j, j < sz' ∧ Ys' j = Z) → Ew (f_M_measure_j236 (fun v0 v1 v2 S => f_M_measure_L124 K N v0 v1 v2 S) (nI sz') (nI k) (nI x) T') P := fun T' Ys' pt' sz' a1 a2 a3 a4 a5 a6 a7 => by
        refine v_eq (f_M_measure_j236.eq_1 _ _ _ _ _) ?_
        refine v_nm ?_
        rw [nI_1]
        exact me_L124 hp hr hK N (x + 1) T' Ys' pt' sz' a1 a2 a3 a4 a5 a6 a7 (by omega) (by omega)
      have ha : x / 20 < 4 := by omega
      have hb : x / 5 % 4 < 4 := by omega
      have la : mN T (x / 20) = (Ys k (x / 20)).length := by rw [← hc, cfS_len ha]
      have lb : mN T (x / 5 % 4) = (Ys k (x / 5 % 4)).length := by rw [← hc, cfS_len hb]
      refine v_cE (mmx hW ha hb (by omega)) (fun r T1 h1 => ?_)
      obtain ⟨e1, h1⟩ := h1
      subst e1
      rw [hF.rm, la, lb] at h1
      rcases h1 with ⟨hr0, h1⟩ | ⟨hr1, h1⟩
      · refine v_t hr0 ?_
        refine go T1 Ys pt sz hW hF hB hk hN hc (fun y hy Z hZ => ?_)
        by_cases cy : y = x
        · subst cy
          exact absurd ⟨hZ.1, by omega, hZ.2.1, hZ.2.2.1⟩ h1
        · exact hd y (by omega) Z hZ
      · refine v_f (by rw [hr1]; decide) ?_
        obtain ⟨hab, q1, q2, q3⟩ := h1
        have hmv : Mvn (rmN S) x (Ys k) (mvd (x / 20) (x / 5 % 4) (x % 5 + 1) (Ys k)) := ⟨hab, q2, q3, rfl⟩
        have hm := mvn_mv hx8 hmv
        have hZ := cn_mv hr (hB.cf k hk) hm
        generalize hZe : mvd (x / 20) (x / 5 % 4) (x % 5 + 1) (Ys k) = Z at hmv hm hZ
        have hr10 := hr (x / 5 % 4)
        refine v_cV (shn hW hN ha hb hab (by omega) (by omega)) (fun T2 h2 => ?_)
        obtain ⟨⟨w2, g2, c2⟩, n2⟩ := h2
        rw [hc, hZe] at c2
        have f2 : MF S T2 := Fr.tr hF g2 rfl
        refine v_cE (cdx' hp hZ.1 f2.sm w2 n2 c2) (fun r3 T3 h3 => ?_)
        obtain ⟨w3, g3, e3⟩ := h3
        have f3 : MF S T3 := Fr.tr f2 g3 rfl
        have m3 : ∀ s, mN T3 s = mN T2 s := fun s => by unfold mN; rw [g3.1 58 s rfl]
        have n3 : NN T3 := fun s i hs hi => by
          rw [g3.1 57 _ rfl]
          rw [m3] at hi
          exact n2 s i hs hi
        have c3 : cfS T3 = Z := by
          rw [← c2]
          funext s
          by_cases hs : s < 4
          · unfold cfS
            rw [if_pos hs, if_pos hs, m3]
            refine List.map_congr_left (fun i _ => ?_)
            unfold wN
            rw [g3.1 57 _ rfl]
          · rw [cfS_far _ (by omega), cfS_far _ (by omega)]
        have z1 : (Z (x / 5 % 4)).length = (Ys k (x / 5 % 4)).length + (x % 5 + 1) := by
          rw [← hZe, mvd_len hab q2, if_neg (Ne.symm hab), if_pos rfl]
        have z2 : (Z (x / 20)).length = (Ys k (x / 20)).length - (x % 5 + 1) := by
          rw [← hZe, mvd_len hab q2, if_pos rfl]
        have y1 : mN T3 (x / 5 % 4) = (Z (x / 5 % 4)).length := by rw [← c3, cfS_len hb]
        have y2 : mN T3 (x / 20) = (Z (x / 20)).length := by rw [← c3, cfS_len ha]
        have l10 : (Ys k (x / 20)).length ≤ 10 := by rw [← la]; exact (mN_le hW _).1
        refine v_cV (shn w3 n3 hb ha (Ne.symm hab) (n := x % 5 + 1) (by omega) (by omega)) (fun T4 h4 => ?_)
        obtain ⟨⟨w4, g4, c4⟩, n4⟩ := h4
        have c4 : cfS T4 = Ys k := by
          rw [c4, c3, ← hZe]
          exact mvd_rev hab q2
        have f4 : MF S T4 := Fr.tr f3 g4 rfl
        have k60 : ∀ i, T4.1 60 i = T1.1 60 i := fun i => by rw [g4.1 60 i rfl, g3.1 60 i rfl, g2.1 60 i rfl]
        have k55 : ∀ i, T4.1 55 i = T1.1 55 i := fun i => by rw [g4.1 55 i rfl, g3.1 55 i rfl, g2.1 55 i rfl]
        have hB4 := hB.cg k60 k55
        have hv := (cd_v hp hZ.1).2
        subst e3
        refine v_grd (inb_nI hv (by omega)) ?_
        rw [nI_clamp (n := cdX S n Z) (by omega)]
        refine v_i (fun q => ?_) (fun q => ?_)
        · have hn : ∀ i, i < sz → cdX S n (Ys i) ≠ cdX S n Z := fun i hi e => by
            have := hB4.p i hi
            rw [e] at this
            rw [this] at q
            have l := hB4.le i hi
            exact nI_nn (by omega) q
          have hlt := hB4.lt hp hZ hn
          refine v_grd (inb_nI (by omega) (by omega)) ?_
          rw [nI_clamp (n := k) (by omega), hB4.q k hk]
          have hvk := (cd_v hp (hB4.cf k hk).1).2
          refine v_grd (inb_nI hvk (by omega)) ?_
          refine v_grd (inb_nI hv (by omega)) ?_
          rw [nI_clamp (n := cdX S n (Ys k)) (by omega), hB4.p k hk, nI_1]
          refine v_wrA (fun T5 e5 g5 v5 => ?_)
          have w5 := WR.st (k := 55) w4 trivial rfl e5
          refine v_grd (inb_nI (by omega) (by omega)) ?_
          rw [nI_clamp (n := sz) (by omega)]
          refine v_wrA (fun T6 e6 g6 v6 => ?_)
          have w6 := wo_60 w5 (rg_nI (j := cdX S n Z) (by omega) (by omega) (by omega)) e6
          refine v_nm ?_
          rw [nI_1]
          have hB6 := hB4.add (U := T6) hk hZ hm hn (fun i => by
            rw [e6, st_at, if_pos rfl]
            by_cases ci : i = sz
            · rw [if_pos ci, if_pos ci]
            · rw [if_neg ci, if_neg ci]; exact g5.1 60 i rfl) (fun i => by
            rw [g6.1 55 i rfl, e5, st_at, if_pos rfl])
          have o : ∀ i, i < sz → ups Ys sz Z i = Ys i := fun i hi => ups_n _ _ (by omega)
          have m6 : ∀ s, mN T6 s = mN T4 s := fun s => by unfold mN; rw [g6.1 58 s rfl, g5.1 58 s rfl]
          refine go T6 _ _ (sz + 1) w6 (Fr.tr (Fr.tr f4 g5 rfl) g6 rfl) hB6 (by omega) (fun s i hs hi => ?_) ?_ (fun y hy W hW' => ?_)
          · rw [g6.1 57 _ rfl, g5.1 57 _ rfl]
            rw [m6] at hi
            exact n4 s i hs hi
          · rw [o k hk, ← c4]
            funext s
            by_cases hs : s < 4
            · unfold cfS
              rw [if_pos hs, if_pos hs, m6]
              refine List.map_congr_left (fun i _ => ?_)
              unfold wN
              rw [g6.1 57 _ rfl, g5.1 57 _ rfl]
            · rw [cfS_far _ (by omega), cfS_far _ (by omega)]
          · rw [o k hk] at hW'
            by_cases cy : y = x
            · subst cy
              refine ⟨sz, by omega, ?_⟩
              rw [ups_k, hW'.2.2.2]; exact hZe.symm
            · obtain ⟨j, j1, j2⟩ := hd y (by omega) W hW'
              exact ⟨j, by omega, (o j j1).trans j2⟩
        · refine go T4 Ys pt sz w4 f4 hB4 hk n4 c4 (fun y hy W hW' => ?_)
          by_cases cy : y = x
          · subst cy
            apply Classical.byContradiction
            intro no
            have hn : ∀ i, i < sz → cdX S n (Ys i) ≠ cdX S n Z := fun i hi e => no ⟨i, hi, by
              rw [hW'.2.2.2, hZe]
              exact cd_inj hp (hB4.cf i hi) hZ e⟩
            have := hB4.out _ hv hn
            rw [this] at q
            exact q (by decide)
          · exact hd y (by omega) W hW'
theorem me_L107 {S : SS} {n : Nat} {G : Cf} (hp : PW S n) (hr : ∀ s, rmN S s ≤ 10) : ∀ (N k : Nat) (T : SS) (Ys : Nat → Cf) (pt : Nat → Nat) (sz : Nat), WR T → MF S T → BI S n G T Ys pt sz k → k ≤ sz → 6720 < N + k → Ew (f_M_measure_L107 N (nI sz) (nI k) T) (fun U => WR U ∧ MF S U ∧ ∃ Ys pt sz, BI S n G U Ys pt sz sz)
  | 0, k, T, Ys, pt, sz, hW, hF, hB, hk, hf => by
    have := hB.le6 hp
    omega
  | N + 1, k, T, Ys, pt, sz, hW, hF, hB, hk, hf => by
    have h6 := hB.le6 hp
    refine v_eq (f_M_measure_L107.eq_2 _ _ _ _) ?_
    by_cases c : k = sz
    · subst c
      refine v_t (nI_le (by omega) (by omega)) ?_
      exact v_some ⟨hW, hF, Ys, pt, k, hB⟩
    · have hk : k < sz := by omega
      refine v_f (nI_ge hk (by omega)) ?_
      refine v_grd (inb_nI (by omega) (by omega)) ?_
      rw [nI_clamp (n := k) (by omega), hB.q k hk]
      refine v_cV (dcx' hp (hB.cf k hk) hF.sm hW) (fun T1 h1 => ?_)
      obtain ⟨w1, g1, n1, c1⟩ := h1
      exact me_L124 hp hr (fun U Ys' pt' sz' a1 a2 a3 a4 => me_L107 hp hr N (k + 1) U Ys' pt' sz' a1 a2 a3 a4 (by omega)) NF 0 T1 Ys pt sz w1 (Fr.tr hF g1 rfl) (hB.cg (fun i => g1.1 60 i rfl) (fun i => g1.1 55 i rfl)) hk n1 c1 (fun y hy => by omega) (by omega) (by have : NF = 100000 := rfl; omega)
end
section
/-! ===== START and GOAL as ways to stand ===== -/
theorem tot_off (T : SS) : tot (cfS T) = off T 4 := by
  unfold tot
  rw [off_4, cfS_len (by omega), cfS_len (by omega), cfS_len (by omega), cfS_len (by omega)]
theorem mN_ti {T : SS} (hW : WR T) (s : Nat) : (T.1 58 s).toInt = (mN T s : Int) := by
  obtain ⟨h1, h2⟩ := mN_le hW s
  rw [h2, nI_ti (by omega)]
theorem fl_ge {T : SS} {p : Nat} (hp : p < (Flat (cfS T)).length) : ∃ s i, s < 4 ∧ i < mN T s ∧ p = off T s + i ∧ (Flat (cfS T))[p]? = some (wN T s i) := by
  rw [flat_len, tot_off] at hp
  obtain ⟨s, i, hs, hi, rfl⟩ := off_in T hp
  exact ⟨s, i, hs, hi, rfl, fl_at hs hi⟩
theorem wN_of {T : SS} {s i w : Nat} (h : T.1 57 (10 * s + i) = nI w) (hw : w < 10) : wN T s i = w := by
  unfold wN
  rw [h, nI_clamp (by omega)]
theorem fl_mem {T : SS} (hN : NN T) {w : Nat} (h : w ∈ Flat (cfS T)) : ∃ s i, s < 4 ∧ i < mN T s ∧ w < 10 ∧ T.1 57 (10 * s + i) = nI w := by
  obtain ⟨p, hp, e⟩ := List.mem_iff_getElem.mp h
  obtain ⟨s, i, hs, hi, -, q⟩ := fl_ge hp
  rw [List.getElem?_eq_getElem hp, e] at q
  have q := Option.some.inj q
  obtain ⟨w', hw', ew⟩ := hN s i hs hi
  have := wN_of ew hw'
  exact ⟨s, i, hs, hi, by omega, by rw [ew, ← this, q]⟩
theorem mem_fl {T : SS} {w s i : Nat} (hs : s < 4) (hi : i < mN T s) (hw : w < 10) (e : T.1 57 (10 * s + i) = nI w) : w ∈ Flat (cfS T) := by
  rw [← wN_of e hw]
  exact List.mem_of_getElem? (fl_at hs hi)
theorem bef_mem {T : SS} (hW : WR T) (hN : NN T) {w : Nat} (hw : w < 10) : Bef (T.1 58) (T.1 57) (nI w) 4 0 ↔ w ∈ Flat (cfS T) := by
  constructor
  · intro ⟨s, i, h1, h2, h3, h4⟩
    rw [mN_ti hW] at h3
    exact mem_fl h2 (by omega) hw h4
  · intro h
    obtain ⟨s, i, hs, hi, -, e⟩ := fl_mem hN h
    exact ⟨s, i, Or.inl hs, hs, by rw [mN_ti hW]; omega, e⟩
theorem fl_nd {T : SS} (hW : WR T) (hN : NN T) (hD : DW (T.1 58) (T.1 57)) : (Flat (cfS T)).Nodup := by
  refine List.pairwise_iff_getElem.mpr (fun p p' hp hp' hlt e => ?_)
  obtain ⟨s, i, hs, hi, e1, q⟩ := fl_ge hp
  obtain ⟨s', i', hs', hi', e1', q'⟩ := fl_ge hp'
  rw [List.getElem?_eq_getElem hp] at q
  rw [List.getElem?_eq_getElem hp'] at q'
  have q := Option.some.inj q
  have q' := Option.some.inj q'
  obtain ⟨w, hw, ew⟩ := hN s i hs hi
  obtain ⟨w', hw', ew'⟩ := hN s' i' hs' hi'
  have a := wN_of ew hw
  have a' := wN_of ew' hw'
  have : w = w' := by rw [← a, ← a', ← q, ← q', e]
  subst this
  obtain ⟨b1, b2⟩ := hD s i s' i' hs hs' (by rw [mN_ti hW]; omega) (by rw [mN_ti hW]; omega) (ew.trans ew'.symm)
  subst b1 b2
  omega
theorem cx_of {B T : SS} {n : Nat} {g : Nat → Nat} (hW : WR T) (hN : NN T) (hD : DW (T.1 58) (T.1 57)) (hg : ∀ j, j < n → g j < 10 ∧ B.1 54 j = nI (g j) ∧ Bef (T.1 58) (T.1 57) (nI (g j)) 4 0) (hi : ∀ i j, i < n → j < n → g i = g j → i = j) (ha : ∀ w, w < 10 → Bef (T.1 58) (T.1 57) (nI w) 4 0 → ∃ j, j < n ∧ g j = w) : CX B n (cfS T) := by
  have nd := fl_nd hW hN hD
  refine ⟨?_, List.nodup_iff_count.mp nd, fun w hw => ?_⟩
  · rw [← flat_len]
    have h1 := php (Flat (cfS T)) n g (fun i hi => (bef_mem hW hN (hg i hi).1).mp (hg i hi).2.2) hi
    have h2 := php ((List.range n).map g) (Flat (cfS T)).length (fun p => (Flat (cfS T)).getD p 0) (fun p hp => ?_) (fun i j h1 h2 e => (List.getD_inj h1 h2 nd).mp e)
    · rw [List.length_map, List.length_range] at h2
      omega
    · have m : (Flat (cfS T)).getD p 0 ∈ Flat (cfS T) := by
        rw [List.getD_eq_getElem?_getD, List.getElem?_eq_getElem hp]
        exact List.getElem_mem hp
      obtain ⟨s, i, -, -, hw, -⟩ := fl_mem hN m
      obtain ⟨j, hj, ej⟩ := ha _ hw ((bef_mem hW hN hw).mpr m)
      exact List.mem_map.mpr ⟨j, List.mem_range.mpr hj, ej⟩
  · have m := List.count_pos_iff.mp hw
    obtain ⟨s, i, -, -, hw10, -⟩ := fl_mem hN m
    obtain ⟨j, hj, ej⟩ := ha _ hw10 ((bef_mem hW hN hw10).mpr m)
    exact ⟨hw10, j, hj, by rw [(hg j hj).2.1, ej]⟩
def tkP (S U : SS) (x : Int32) : Prop := ∀ s, s < 4 → U.1 58 s = S.1 (tkM x) s ∧ ∀ j, j < (S.1 (tkM x) s).toNatClampNeg → U.1 57 (10 * s + j) = S.1 (tkO x) (10 * s + j)
theorem tk_NN {S U : SS} {x : Int32} (hW : WR S) (h : tkP S U x) : NN U := fun s i hs hi => by
  obtain ⟨h1, h2⟩ := h s hs
  unfold mN at hi
  rw [h1] at hi
  rw [h2 i hi]
  have : rg (S.1 (tkO x) (10 * s + i)) 0 9 := by
    unfold tkO
    by_cases c : x = 0
    · rw [if_pos c]; exact ro_48 hW _
    · rw [if_neg c]; exact ro_50 hW _
  obtain ⟨w, e, a, b, d⟩ := rg_ex this (by omega)
  exact ⟨w, by omega, e⟩
theorem tk_DW {S U : SS} {x : Int32} (hU : WR U) (h : tkP S U x) (hD : DW (S.1 (tkM x)) (S.1 (tkO x))) : DW (U.1 58) (U.1 57) := fun s i s' i' hs hs' hi hi' e => by
  have a := mN_ti hU s
  have a' := mN_ti hU s'
  unfold mN at a a'
  rw [(h s hs).1] at hi a
  rw [(h s' hs').1] at hi' a'
  rw [(h s hs).2 i (by omega), (h s' hs').2 i' (by omega)] at e
  exact hD s i s' i' hs hs' hi hi' e
theorem tk_Bef {S U : SS} {x : Int32} (hU : WR U) (h : tkP S U x) (w : Int32) : Bef (U.1 58) (U.1 57) w 4 0 ↔ Bef (S.1 (tkM x)) (S.1 (tkO x)) w 4 0 := by
  constructor
  · intro ⟨s, i, h1, h2, h3, h4⟩
    have a := mN_ti hU s
    unfold mN at a
    rw [(h s h2).1] at h3 a
    rw [(h s h2).2 i (by omega)] at h4
    exact ⟨s, i, h1, h2, h3, h4⟩
  · intro ⟨s, i, h1, h2, h3, h4⟩
    have a := mN_ti hU s
    unfold mN at a
    rw [(h s h2).1] at a
    refine ⟨s, i, h1, h2, by rw [(h s h2).1]; exact h3, ?_⟩
    rw [(h s h2).2 i (by omega)]
    exact h4
theorem tk_Fit {S U : SS} {x : Int32} (hW : WR S) (hU : WR U) (hP : PL S) (h : tkP S U x) : Fit (rmN S) (cfS U) := fun s hs => by
  rw [cfS_len hs]
  have a := mN_ti hU s
  rw [(h s hs).1] at a
  have r := rmN_le hW s
  have b : (S.1 46 s).toInt = (rmN S s : Int) := by rw [r.2, nI_ti (by omega)]
  have c := hP.1 s hs
  unfold tkM at a
  by_cases d : x = 0
  · rw [if_pos d] at a; omega
  · rw [if_neg d] at a; omega
end
section
/-! ===== measure, the whole of it ===== -/
theorem Cn.rb {S U : SS} {n : Nat} {X : Cf} (h : Cn S n X) (k : Sm S U) (r : ∀ s, rmN U s = rmN S s) : Cn U n X := by
  obtain ⟨h1, h2, V, v1, v2, v3, v4⟩ := h
  refine ⟨k.cx h1, fun s hs => ?_, V, v1, v2, v3, v4.1.trans k.1.symm, fun j => (v4.2 j).trans (k.2 j).symm⟩
  rw [r s]
  exact h2 s hs
theorem mv_rb {R R' : Nat → Nat} {X Z : Cf} (h : Mv R X Z) (r : ∀ s, R' s = R s) : Mv R' X Z := by
  have : R' = R := funext r
  rw [this]; exact h
theorem BI.rb {S U : SS} {n : Nat} {G : Cf} {T : SS} {Ys : Nat → Cf} {pt : Nat → Nat} {sz k : Nat} (h : BI S n G T Ys pt sz k) (m : Sm S U) (r : ∀ s, rmN U s = rmN S s) : BI U n G T Ys pt sz k := by
  have e : ∀ X, cdX U n X = cdX S n X := fun X => m.cd
  refine ⟨fun i hi => (h.cf i hi).rb m r, fun i hi => by rw [e]; exact h.q i hi, fun i hi => by rw [e]; exact h.p i hi, fun i j hi hj q => h.inj i j hi hj (by rw [e, e] at q; exact q), fun c hc q => h.out c hc (fun i hi => by have := q i hi; rw [e] at this; exact this), h.z0, h.z1, h.z2, h.le, h.mono, h.near, fun i hi hs Z hZ => h.sp i hi hs Z (mv_rb hZ (fun s => (r s).symm)), fun j hj hp => ?_, fun i hi => ?_⟩
  · obtain ⟨i, a, b, c⟩ := h.par j hj hp
    exact ⟨i, a, b, mv_rb c r⟩
  · have : rmN U = rmN S := funext r
    rw [this]
    exact h.rch i hi
/-- the ranks: row 54 holds the GOAL's WAGONS -/
def RG (S U : SS) (n : Nat) : Prop := ∃ g : Nat → Nat, (∀ j, j < n → g j < 10 ∧ U.1 54 j = nI (g j) ∧ Bef (S.1 49) (S.1 50) (nI (g j)) 4 0) ∧ (∀ i j, i < n → j < n → g i = g j → i = j) ∧ ∀ w, w < 10 → Bef (S.1 49) (S.1 50) (nI w) 4 0 → ∃ j, j < n ∧ g j = w
/-- what measure leaves: ranks, and a queue that is fully spread -/
def ME (S U : SS) (n : Nat) (G : Cf) : Prop := PW U n ∧ RG S U n ∧ Cn U n G ∧ ∃ Ys pt sz, BI U n G U Ys pt sz sz
set_option maxHeartbeats 1000000 in
theorem mex {S : SS} (hW : WR S) (hP : PL S) (h5 : ∀ (n : Nat) (g : Nat → Nat), (∀ j, j < n → g j < 10 ∧ Bef (S.1 49) (S.1 50) (nI (g j)) 4 0) → (∀ i j, i < n → j < n → g i = g j → i = j) → n ≤ 5) : Ew (f_M_measure S) (fun U => WR U ∧ Fr [54, 55, 57, 58, 59, 60] [(0, 81)] S U ∧ ∃ n G, ME S U n G) := by
  refine v_eq (f_M_measure.eq_1 _) ?_
  refine v_wrO (fun T0 e0 g0 v0 => ?_)
  have w0 := wo_0_81 hW (rgl 0 0 10 rfl) e0
  have k49 : T0.1 49 = S.1 49 := funext fun i => g0.1 49 i rfl
  have k50 : T0.1 50 = S.1 50 := funext fun i => g0.1 50 i rfl
  refine me_L7 (S := T0) (fun U N wU gU hR => ?_) NF 0 T0 w0 Fr.rf ⟨0, fun _ => 0, by omega, v0, fun j hj => by omega, fun i j hi hj => by omega, fun w hw => by omega⟩ (by omega) (by have : NF = 100000 := rfl; omega)
  obtain ⟨n, g, hn, h81, hg, hlt, hall⟩ := hR
  rw [k49, k50] at hg hall
  have ginj : ∀ i j, i < n → j < n → g i = g j → i = j := fun i j hi hj e => by
    rcases Nat.lt_trichotomy i j with c | c | c
    · have := hlt i j c hj; omega
    · exact c
    · have := hlt j i c hi; omega
  have n5 := h5 n g (fun j hj => ⟨(hg j hj).1, (hg j hj).2.2⟩) ginj
  refine v_eq (f_M_measure_L7.eq_2 _ _ _) ?_
  refine v_t (nI_le (a := 10) (by omega) (by omega)) ?_
  refine me_L56 (S := U) (fun B N' wB gB hB => ?_) NF 0 U wU Fr.rf (fun i hi => by omega) (by omega) (by have : NF = 100000 := rfl; omega)
  have pB : PW B n := by
    refine ⟨⟨(gB.1 0 81 rfl).trans h81, n5, fun i j hi hj e => ?_⟩, fun r hr => ⟨g r, (hg r hr).1, (gB.1 54 r rfl).trans (hg r hr).2.1⟩⟩
    rw [gB.1 54 i rfl, gB.1 54 j rfl, (hg i hi).2.1, (hg j hj).2.1] at e
    refine ginj i j hi hj ?_
    have a := congrArg Int32.toInt e
    rw [nI_ti (by have := (hg i hi).1; omega), nI_ti (by have := (hg j hj).1; omega)] at a
    omega
  have rB : ∀ s, rmN B s ≤ 10 := fun s => (rmN_le wB s).1
  have FS : Fr [54, 55, 57, 58, 59, 60] [(0, 81)] S B := Fr.tr (Fr.tr (Fr.tr Fr.rf g0 rfl) gU rfl) gB rfl
  refine v_eq (f_M_measure_L56.eq_2 _ _ _) ?_
  refine v_t (nI_le (a := 25920) (by omega) (by omega)) ?_
  refine v_cV (tkx (x1 := 1) wB) (fun T h1 => ?_)
  obtain ⟨wT, gT, hT⟩ := h1
  have hT : tkP B T 1 := hT
  have nT := tk_NN wB hT
  have b49 : B.1 (tkM 1) = S.1 49 := funext fun i => FS.1 49 i rfl
  have b50 : B.1 (tkO 1) = S.1 50 := funext fun i => FS.1 50 i rfl
  have PB : PL B := hP.of (fun k hk i => by
    simp only [List.mem_cons, List.mem_nil_iff, or_false] at hk
    rcases hk with rfl | rfl | rfl | rfl | rfl <;> exact FS.1 _ i rfl)
  have dT : DW (T.1 58) (T.1 57) := tk_DW wT hT (by rw [b49, b50]; exact hP.2.2)
  have bT : ∀ w, Bef (T.1 58) (T.1 57) w 4 0 ↔ Bef (S.1 49) (S.1 50) w 4 0 := fun w => by rw [tk_Bef wT hT w, b49, b50]
  have cT : CX B n (cfS T) := cx_of wT nT dT (g := g) (fun j hj => ⟨(hg j hj).1, (gB.1 54 j rfl).trans (hg j hj).2.1, (bT _).mpr (hg j hj).2.2⟩) ginj (fun w hw k => hall w hw ((bT _).mp k))
  have sT : Sm B T := ⟨gT.1 0 81 rfl, fun j => gT.1 54 j rfl⟩
  have cG : Cn B n (cfS T) := ⟨cT, tk_Fit wB wT PB hT, T, wT, nT, rfl, sT⟩
  refine v_cE (cdx' pB cT sT wT nT rfl) (fun r T3 h3 => ?_)
  obtain ⟨w3, g3, e3⟩ := h3
  subst e3
  have hv := (cd_v pB cT).2
  refine v_grd rfl ?_
  rw [show (0 : Int32).toNatClampNeg = 0 by decide]
  refine v_wrA (fun T4 e4 g4 v4 => ?_)
  have w4 := wo_60 w3 (rg_nI (j := cdX B n (cfS T)) (by omega) (by omega) (by omega)) e4
  refine v_grd rfl ?_
  rw [v4]
  refine v_grd (inb_nI hv (by omega)) ?_
  rw [nI_clamp (n := cdX B n (cfS T)) (by omega)]
  refine v_wrA (fun T5 e5 g5 v5 => ?_)
  have w5 := WR.st (k := 55) w4 trivial rfl e5
  have F5 : MF B T5 := Fr.tr (Fr.tr (Fr.tr (Fr.tr Fr.rf gT rfl) g3 rfl) g4 rfl) g5 rfl
  have k55 : ∀ i, T4.1 55 i = B.1 55 i := fun i => by rw [g4.1 55 i rfl, g3.1 55 i rfl, gT.1 55 i rfl]
  have bi : BI B n (cfS T) T5 (fun _ => cfS T) (fun _ => 0) 1 0 := by
    refine ⟨fun i hi => cG, fun i hi => ?_, fun i hi => v5, fun i j hi hj _ => by omega, fun c hc q => ?_, by omega, rfl, rfl, fun i hi => Nat.zero_le _, fun i j _ _ => Nat.le_refl _, fun j hj _ => Nat.zero_le _, fun i hi => by omega, fun j hj hp => absurd hp (Nat.lt_irrefl 0), fun i hi => ⟨0, rfl⟩⟩
    · have : i = 0 := by omega
      subst this
      rw [g5.1 60 0 rfl]; exact v4
    · rw [e5, st_at, if_pos rfl, if_neg (Ne.symm (q 0 (by omega))), k55]
      exact hB c hc
  refine v_mono (me_L107 pB rB NF 0 T5 _ _ 1 w5 F5 bi (by omega) (by have : NF = 100000 := rfl; omega)) (fun V hV => ?_)
  obtain ⟨wV, FV, Ys, pt, sz, hb⟩ := hV
  have sV := FV.sm
  refine ⟨wV, Fr.tr FS FV rfl, n, cfS T, sV.pw pB, ⟨g, fun j hj => ⟨(hg j hj).1, ?_, (hg j hj).2.2⟩, ginj, hall⟩, cG.rb sV FV.rm, Ys, pt, sz, hb.rb sV FV.rm⟩
  rw [sV.2, gB.1 54 j rfl]
  exact (hg j hj).2.1
end
section
/-! ===== areSame told exactly; how many WAGONS there are ===== -/
def SameW (S : SS) : Prop := ∀ w, w < 10 → (Bef (S.1 47) (S.1 48) (nI w) 4 0 ↔ Bef (S.1 49) (S.1 50) (nI w) 4 0)
theorem bI_eq {a b : Bool} (h : bI a = bI b) : a = b := by
  cases a <;> cases b
  · rfl
  · exact absurd h (by decide)
  · exact absurd h (by decide)
  · rfl
theorem as_L4 {S : SS} (hW : WR S) : ∀ (N x : Nat) (b : Bool), (b = true → ∀ w, w < x → (Bef (S.1 47) (S.1 48) (nI w) 4 0 ↔ Bef (S.1 49) (S.1 50) (nI w) 4 0)) → x ≤ 10 → 10 < N + x → Ex2 (f_M_areSame_L4 N (bI b) (nI x) S) (fun r U => U = S ∧ (r = 0 ∨ (r = 1 ∧ SameW S)))
  | 0, x, b, hb, hx, hN => by omega
  | N + 1, x, b, hb, hx, hN => by
    refine e_eq (f_M_areSame_L4.eq_2 _ _ _ _) ?_
    have go : ∀ b' : Bool, (b' = true → ∀ w, w < x + 1 → (Bef (S.1 47) (S.1 48) (nI w) 4 0 ↔ Bef (S.1 49) (S.1 50) (nI w) 4 0)) → x < 10 → Ex2 (f_M_areSame_j46 (fun v0 v1 S => f_M_areSame_L4 N v0 v1 S) (nI x) (bI b') S) (fun r U => U = S ∧ (r = 0 ∨ (r = 1 ∧ SameW S))) := fun b' hb' hx' => by
      refine e_eq (f_M_areSame_j46.eq_1 _ _ _ _) ?_
      refine e_nm ?_
      rw [nI_1]
      exact as_L4 hW N (x + 1) b' hb' (by omega) (by omega)
    by_cases c : x = 10
    · subst c
      refine e_t (nI_le (a := 10) (by omega) (by omega)) ?_
      cases hbb : b with
      | false =>
        refine e_grd (by decide) ?_
        exact e_some ⟨rfl, Or.inl rfl⟩
      | true =>
        refine e_grd (by decide) ?_
        exact e_some ⟨rfl, Or.inr ⟨rfl, hb hbb⟩⟩
    · have hx' : x < 10 := by omega
      refine e_f (nI_ge (b := 10) hx' (by omega)) ?_
      cases hbb : b with
      | false =>
        refine e_t rfl ?_
        refine e_eq (f_M_areSame_j45.eq_1 _ _ _) ?_
        exact go false (fun k => by cases k) hx'
      | true =>
        refine e_f (by decide) ?_
        refine e_cE (u_has_s hW) (fun r1 T1 h1 => ?_)
        obtain ⟨e1, b1, q1, i1⟩ := h1
        subst e1
        refine e_cE (u_has_g hW) (fun r2 T2 h2 => ?_)
        obtain ⟨e2, b2, q2, i2⟩ := h2
        subst e2
        rw [q1, q2]
        refine e_i (fun q => ?_) (fun q => ?_)
        · refine go true (fun _ w hw => ?_) hx'
          have qq := bI_eq q
          by_cases cw : w = x
          · subst cw
            rw [← i1, ← i2, qq]
          · exact hb hbb w (by omega)
        · refine e_eq (f_M_areSame_j45.eq_1 _ _ _) ?_
          exact go false (fun k => by cases k) hx'
theorem asx {S : SS} (hW : WR S) : Ex2 (f_M_areSame S) (fun r U => U = S ∧ (r = 0 ∨ (r = 1 ∧ SameW S))) := by
  refine e_eq (f_M_areSame.eq_1 _) ?_
  exact as_L4 hW NF 0 true (fun _ w hw => by omega) (by omega) (by have : NF = 100000 := rfl; omega)
/-- the START has at most that many WAGONS -/
def StN (S : SS) : Nat := (S.1 47 0).toNatClampNeg + (S.1 47 1).toNatClampNeg + (S.1 47 2).toNatClampNeg + (S.1 47 3).toNatClampNeg
theorem smx {S : SS} (hW : WR S) : Ex2 (f_M_sumOf_M_startMany S) (fun r U => U = S ∧ r = nI (StN S) ∧ StN S ≤ 40) := by
  refine e_eq (f_M_sumOf_M_startMany.eq_1 _) ?_
  refine e_grd rfl ?_
  refine e_grd rfl ?_
  refine e_grd rfl ?_
  refine e_grd rfl ?_
  have h : ∀ s, ∃ m, S.1 47 s = nI m ∧ (S.1 47 s).toNatClampNeg = m ∧ m ≤ 10 := fun s => by
    obtain ⟨j, e, a, b, c⟩ := rg_ex (ro_47 hW s) (by omega)
    exact ⟨j, e, by rw [e, nI_clamp c], by omega⟩
  obtain ⟨m0, a0, b0, c0⟩ := h 0
  obtain ⟨m1, a1, b1, c1⟩ := h 1
  obtain ⟨m2, a2, b2, c2⟩ := h 2
  obtain ⟨m3, a3, b3, c3⟩ := h 3
  have e : StN S = m0 + m1 + m2 + m3 := by unfold StN; rw [b0, b1, b2, b3]
  refine e_some ⟨rfl, ?_, by omega⟩
  rw [show (0 : Int32).toNatClampNeg = 0 by decide, show (1 : Int32).toNatClampNeg = 1 by decide, show (2 : Int32).toNatClampNeg = 2 by decide, show (3 : Int32).toNatClampNeg = 3 by decide, a0, a1, a2, a3, nI_add, nI_add, nI_add, e]
theorem h5_of {S : SS} (hW : WR S) (hs : SameW S) (n : Nat) (g : Nat → Nat) (hg : ∀ j, j < n → g j < 10 ∧ Bef (S.1 49) (S.1 50) (nI (g j)) 4 0) (gi : ∀ i j, i < n → j < n → g i = g j → i = j) : n ≤ StN S := by
  obtain ⟨U, -, wU, gU, hU⟩ := tkx (x1 := 0) hW
  have hU : tkP S U 0 := hU
  have nU := tk_NN hW hU
  have q := php (Flat (cfS U)) n g (fun i hi => (bef_mem wU nU (hg i hi).1).mp ((tk_Bef wU hU _).mpr ((hs _ (hg i hi).1).mpr (hg i hi).2))) gi
  rw [flat_len, tot_off, off_4] at q
  unfold mN at q
  rw [(hU 0 (by omega)).1, (hU 1 (by omega)).1, (hU 2 (by omega)).1, (hU 3 (by omega)).1] at q
  exact q
/-! ===== the potentials: small, and falling ===== -/
theorem BI.rc {S : SS} {n : Nat} {G : Cf} {T : SS} {Ys : Nat → Cf} {pt : Nat → Nat} {sz : Nat} (h : BI S n G T Ys pt sz sz) : ∀ (m i : Nat) (Y : Cf), i < sz → Rc (rmN S) m (Ys i) Y → ∃ j, j < sz ∧ Ys j = Y ∧ pt j ≤ pt i + m
  | 0, i, Y, hi, hr => ⟨i, hi, hr, Nat.le_refl _⟩
  | m + 1, i, Y, hi, hr => by
    rcases hr with hr | ⟨Z, h1, h2⟩
    · exact ⟨i, hi, hr, by omega⟩
    · obtain ⟨j, j1, j2, j3⟩ := h.sp i hi hi Z h1
      rw [← j2] at h2
      obtain ⟨l, l1, l2, l3⟩ := BI.rc h m j Y j1 h2
      exact ⟨l, l1, l2, by omega⟩
theorem BI.p50 {S : SS} {n : Nat} {G : Cf} {T : SS} {Ys : Nat → Cf} {pt : Nat → Nat} {sz : Nat} (hp : PW S n) (h : BI S n G T Ys pt sz sz) (hr : ∀ s, s < 4 → 1 ≤ rmN S s) {i : Nat} (hi : i < sz) : pt i ≤ 50 := by
  obtain ⟨m, hm⟩ := h.rch i hi
  have c0 := h.cf 0 h.z0
  rw [h.z1] at c0
  have d := dm n (rmN S) G (Ys i) m hp.1.2.1 c0.1.1 hr c0.2.1 c0.far hm
  have e := h.z1
  rw [← e] at d
  obtain ⟨j, j1, j2, j3⟩ := h.rc 50 0 (Ys i) h.z0 d
  have : j = i := h.inj j i j1 hi (by rw [j2])
  subst this
  rw [h.z2] at j3
  omega
end
section
/-! ===== hasFallen and wander ===== -/
theorem nn_cg {S U : SS} (h : NN S) (e1 : ∀ i, U.1 57 i = S.1 57 i) (e2 : ∀ s, U.1 58 s = S.1 58 s) : NN U := fun s i hs hi => by
  rw [e1]
  unfold mN at hi
  rw [e2] at hi
  exact h s i hs hi
theorem cf_cg {S U : SS} (e1 : ∀ i, U.1 57 i = S.1 57 i) (e2 : ∀ s, U.1 58 s = S.1 58 s) : cfS U = cfS S := by
  funext s
  by_cases hs : s < 4
  · unfold cfS mN wN
    rw [if_pos hs, if_pos hs, e2]
    exact List.map_congr_left (fun i _ => by rw [e1])
  · rw [cfS_far _ (by omega), cfS_far _ (by omega)]
theorem hfx {B T : SS} {n x : Nat} {X : Cf} (hp : PW B n) (hr : ∀ s, rmN B s ≤ 10) (hX : Cn B n X) (hW : WR T) (k : Sm B T) (kr : ∀ s, rmN T s = rmN B s) (hx : x < 80) : Ex2 (f_M_hasFallen (nI (cdX B n X)) (nI (x / 20)) (nI (x / 5 % 4)) (nI (x % 5 + 1)) T) (fun r U => WR U ∧ Fr [57, 58, 59] [] T U ∧ ((r = 0 ∧ ∀ Z, Mvn (rmN B) x X Z → ¬ T.1 55 (cdX B n Z) = T.1 55 (cdX B n X) - 1) ∨ (r = 1 ∧ NN U ∧ ∃ Z, Mvn (rmN B) x X Z ∧ cfS U = Z ∧ T.1 55 (cdX B n Z) = T.1 55 (cdX B n X) - 1))) := by
  have ha : x / 20 < 4 := by omega
  have hb : x / 5 % 4 < 4 := by omega
  refine e_eq (f_M_hasFallen.eq_1 _ _ _ _ _) ?_
  refine e_cV (dcx' hp hX k hW) (fun T1 h1 => ?_)
  obtain ⟨w1, g1, n1, c1⟩ := h1
  have la : mN T1 (x / 20) = (X (x / 20)).length := by rw [← c1, cfS_len ha]
  have lb : mN T1 (x / 5 % 4) = (X (x / 5 % 4)).length := by rw [← c1, cfS_len hb]
  have r1 : ∀ s, rmN T1 s = rmN B s := fun s => by
    rw [← kr s]
    unfold rmN
    rw [g1.1 46 s rfl]
  refine e_cE (mmx w1 ha hb (by omega)) (fun r T2 h2 => ?_)
  obtain ⟨e2, h2⟩ := h2
  subst e2
  rw [r1, la, lb] at h2
  rcases h2 with ⟨hr0, h2⟩ | ⟨hr1, h2⟩
  · refine e_t hr0 ?_
    exact e_some ⟨w1, g1, Or.inl ⟨rfl, fun Z hZ => absurd ⟨hZ.1, by omega, hZ.2.1, hZ.2.2.1⟩ h2⟩⟩
  · refine e_f (by rw [hr1]; decide) ?_
    obtain ⟨hab, q1, q2, q3⟩ := h2
    have hr10 := hr (x / 5 % 4)
    have hm : Mvn (rmN B) x X (mvd (x / 20) (x / 5 % 4) (x % 5 + 1) X) := ⟨hab, q2, q3, rfl⟩
    have hZ := cn_mv hr hX (mvn_mv hx hm)
    generalize hZe : mvd (x / 20) (x / 5 % 4) (x % 5 + 1) X = Z at hm hZ
    refine e_cV (shn w1 n1 ha hb hab (by omega) (by omega)) (fun T3 h3 => ?_)
    obtain ⟨⟨w3, g3, c3⟩, n3⟩ := h3
    rw [c1, hZe] at c3
    have k3 : Sm B T3 := ⟨((g3.1 0 81 rfl).trans (g1.1 0 81 rfl)).trans k.1, fun j => ((g3.1 54 j rfl).trans (g1.1 54 j rfl)).trans (k.2 j)⟩
    refine e_cE (cdx' hp hZ.1 k3 w3 n3 c3) (fun r4 T4 h4 => ?_)
    obtain ⟨w4, g4, e4⟩ := h4
    subst e4
    have hv := (cd_v hp hZ.1).2
    have hvx := (cd_v hp hX.1).2
    have k55 : ∀ i, T4.1 55 i = T.1 55 i := fun i => by rw [g4.1 55 i rfl, g3.1 55 i rfl, g1.1 55 i rfl]
    have F4 : Fr [57, 58, 59] [] T T4 := Fr.tr (Fr.tr g1 g3 rfl) g4 rfl
    refine e_grd (inb_nI hv (by omega)) ?_
    refine e_grd (inb_nI hvx (by omega)) ?_
    rw [nI_clamp (n := cdX B n Z) (by omega), nI_clamp (n := cdX B n X) (by omega), k55, k55]
    refine e_i (fun q => ?_) (fun q => ?_)
    · exact e_some ⟨w4, F4, Or.inr ⟨rfl, nn_cg n3 (fun i => g4.1 57 i rfl) (fun s => g4.1 58 s rfl), Z, hm, (cf_cg (fun i => g4.1 57 i rfl) (fun s => g4.1 58 s rfl)).trans c3, q⟩⟩
    · refine e_some ⟨w4, F4, Or.inl ⟨rfl, fun W hW' => ?_⟩⟩
      rw [hW'.2.2.2, hZe]
      exact q
def WF (B T : SS) : Prop := Fr [51, 52, 53, 56, 57, 58, 59] [(0, 77)] B T
theorem WF.sm {S T : SS} (h : WF S T) : Sm S T := ⟨h.1 0 81 rfl, fun j => h.1 54 j rfl⟩
theorem WF.rm {S T : SS} (h : WF S T) (s : Nat) : rmN T s = rmN S s := by
  unfold rmN
  rw [h.1 46 s rfl]
/-- the numbers along the way -/
def Pth (B : SS) (n : Nat) (T : SS) (m : Nat) : Prop := ∀ j, j ≤ m → ∃ X, Cn B n X ∧ T.1 56 j = nI (cdX B n X)
theorem nI_inj {a b : Nat} (ha : a < 2 ^ 31) (hb : b < 2 ^ 31) (e : nI a = nI b) : a = b := by
  have q := congrArg Int32.toInt e
  rw [nI_ti ha, nI_ti hb] at q
  omega
set_option maxHeartbeats 1000000 in
theorem wa_L25 {B : SS} {K : Int32 → SS → Option SS} {P : SS → Prop} {n m i sz : Nat} {G : Cf} {Ys : Nat → Cf} {pt : Nat → Nat} (hp : PW B n) (hr : ∀ s, rmN B s ≤ 10) (hB : BI B n G B Ys pt sz sz) (hi : i < sz) (hpi : 0 < pt i) (hm : m + 1 < 400) (hK : ∀ U j, j < sz → pt j + 1 = pt i → WR U → WF B U → U.1 0 77 = nI (m + 1) → Pth B n U (m + 1) → Ew (K (nI (cdX B n (Ys j))) U) P) : ∀ (N x : Nat) (T : SS), WR T → WF B T → T.1 0 77 = nI m → Pth B n T m → (∃ y Z, x ≤ y ∧ y < 80 ∧ Mvn (rmN B) y (Ys i) Z ∧ B.1 55 (cdX B n Z) = B.1 55 (cdX B n (Ys i)) - 1) → 80 < N + x → Ew (f_M_wander_L25 K N (nI (cdX B n (Ys i))) (nI x) T) P
  | 0, x, T, hW, hF, h77, hP, hy, hN => by
    obtain ⟨y, Z, h1, h2, -⟩ := hy
    omega
  | N + 1, x, T, hW, hF, h77, hP, hy, hN => by
    obtain ⟨y, Y, y1, y2, y3, y4⟩ := hy
    have hx : x < 80 := by omega
    refine v_eq (f_M_wander_L25.eq_2 _ _ _ _ _) ?_
    rw [x_20 hx, x_4 hx, x_5 hx]
    refine v_cE (hfx hp hr (hB.cf i hi) hW hF.sm hF.rm hx) (fun r T1 h1 => ?_)
    obtain ⟨w1, g1, h1⟩ := h1
    have k55 : ∀ j, T.1 55 j = B.1 55 j := fun j => hF.1 55 j rfl
    have F1 : WF B T1 := Fr.tr hF g1 rfl
    have t77 : T1.1 0 77 = nI m := (g1.1 0 77 rfl).trans h77
    have P1 : Pth B n T1 m := fun j hj => by rw [g1.1 56 j rfl]; exact hP j hj
    rcases h1 with ⟨r0, h1⟩ | ⟨r1, n1, Z, z1, z2, z3⟩
    · refine v_t r0 ?_
      refine v_nm ?_
      rw [nI_1]
      refine wa_L25 hp hr hB hi hpi hm hK N (x + 1) T1 w1 F1 t77 P1 ⟨y, Y, ?_, y2, y3, y4⟩ (by omega)
      rcases Nat.lt_or_ge x y with c | c
      · omega
      · have : y = x := by omega
        subst this
        have q := h1 Y y3
        rw [k55, k55] at q
        exact absurd y4 q
    · refine v_f (by rw [r1]; decide) ?_
      obtain ⟨j, j1, j2, j3⟩ := hB.sp i hi hi Z (mvn_mv hx z1)
      have cZ : Cn B n Z := by rw [← j2]; exact hB.cf j j1
      have pj : pt j + 1 = pt i := by
        rw [k55, k55, ← j2, hB.p j j1, hB.p i hi] at z3
        have a := hB.le i hi
        have b := hB.le j j1
        have c := hB.le6 hp
        rw [show nI (pt i) - (1 : Int32) = nI (pt i - 1) from nI_sb (b := 1) (by omega) (by omega)] at z3
        have := nI_inj (by omega) (by omega) z3
        omega
      rw [t77]
      refine v_grd (inb_nI (by omega) (by omega)) ?_
      refine v_wrA (fun T2 e2 g2 v2 => ?_)
      have w2 := wo_51 w1 (rg_nI (j := x / 20) (by omega) (by omega) (by omega)) e2
      rw [g2.1 0 77 rfl, t77]
      refine v_grd (inb_nI (by omega) (by omega)) ?_
      refine v_wrA (fun T3 e3 g3 v3 => ?_)
      have w3 := wo_52 w2 (rg_nI (j := x / 5 % 4) (by omega) (by omega) (by omega)) e3
      rw [g3.1 0 77 rfl, g2.1 0 77 rfl, t77]
      refine v_grd (inb_nI (by omega) (by omega)) ?_
      refine v_wrA (fun T4 e4 g4 v4 => ?_)
      have w4 := WR.st (k := 53) w3 trivial rfl e4
      have F4 : WF B T4 := Fr.tr (Fr.tr (Fr.tr F1 g2 rfl) g3 rfl) g4 rfl
      have a57 : ∀ i, T4.1 57 i = T1.1 57 i := fun i => by rw [g4.1 57 i rfl, g3.1 57 i rfl, g2.1 57 i rfl]
      have a58 : ∀ i, T4.1 58 i = T1.1 58 i := fun i => by rw [g4.1 58 i rfl, g3.1 58 i rfl, g2.1 58 i rfl]
      refine v_cE (cdx' hp cZ.1 F4.sm w4 (nn_cg n1 a57 a58) ((cf_cg a57 a58).trans z2)) (fun r5 T5 h5 => ?_)
      obtain ⟨w5, g5, e5⟩ := h5
      subst e5
      have hv := (cd_v hp cZ.1).2
      have t5 : T5.1 0 77 = nI m := by rw [g5.1 0 77 rfl, g4.1 0 77 rfl, g3.1 0 77 rfl, g2.1 0 77 rfl, t77]
      rw [t5, nI_1]
      refine v_wrO (fun T6 e6 g6 v6 => ?_)
      have w6 := wo_0_77 w5 (rg_nI (j := m + 1) (by omega) (by omega) (by omega)) e6
      rw [v6]
      refine v_grd (inb_nI (by omega) (by omega)) ?_
      rw [nI_clamp (n := m + 1) (by omega)]
      refine v_wrA (fun T7 e7 g7 v7 => ?_)
      have w7 := wo_56 w6 (rg_nI (j := cdX B n Z) (by omega) (by omega) (by omega)) e7
      have F7 : WF B T7 := Fr.tr (Fr.tr (Fr.tr F4 g5 rfl) g6 rfl) g7 rfl
      rw [← j2]
      rw [← j2] at e7
      refine hK T7 j j1 pj w7 F7 ((g7.1 0 77 rfl).trans v6) (fun l hl => ?_)
      rw [e7, st_at, if_pos rfl]
      by_cases c : l = m + 1
      · rw [if_pos c]
        exact ⟨Ys j, hB.cf j j1, rfl⟩
      · rw [if_neg c, g6.1 56 l rfl, g5.1 56 l rfl, g4.1 56 l rfl, g3.1 56 l rfl, g2.1 56 l rfl]
        exact P1 l (by omega)
theorem wa_L14 {B : SS} {n sz : Nat} {G : Cf} {Ys : Nat → Cf} {pt : Nat → Nat} (hp : PW B n) (hr : ∀ s, rmN B s ≤ 10) (hB : BI B n G B Ys pt sz sz) : ∀ (N i m : Nat) (T : SS), i < sz → WR T → WF B T → T.1 0 77 = nI m → Pth B n T m → m + pt i ≤ 50 → pt i < N → Ew (f_M_wander_L14 N (nI (cdX B n (Ys i))) T) (fun U => WR U ∧ WF B U ∧ ∃ m, m ≤ 50 ∧ U.1 0 77 = nI m ∧ Pth B n U m)
  | 0, i, m, T, hi, hW, hF, h77, hP, hm, hN => by omega
  | N + 1, i, m, T, hi, hW, hF, h77, hP, hm, hN => by
    have hv := (cd_v hp (hB.cf i hi).1).2
    refine v_eq (f_M_wander_L14.eq_2 _ _ _) ?_
    refine v_grd (inb_nI hv (by omega)) ?_
    rw [nI_clamp (n := cdX B n (Ys i)) (by omega), hF.1 55 _ rfl, hB.p i hi]
    refine v_i (fun q => ?_) (fun q => ?_)
    · exact v_some ⟨hW, hF, m, by omega, h77, hP⟩
    · have hpi : 0 < pt i := by
        rcases Nat.eq_zero_or_pos (pt i) with c | c
        · rw [c] at q; exact absurd (by decide) q
        · exact c
      obtain ⟨j, j1, j2, j3⟩ := hB.par i hi hpi
      have ht : tot (Ys i) ≤ 5 := by rw [(hB.cf i hi).1.1]; exact hp.1.2.1
      obtain ⟨y, hy, hmy⟩ := mv_mvn ht j3
      refine wa_L25 hp hr hB hi hpi (by omega) (fun U l l1 l2 u1 u2 u3 u4 => wa_L14 hp hr hB N l (m + 1) U l1 u1 u2 u3 u4 (by omega) (by omega)) NF 0 T hW hF h77 hP ⟨y, Ys j, by omega, hy, hmy, ?_⟩ (by have : NF = 100000 := rfl; omega)
      rw [hB.p j j1, hB.p i hi, ← j2]
      exact (nI_sb (a := pt j + 1) (b := 1) (by omega) (by omega)).symm
theorem wax {S : SS} {n sz i : Nat} {G : Cf} {Ys : Nat → Cf} {pt : Nat → Nat} (hW : WR S) (hp : PW S n) (hr1 : ∀ s, s < 4 → 1 ≤ rmN S s) (hB : BI S n G S Ys pt sz sz) (hi : i < sz) : Ew (f_M_wander (nI (cdX S n (Ys i))) S) (fun U => WR U ∧ WF S U ∧ ∃ m, m ≤ 50 ∧ U.1 0 77 = nI m ∧ Pth S n U m) := by
  have hr : ∀ s, rmN S s ≤ 10 := fun s => (rmN_le hW s).1
  have hv := (cd_v hp (hB.cf i hi).1).2
  refine v_eq (f_M_wander.eq_1 _ _) ?_
  refine v_wrO (fun T1 e1 g1 v1 => ?_)
  have w1 := wo_0_77 hW (rgl 0 0 399 rfl) e1
  refine v_grd rfl ?_
  refine v_wrA (fun T2 e2 g2 v2 => ?_)
  have w2 := wo_56 w1 (rg_nI (j := cdX S n (Ys i)) (by omega) (by omega) (by omega)) e2
  have F2 : WF S T2 := Fr.tr (Fr.tr Fr.rf g1 rfl) g2 rfl
  have p50 := hB.p50 hp hr1 hi
  refine wa_L14 hp hr hB NF i 0 T2 hi w2 F2 ((g2.1 0 77 rfl).trans v1) (fun j hj => ?_) (by omega) (by have : NF = 100000 := rfl; omega)
  have : j = 0 := by omega
  subst this
  exact ⟨Ys i, hB.cf i hi, v2⟩
end
section
/-! ===== what stays of a plan of fewest MOVES, and the plan itself ===== -/
def RM (S : SS) : Prop := ∀ s, s < 4 → 1 ≤ rmN S s
def PI (U : SS) : Prop := ¬ U.1 0 76 = -4 → ¬ U.1 0 76 = 1 → ∃ n m, PW U n ∧ U.1 0 77 = nI m ∧ m ≤ 50 ∧ (∀ j, j ≤ m → ∃ X, Cw U n X ∧ U.1 56 j = nI (cdX U n X)) ∧ ∀ c, c < 25920 → 0 ≤ U.1 55 c → ∃ X, Cw U n X ∧ cdX U n X = c
theorem PI.of {S U : SS} (h : PI S) (e : ∀ k, k ∈ [54, 55, 56] → ∀ i, U.1 k i = S.1 k i) (e76 : U.1 0 76 = S.1 0 76) (e77 : U.1 0 77 = S.1 0 77) (e81 : U.1 0 81 = S.1 0 81) : PI U := fun q q1 => by
  rw [e76] at q q1
  obtain ⟨n, m, h1, h2, h3, h4, h5⟩ := h q q1
  have sm : Sm S U := ⟨e81, fun j => e 54 (by decide) j⟩
  refine ⟨n, m, sm.pw h1, e77.trans h2, h3, fun j hj => ?_, fun c hc hv => ?_⟩
  · obtain ⟨X, x1, x2⟩ := h4 j hj
    exact ⟨X, x1.rb sm, by rw [e 56 (by decide) j, sm.cd]; exact x2⟩
  · rw [e 55 (by decide) c] at hv
    obtain ⟨X, x1, x2⟩ := h5 c hc hv
    exact ⟨X, x1.rb sm, by rw [sm.cd]; exact x2⟩
theorem PI.no {U : SS} (h : U.1 0 76 = -4) : PI U := fun q => absurd h q
theorem PI.no1 {U : SS} (h : U.1 0 76 = 1) : PI U := fun _ q => absurd h q
theorem start_cx {S U T : SS} {n : Nat} (hW : WR U) (hP : PL S) (hs : SameW S) (hg : RG S U n) (e47 : ∀ i, U.1 47 i = S.1 47 i) (e48 : ∀ i, U.1 48 i = S.1 48 i) (wT : WR T) (hT : tkP U T 0) : CX U n (cfS T) := by
  obtain ⟨g, g1, g2, g3⟩ := hg
  have k47 : U.1 (tkM 0) = S.1 47 := funext e47
  have k48 : U.1 (tkO 0) = S.1 48 := funext e48
  have nT := tk_NN hW hT
  have dT : DW (T.1 58) (T.1 57) := tk_DW wT hT (by rw [k47, k48]; exact hP.2.1)
  have bT : ∀ w, Bef (T.1 58) (T.1 57) w 4 0 ↔ Bef (S.1 47) (S.1 48) w 4 0 := fun w => by rw [tk_Bef wT hT w, k47, k48]
  exact cx_of wT nT dT (g := g) (fun j hj => ⟨(g1 j hj).1, (g1 j hj).2.1, (bT _).mpr ((hs _ (g1 j hj).1).mpr (g1 j hj).2.2)⟩) g2 (fun w hw k => g3 w hw ((hs w hw).mp ((bT _).mp k)))
set_option maxHeartbeats 1000000 in
theorem plx_0 {S : SS} (hW : WR S) (hP : PL S) (hR : RM S) (hs : SameW S) (h5 : StN S ≤ 5) : Ex2 (f_M_plan_j33 0 S) (fun r U => WR U ∧ Fr [51, 52, 53, 54, 55, 56, 57, 58, 59, 60] [(0, 76), (0, 77), (0, 81)] S U ∧ PI U) := by
  refine e_eq (f_M_plan_j33.eq_1 _ _) ?_
  refine e_wrO (fun S1 e1 g1 v1 => ?_)
  have w1 := WR.st (k := 0) (i := 76) hW trivial rfl e1
  refine e_f (by decide) ?_
  have k1 : ∀ k, k ∈ [46, 47, 48, 49, 50] → ∀ i, S1.1 k i = S.1 k i := fun k hk i => by
    simp only [List.mem_cons, List.mem_nil_iff, or_false] at hk
    rcases hk with rfl | rfl | rfl | rfl | rfl <;> exact g1.1 _ i rfl
  have P1 : PL S1 := hP.of k1
  have j47 : S1.1 47 = S.1 47 := funext (k1 47 (by decide))
  have j48 : S1.1 48 = S.1 48 := funext (k1 48 (by decide))
  have j49 : S1.1 49 = S.1 49 := funext (k1 49 (by decide))
  have j50 : S1.1 50 = S.1 50 := funext (k1 50 (by decide))
  have s1 : SameW S1 := fun w hw => by rw [j47, j48, j49, j50]; exact hs w hw
  have t1 : StN S1 ≤ 5 := by unfold StN; rw [j47]; exact h5
  refine e_cV (mex w1 P1 (fun n g a b => Nat.le_trans (h5_of w1 s1 n g a b) t1)) (fun U hU => ?_)
  obtain ⟨wU, gU, n, G, pU, rU, cG, Ys, pt, sz, hB⟩ := hU
  refine e_cV (tkx (x1 := 0) wU) (fun T2 h2 => ?_)
  obtain ⟨w2, g2, h2⟩ := h2
  have h2 : tkP U T2 0 := h2
  have c2 := start_cx wU P1 s1 rU (fun i => gU.1 47 i rfl) (fun i => gU.1 48 i rfl) w2 h2
  have sm2 : Sm U T2 := ⟨g2.1 0 81 rfl, fun j => g2.1 54 j rfl⟩
  have n2 := tk_NN wU h2
  refine e_cE (cdx' pU c2 sm2 w2 n2 rfl) (fun r T3 h3 => ?_)
  obtain ⟨w3, g3, e3⟩ := h3
  subst e3
  have hv := (cd_v pU c2).2
  refine e_wrO (fun T4 e4 g4 v4 => ?_)
  have w4 := wo_0_77 w3 (rgl 0 0 399 rfl) e4
  refine e_grd (inb_nI hv (by omega)) ?_
  rw [nI_clamp (n := cdX U n (cfS T2)) (by omega)]
  have k55 : ∀ i, T4.1 55 i = U.1 55 i := fun i => by rw [g4.1 55 i rfl, g3.1 55 i rfl, g2.1 55 i rfl]
  have F4 : Fr [51, 52, 53, 54, 55, 56, 57, 58, 59, 60] [(0, 76), (0, 77), (0, 81)] S T4 := Fr.tr (Fr.tr (Fr.tr (Fr.tr (Fr.tr Fr.rf g1 rfl) gU rfl) g2 rfl) g3 rfl) g4 rfl
  rw [k55]
  refine e_i (fun q => ?_) (fun q => ?_)
  · have hex : ∃ i, i < sz ∧ cdX U n (Ys i) = cdX U n (cfS T2) := by
      apply Classical.byContradiction
      intro no
      have := hB.out _ hv (fun i hi e => no ⟨i, hi, e⟩)
      rw [this] at q
      exact absurd q (by decide)
    obtain ⟨i, hi, ei⟩ := hex
    have sm4 : Sm U T4 := ⟨by rw [g4.1 0 81 rfl, g3.1 0 81 rfl, g2.1 0 81 rfl], fun j => by rw [g4.1 54 j rfl, g3.1 54 j rfl, g2.1 54 j rfl]⟩
    have rm4 : ∀ s, rmN T4 s = rmN U s := fun s => by unfold rmN; rw [g4.1 46 s rfl, g3.1 46 s rfl, g2.1 46 s rfl]
    have B4 : BI T4 n G T4 Ys pt sz sz := (hB.rb sm4 rm4).cg (fun i => by rw [g4.1 60 i rfl, g3.1 60 i rfl, g2.1 60 i rfl]) k55
    have r4 : ∀ s, s < 4 → 1 ≤ rmN T4 s := fun s hs => by
      have : rmN T4 s = rmN S s := by unfold rmN; rw [F4.1 46 s rfl]
      rw [this]; exact hR s hs
    rw [← ei, ← sm4.cd]
    refine e_cV (wax w4 (sm4.pw pU) r4 B4 hi) (fun V hV => ?_)
    obtain ⟨wV, FV, m, m1, m2, m3⟩ := hV
    refine e_wrO (fun Z eZ gZ vZ => ?_)
    have wZ := WR.st (k := 0) (i := 76) wV trivial rfl eZ
    have FZ : Fr [51, 52, 53, 54, 55, 56, 57, 58, 59, 60] [(0, 76), (0, 77), (0, 81)] S Z := Fr.tr (Fr.tr F4 FV rfl) gZ rfl
    have smZ : Sm T4 Z := ⟨(gZ.1 0 81 rfl).trans (FV.1 0 81 rfl), fun j => (gZ.1 54 j rfl).trans (FV.1 54 j rfl)⟩
    refine e_some ⟨wZ, FZ, fun _ _ => ⟨n, m, smZ.pw (sm4.pw pU), (gZ.1 0 77 rfl).trans m2, m1, fun j hj => ?_, fun c hc hv => ?_⟩⟩
    · obtain ⟨X, x1, x2⟩ := m3 j hj
      exact ⟨X, x1.w.rb smZ, by rw [gZ.1 56 j rfl, smZ.cd]; exact x2⟩
    · rw [gZ.1 55 c rfl, FV.1 55 c rfl] at hv
      have hex : ∃ i, i < sz ∧ cdX T4 n (Ys i) = c := by
        apply Classical.byContradiction
        intro no
        have := B4.out c hc (fun i hi e => no ⟨i, hi, e⟩)
        rw [this] at hv
        exact absurd hv (by decide)
      obtain ⟨l, l1, l2⟩ := hex
      exact ⟨Ys l, (B4.cf l l1).w.rb smZ, by rw [smZ.cd]; exact l2⟩
  · refine e_some ⟨w4, F4, PI.no ?_⟩
    rw [g4.1 0 76 rfl, g3.1 0 76 rfl, g2.1 0 76 rfl, gU.1 0 76 rfl]
    exact v1
end
section
/-! ===== code() of whatever stands there: NONE, or a number in range ===== -/
theorem lss_le (f : Nat → Nat) (i : Nat) : ∀ d j, lss f i d j ≤ d
  | 0, j => Nat.le_refl 0
  | d + 1, j => by
    have := lss_le f i d (j + 1)
    show (if f j < f i then 1 else 0) + lss f i d (j + 1) ≤ d + 1
    by_cases c : f j < f i
    · rw [if_pos c]; omega
    · rw [if_neg c]; omega
theorem leh_le (f : Nat → Nat) (n : Nat) : ∀ d i c, i + d = n → leh f n d i c + 1 ≤ (c + 1) * fcN d
  | 0, i, c, h => by
    show c + 1 ≤ (c + 1) * 1
    omega
  | d + 1, i, c, h => by
    have q := leh_le f n d (i + 1) (c * (n - i) + lss f i (n - (i + 1)) (i + 1)) (by omega)
    have l := lss_le f i (n - (i + 1)) (i + 1)
    show leh f n d (i + 1) (c * (n - i) + lss f i (n - (i + 1)) (i + 1)) + 1 ≤ (c + 1) * ((d + 1) * fcN d)
    rw [← Nat.mul_assoc]
    refine Nat.le_trans q (Nat.mul_le_mul_right _ ?_)
    rw [show n - i = d + 1 by omega] at *
    rw [show n - (i + 1) = d by omega] at *
    rw [Nat.succ_mul c (d + 1)]
    omega
theorem cg_L28 {S : SS} {K : Int32 → Int32 → SS → Option (Int32 × SS)} {P : Int32 → SS → Prop} {s : Nat} (hW0 : WR S) (hs : s < 4) (hoff : off S s + mN S s ≤ 5) (hX : ∀ T, WR T → Fr [59] [] S T → P (-4) T) (hK : ∀ T, WR T → Fr [59] [] S T → (∀ j, j < off S s + mN S s → ∃ v, v < 10 ∧ T.1 59 j = nI v) → Ex2 (K (nI (off S s + mN S s)) (nI (s + 1)) T) P) : ∀ (N i : Nat) (T : SS), WR T → Fr [59] [] S T → (∀ j, j < off S s + i → ∃ v, v < 10 ∧ T.1 59 j = nI v) → i ≤ mN S s → mN S s < N + i → Ex2 (f_M_code_L28 K N (nI (off S s + i)) (nI s) (nI i) T) P
  | 0, i, T, hW, hF, hj, hi, hN => by omega
  | N + 1, i, T, hW, hF, hj, hi, hN => by
    obtain ⟨lm, em⟩ := mN_le hW0 s
    refine e_eq (f_M_code_L28.eq_2 _ _ _ _ _ _) ?_
    rw [nI_clamp (n := s) (by omega), hF.1 58 s rfl, em]
    refine e_grd (inb_nI hs (by omega)) ?_
    refine e_i (fun q => ?_) (fun q => ?_)
    · have : i = mN S s := by
        rcases Nat.lt_or_ge i (mN S s) with e | e
        · exact absurd q (nI_ge e (by omega))
        · omega
      subst this
      refine e_nm ?_
      rw [nI_1]
      exact hK T hW hF hj
    · have him : i < mN S s := by
        rcases Nat.lt_or_ge i (mN S s) with e | e
        · exact e
        · exact absurd (nI_le e (by omega)) q
      have e : (10 : Int32) * nI s + nI i = nI (10 * s + i) := by
        rw [show (10 : Int32) * nI s = nI (10 * s) from nI_mul 10 s, nI_add]
      rw [e, nI_clamp (n := 10 * s + i) (by omega)]
      refine e_grd (inb_nI (by omega) (by omega)) ?_
      refine e_cE (t_M_rankOf hW) (fun r T1 h1 => ?_)
      obtain ⟨-, h1, hr⟩ := h1
      have := fr_nil h1
      subst this
      refine e_grd (inb_nI (by omega) (by omega)) ?_
      rw [nI_clamp (n := off S s + i) (by omega)]
      refine e_wrA (fun U eU gU vU => ?_)
      have hW1 := WR.st (k := 59) hW trivial rfl eU
      refine e_grd (inb_nI (by omega) (by omega)) ?_
      rw [vU]
      refine e_i (fun q4 => ?_) (fun q4 => ?_)
      · exact e_some (hX U hW1 (hF.tr gU rfl))
      · obtain ⟨v, v1, v2, v3, v4⟩ := rg_ex (rn.ne hr q4) (by omega)
        refine e_nm ?_
        refine e_nm ?_
        rw [nI_1, nI_1, show off S s + i + 1 = off S s + (i + 1) by omega]
        refine cg_L28 hW0 hs hoff hX hK N (i + 1) U hW1 (hF.tr gU rfl) (fun j hj2 => ?_) (by omega) (by omega)
        rw [eU, st_at, if_pos rfl]
        by_cases c : j = off S s + i
        · rw [if_pos c]; exact ⟨v, by omega, v1⟩
        · rw [if_neg c]; exact hj j (by omega)
theorem pick10 {T : SS} {n : Nat} (h : ∀ j, j < n → ∃ v, v < 10 ∧ T.1 59 j = nI v) : ∀ j, j < n → T.1 59 j = nI ((T.1 59 j).toNatClampNeg) ∧ (T.1 59 j).toNatClampNeg < 10 := fun j hj => by
  obtain ⟨v, v1, v2⟩ := h j hj
  have : (T.1 59 j).toNatClampNeg = v := by rw [v2, nI_clamp (by omega)]
  rw [this]
  exact ⟨v2, v1⟩
theorem cg_L21 {S : SS} {n : Nat} (hW0 : WR S) (hn : n ≤ 5) (hoff : off S 4 = n) : ∀ (N s : Nat) (T : SS), WR T → Fr [59] [] S T → (∀ j, j < off S s → ∃ v, v < 10 ∧ T.1 59 j = nI v) → s ≤ 4 → 4 < N + s → Ex2 (f_M_code_L21 N (nI (off S s)) (nI s) T) (fun r U => WR U ∧ Fr [59] [] S U ∧ rn r 0 25919)
  | 0, s, T, hW, hF, hj, hs, hN => by omega
  | N + 1, s, T, hW, hF, hj, hs, hN => by
    refine e_eq (f_M_code_L21.eq_2 _ _ _ _) ?_
    refine e_i (fun q => ?_) (fun q => ?_)
    · have : s = 4 := by
        rcases Nat.lt_or_ge s 4 with e | e
        · exact absurd q (nI_ge (b := 4) e (by omega))
        · omega
      subst this
      rw [hoff] at hj ⊢
      have pk := pick10 hj
      refine e_mono (co_L92 hW0 hn hW hF Fr.rf pk n 0 0 NF (by omega) (by have : NF = 100000 := rfl; omega)) (fun r U hU => ?_)
      obtain ⟨u1, u2, u3⟩ := hU
      refine ⟨u1, u2, Or.inr ?_⟩
      rw [u3]
      have l := leh_le (fun j => (T.1 59 j).toNatClampNeg) n n 0 0 (by omega)
      have f := fcN_le hn
      have o := off_4 S
      generalize leh (fun j => (T.1 59 j).toNatClampNeg) n n 0 0 = L at l ⊢
      exact rg_nI (by omega) (by omega) (by omega)
    · have hs4 : s < 4 := by
        rcases Nat.lt_or_ge s 4 with e | e
        · exact e
        · exact absurd (nI_le (a := 4) e (by omega)) q
      have hle := off_le S hs4
      have lm := (mN_le hW0 s).1
      refine cg_L28 hW0 hs4 (by omega) (fun T' hW' hF' => ⟨hW', hF', rn4l _ _⟩) (fun T' hW' hF' hj' => ?_) NF 0 T hW hF hj (by omega) (by have : NF = 100000 := rfl; omega)
      exact cg_L21 hW0 hn hoff N (s + 1) T' hW' hF' hj' (by omega) (by omega)
theorem cog {S : SS} {n : Nat} (hW : WR S) (h81 : S.1 0 81 = nI n) (hn : n ≤ 5) : Ex2 (f_M_code S) (fun r U => WR U ∧ Fr [59] [] S U ∧ rn r 0 25919) := by
  refine e_eq (f_M_code.eq_1 _) ?_
  refine e_bnd ?_
  refine e_eq (f_M_sumOf_M_many.eq_1 _) ?_
  refine e_grd rfl ?_
  refine e_grd rfl ?_
  refine e_grd rfl ?_
  refine e_grd rfl ?_
  refine e_some ?_
  rw [show (0 : Int32).toNatClampNeg = 0 by decide, show (1 : Int32).toNatClampNeg = 1 by decide, show (2 : Int32).toNatClampNeg = 2 by decide, show (3 : Int32).toNatClampNeg = 3 by decide, (mN_le hW 0).2, (mN_le hW 1).2, (mN_le hW 2).2, (mN_le hW 3).2, nI_add, nI_add, nI_add, h81]
  have l0 := (mN_le hW 0).1
  have l1 := (mN_le hW 1).1
  have l2 := (mN_le hW 2).1
  have l3 := (mN_le hW 3).1
  refine e_i (fun q => ?_) (fun q => ?_)
  · have := nI_inj (by omega) (by omega) q
    exact cg_L21 hW hn (by rw [off_4]; exact this) NF 0 S hW Fr.rf (fun j hj => absurd hj (by show ¬ j < 0; omega)) (by omega) (by have : NF = 100000 := rfl; omega)
  · exact e_some ⟨hW, Fr.rf, rn4l _ _⟩
/-! ===== proves and check ===== -/
def PF (B T : SS) : Prop := Fr [57, 58, 59] [] B T
theorem PF.sm {S T : SS} (h : PF S T) : Sm S T := ⟨h.1 0 81 rfl, fun j => h.1 54 j rfl⟩
set_option maxHeartbeats 1000000 in
theorem pr_L97 {B : SS} {K : Int32 → Int32 → SS → Option (Int32 × SS)} {P : Int32 → SS → Prop} {n c : Nat} {X : Cf} (hp : PW B n) (hX : Cw B n X) (hc : c < 25920) (hK : ∀ U b, WR U → PF B U → Ex2 (K (bI b) (nI (c + 1)) U) P) : ∀ (N x : Nat) (b : Bool) (T : SS), WR T → PF B T → NN T → cfS T = X → x ≤ 80 → 80 < N + x → Ex2 (f_M_proves_L97 K N (bI b) (nI c) (nI x) T) P
  | 0, x, b, T, hW, hF, hN, hC, hx, hf => by omega
  | N + 1, x, b, T, hW, hF, hN, hC, hx, hf => by
    have out : Ex2 (f_M_proves_j214 K (bI b) (nI c) T) P := by
      refine e_eq (f_M_proves_j214.eq_1 _ _ _ _) ?_
      refine e_nm ?_
      rw [nI_1]
      exact hK T b hW hF
    refine e_eq (f_M_proves_L97.eq_2 _ _ _ _ _ _) ?_
    by_cases c8 : x = 80
    · subst c8
      exact e_t (nI_le (a := 80) (by omega) (by omega)) out
    · have hx8 : x < 80 := by omega
      refine e_f (nI_ge (b := 80) hx8 (by omega)) ?_
      refine e_i (fun _ => out) (fun _ => ?_)
      rw [x_20 hx8, x_4 hx8, x_5 hx8]
      refine e_nm ?_
      refine e_nm ?_
      refine e_nm ?_
      have go : ∀ (b' : Bool) (T' : SS), WR T' → PF B T' → NN T' → cfS T' = X → Ex2 (f_M_proves_j208 (fun v0 v1 v2 S => f_M_proves_L97 K N v0 v1 v2 S) (bI b') (nI c) (nI x) T') P := fun b' T' a1 a2 a3 a4 => by
        refine e_eq (f_M_proves_j208.eq_1 _ _ _ _ _) ?_
        refine e_nm ?_
        rw [nI_1]
        exact pr_L97 hp hX hc hK N (x + 1) b' T' a1 a2 a3 a4 (by omega) (by omega)
      have go7 : ∀ (b' : Bool) (T' : SS), WR T' → PF B T' → NN T' → cfS T' = X → Ex2 (f_M_proves_j207 (fun v0 v1 v2 S => f_M_proves_L97 K N v0 v1 v2 S) (nI c) (nI x) (bI b') T') P := fun b' T' a1 a2 a3 a4 => e_eq (f_M_proves_j207.eq_1 _ _ _ _ _) (go b' T' a1 a2 a3 a4)
      have go6 : ∀ (T' : SS), WR T' → PF B T' → NN T' → cfS T' = X → Ex2 (f_M_proves_j206 (fun v0 v1 v2 S => f_M_proves_L97 K N v0 v1 v2 S) (nI c) (nI x) T') P := fun T' a1 a2 a3 a4 => e_eq (f_M_proves_j206.eq_1 _ _ _ _) (go7 false T' a1 a2 a3 a4)
      have ha : x / 20 < 4 := by omega
      have hb : x / 5 % 4 < 4 := by omega
      have la : mN T (x / 20) = (X (x / 20)).length := by rw [← hC, cfS_len ha]
      have lb : mN T (x / 5 % 4) = (X (x / 5 % 4)).length := by rw [← hC, cfS_len hb]
      refine e_cE (mmx hW ha hb (by omega)) (fun r T1 h1 => ?_)
      obtain ⟨e1, h1⟩ := h1
      subst e1
      rcases h1 with ⟨hr0, h1⟩ | ⟨hr1, h1⟩
      · exact e_t hr0 (go b T1 hW hF hN hC)
      · refine e_f (by rw [hr1]; decide) ?_
        obtain ⟨hab, q1, q2, q3⟩ := h1
        have r10 := (rmN_le hW (x / 5 % 4)).1
        have hZ := cw_mv hX ha hb hab q1 (by omega) (by omega)
        generalize hZe : mvd (x / 20) (x / 5 % 4) (x % 5 + 1) X = Z at hZ
        refine e_cV (shn hW hN ha hb hab (by omega) (by omega)) (fun T2 h2 => ?_)
        obtain ⟨⟨w2, g2, c2⟩, n2⟩ := h2
        rw [hC, hZe] at c2
        have f2 : PF B T2 := Fr.tr hF g2 rfl
        refine e_cE (cdx' hp hZ.1 f2.sm w2 n2 c2) (fun r3 T3 h3 => ?_)
        obtain ⟨w3, g3, e3⟩ := h3
        have f3 : PF B T3 := Fr.tr f2 g3 rfl
        have n3 := nn_cg n2 (fun i => g3.1 57 i rfl) (fun s => g3.1 58 s rfl)
        have c3 : cfS T3 = Z := (cf_cg (fun i => g3.1 57 i rfl) (fun s => g3.1 58 s rfl)).trans c2
        have q2' : x % 5 + 1 ≤ (X (x / 20)).length := by omega
        have z1 : (Z (x / 5 % 4)).length = (X (x / 5 % 4)).length + (x % 5 + 1) := by
          rw [← hZe, mvd_len hab q2', if_neg (Ne.symm hab), if_pos rfl]
        have z2 : (Z (x / 20)).length = (X (x / 20)).length - (x % 5 + 1) := by
          rw [← hZe, mvd_len hab q2', if_pos rfl]
        have y1 : mN T3 (x / 5 % 4) = (Z (x / 5 % 4)).length := by rw [← c3, cfS_len hb]
        have y2 : mN T3 (x / 20) = (Z (x / 20)).length := by rw [← c3, cfS_len ha]
        have l10 : (X (x / 20)).length ≤ 10 := by rw [← la]; exact (mN_le hW _).1
        refine e_cV (shn w3 n3 hb ha (Ne.symm hab) (n := x % 5 + 1) (by omega) (by omega)) (fun T4 h4 => ?_)
        obtain ⟨⟨w4, g4, c4⟩, n4⟩ := h4
        have c4 : cfS T4 = X := by
          rw [c4, c3, ← hZe]
          exact mvd_rev hab q2'
        have f4 : PF B T4 := Fr.tr f3 g4 rfl
        have hv := (cd_v hp hZ.1).2
        subst e3
        refine e_grd (inb_nI hv (by omega)) ?_
        refine e_i (fun _ => go6 T4 w4 f4 n4 c4) (fun _ => ?_)
        refine e_grd (inb_nI hv (by omega)) ?_
        refine e_grd (inb_nI hc (by omega)) ?_
        exact e_i (fun _ => go6 T4 w4 f4 n4 c4) (fun _ => go7 true T4 w4 f4 n4 c4)
theorem pr_L63 {B : SS} {n : Nat} (hp : PW B n) (hB : ∀ c, c < 25920 → 0 ≤ B.1 55 c → ∃ X, Cw B n X ∧ cdX B n X = c) : ∀ (N c : Nat) (b : Bool) (T : SS), WR T → PF B T → c ≤ 25920 → 25920 < N + c → Ex2 (f_M_proves_L63 N (bI b) (nI c) T) (fun r U => WR U ∧ PF B U ∧ rg r 0 1)
  | 0, c, b, T, hW, hF, hc, hN => by omega
  | N + 1, c, b, T, hW, hF, hc, hN => by
    have fin : Ex2 (grd (isB (bI b)) (some (bI b, T))) (fun r U => WR U ∧ PF B U ∧ rg r 0 1) := by
      cases b
      · exact e_grd (by decide) (e_some ⟨hW, hF, rgl 0 0 1 rfl⟩)
      · exact e_grd (by decide) (e_some ⟨hW, hF, rgl 1 0 1 rfl⟩)
    refine e_eq (f_M_proves_L63.eq_2 _ _ _ _) ?_
    by_cases cc : c = 25920
    · subst cc
      exact e_t (nI_le (a := 25920) (by omega) (by omega)) fin
    · have hc2 : c < 25920 := by omega
      refine e_f (nI_ge (b := 25920) hc2 (by omega)) ?_
      refine e_i (fun _ => fin) (fun _ => ?_)
      refine e_grd (inb_nI hc2 (by omega)) ?_
      rw [nI_clamp (n := c) (by omega), hF.1 55 c rfl]
      refine e_i (fun q => ?_) (fun q => ?_)
      · obtain ⟨X, x1, x2⟩ := hB c hc2 q
        have d := dcw hp x1 hF.sm hW
        rw [x2] at d
        refine e_cV d (fun T1 h1 => ?_)
        obtain ⟨w1, g1, n1, c1⟩ := h1
        exact pr_L97 hp x1 hc2 (fun U b' u1 u2 => pr_L63 hp hB N (c + 1) b' U u1 u2 (by omega) (by omega)) NF 0 b T1 w1 (Fr.tr hF g1 rfl) n1 c1 (by omega) (by have : NF = 100000 := rfl; omega)
      · refine e_eq (f_M_proves_j214.eq_1 _ _ _ _) ?_
        refine e_nm ?_
        rw [nI_1]
        exact pr_L63 hp hB N (c + 1) b T hW hF (by omega) (by omega)
theorem prx {S : SS} (hW : WR S) (hI : PI S) (q4 : ¬ S.1 0 76 = -4) (q1 : ¬ S.1 0 76 = 1) : Ex2 (f_M_proves S) (fun r U => WR U ∧ Fr [57, 58, 59] [] S U ∧ rg r 0 1) := by
  obtain ⟨n, m, hp, -, -, -, hB⟩ := hI q4 q1
  have j59 : ∀ (b : Bool) (T : SS), WR T → PF S T → Ex2 (f_M_proves_j59 (bI b) T) (fun r U => WR U ∧ Fr [57, 58, 59] [] S U ∧ rg r 0 1) := fun b T a1 a2 => e_eq (f_M_proves_j59.eq_1 _ _) (pr_L63 hp hB NF 0 b T a1 a2 (by omega) (by have : NF = 100000 := rfl; omega))
  have j58 : ∀ (T : SS), WR T → PF S T → Ex2 (f_M_proves_j58 T) (fun r U => WR U ∧ Fr [57, 58, 59] [] S U ∧ rg r 0 1) := fun T a1 a2 => e_eq (f_M_proves_j58.eq_1 _) (j59 false T a1 a2)
  refine e_eq (f_M_proves.eq_1 _) ?_
  refine e_cV (t_M_take hW) (fun T1 h1 => ?_)
  obtain ⟨w1, g1⟩ := h1
  refine e_cE (cog w1 ((g1.1 0 81 rfl).trans hp.1.1) hp.1.2.1) (fun r2 T2 h2 => ?_)
  obtain ⟨w2, g2, r2r⟩ := h2
  refine e_cV (t_M_take w2) (fun T3 h3 => ?_)
  obtain ⟨w3, g3⟩ := h3
  refine e_cE (cog w3 (by rw [g3.1 0 81 rfl, g2.1 0 81 rfl, g1.1 0 81 rfl]; exact hp.1.1) hp.1.2.1) (fun r4 T4 h4 => ?_)
  obtain ⟨w4, g4, r4r⟩ := h4
  have F4 : PF S T4 := Fr.tr (Fr.tr (Fr.tr (Fr.tr Fr.rf g1 rfl) g2 rfl) g3 rfl) g4 rfl
  refine e_i (fun _ => j58 T4 w4 F4) (fun q2 => ?_)
  refine e_i (fun _ => j58 T4 w4 F4) (fun q4 => ?_)
  refine e_grd (inb_g (rn.ne r2r q2) rfl) ?_
  refine e_i (fun _ => ?_) (fun _ => j58 T4 w4 F4)
  refine e_grd (inb_g (rn.ne r4r q4) rfl) ?_
  exact e_i (fun _ => j59 true T4 w4 F4) (fun _ => j58 T4 w4 F4)
theorem t_M_check {S : SS} (hW : WR S) (hI : PI S) : Ex2 (f_M_check S) (fun r U => WR U ∧ Fr [57, 58, 59] [] S U) := by
  refine e_eq (f_M_check.eq_1 _) ?_
  refine e_i (fun _ => e_some ⟨hW, Fr.rf⟩) (fun q => ?_)
  refine e_cE (t_M_works hW) (fun r1 T1 h1 => ?_)
  obtain ⟨w1, g1, -⟩ := h1
  have F1 : Fr [57, 58, 59] [] S T1 := Fr.tr Fr.rf g1 rfl
  refine e_i (fun _ => e_some ⟨w1, F1⟩) (fun _ => ?_)
  refine e_i (fun _ => e_some ⟨w1, F1⟩) (fun q1 => ?_)
  have I1 : PI T1 := hI.of (fun k hk i => by
    simp only [List.mem_cons, List.mem_nil_iff, or_false] at hk
    rcases hk with rfl | rfl | rfl <;> exact g1.1 _ i rfl) (g1.1 0 76 rfl) (g1.1 0 77 rfl) (g1.1 0 81 rfl)
  refine e_cE (prx w1 I1 (by rw [g1.1 0 76 rfl]; exact q) q1) (fun r2 T2 h2 => ?_)
  obtain ⟨w2, g2, -⟩ := h2
  exact e_i (fun _ => e_some ⟨w2, Fr.tr F1 g2 rfl⟩) (fun _ => e_some ⟨w2, Fr.tr F1 g2 rfl⟩)
end
section
/-! ===== byRule: it comes to an end, with at most 200 MOVES ===== -/
def FSt (S : SS) (w r : Int32) (s i : Nat) : Prop := (r = -4 ∧ ¬ Bef (S.1 58) (S.1 57) w s i) ∨ ∃ s' i', s' < 4 ∧ i' < mN S s' ∧ r = nI s' ∧ S.1 57 (10 * s' + i') = w
theorem so_L13 {S : SS} {K : Int32 → Int32 → Int32 → SS → Option (Int32 × SS)} {P : Int32 → SS → Prop} {w : Int32} {s : Nat} (hW : WR S) (hs : s < 4) (hK : ∀ r, FSt S w r (s + 1) 0 → Ex2 (K w r (nI (s + 1)) S) P) : ∀ (N i : Nat) (r : Int32), FSt S w r s i → i ≤ mN S s → mN S s < N + i → Ex2 (f_M_stackOf_L13 K N w r (nI s) (nI i) S) P
  | 0, i, r, hr, hi, hN => by omega
  | N + 1, i, r, hr, hi, hN => by
    obtain ⟨lm, em⟩ := mN_le hW s
    refine e_eq (f_M_stackOf_L13.eq_2 _ _ _ _ _ _ _) ?_
    rw [nI_clamp (n := s) (by omega), em]
    refine e_grd (inb_nI hs (by omega)) ?_
    by_cases c : i = mN S s
    · refine e_t (nI_le (by omega) (by omega)) ?_
      refine e_nm ?_
      rw [nI_1]
      refine hK r ?_
      rcases hr with ⟨h1, h2⟩ | h
      · exact Or.inl ⟨h1, fun k => h2 ((Bef_end hs (by rw [mN_ti hW]; omega)).mpr k)⟩
      · exact Or.inr h
    · have him : i < mN S s := by omega
      refine e_f (nI_ge him (by omega)) ?_
      have e : (10 : Int32) * nI s + nI i = nI (10 * s + i) := by
        rw [show (10 : Int32) * nI s = nI (10 * s) from nI_mul 10 s, nI_add]
      rw [e, nI_clamp (n := 10 * s + i) (by omega)]
      refine e_grd (inb_nI (by omega) (by omega)) ?_
      refine e_i (fun q => ?_) (fun q => ?_)
      · refine e_eq (f_M_stackOf_j45.eq_1 _ _ _ _ _ _) ?_
        refine e_nm ?_
        rw [nI_1]
        exact so_L13 hW hs hK N (i + 1) _ (Or.inr ⟨s, i, hs, him, rfl, q⟩) (by omega) (by omega)
      · refine e_eq (f_M_stackOf_j45.eq_1 _ _ _ _ _ _) ?_
        refine e_nm ?_
        rw [nI_1]
        refine so_L13 hW hs hK N (i + 1) r ?_ (by omega) (by omega)
        rcases hr with ⟨h1, h2⟩ | h
        · refine Or.inl ⟨h1, fun k => h2 ?_⟩
          obtain ⟨s', i', k1, k2, k3, k4⟩ := k
          refine ⟨s', i', ?_, k2, k3, k4⟩
          rcases k1 with k1 | ⟨k1, k5⟩
          · exact Or.inl k1
          · refine Or.inr ⟨k1, ?_⟩
            by_cases ei : i' = i
            · subst ei; subst k1; exact absurd k4 q
            · omega
        · exact Or.inr h
theorem so_L5 {S : SS} {w : Int32} (hW : WR S) : ∀ (N s : Nat) (r : Int32), FSt S w r s 0 → s ≤ 4 → 4 < N + s → Ex2 (f_M_stackOf_L5 N w r (nI s) S) (fun r U => U = S ∧ FSt S w r 4 0)
  | 0, s, r, hr, hs, hN => by omega
  | N + 1, s, r, hr, hs, hN => by
    refine e_eq (f_M_stackOf_L5.eq_2 _ _ _ _ _) ?_
    by_cases c : s = 4
    · subst c
      refine e_t (nI_le (a := 4) (by omega) (by omega)) ?_
      exact e_some ⟨rfl, hr⟩
    · have hs4 : s < 4 := by omega
      refine e_f (nI_ge (b := 4) hs4 (by omega)) ?_
      have lm := (mN_le hW s).1
      exact so_L13 hW hs4 (fun r' hr' => so_L5 hW N (s + 1) r' hr' (by omega) (by omega)) NF 0 r hr (by omega) (by have : NF = 100000 := rfl; omega)
theorem sox {S : SS} {w : Int32} (hW : WR S) : Ex2 (f_M_stackOf w S) (fun r U => U = S ∧ FSt S w r 4 0) := by
  refine e_eq (f_M_stackOf.eq_1 _ _) ?_
  refine so_L5 hW NF 0 _ (Or.inl ⟨rfl, fun k => ?_⟩) (by omega) (by have : NF = 100000 := rfl; omega)
  obtain ⟨s', i', h1, -⟩ := k
  omega
def BF (S T : SS) : Prop := Fr [51, 52, 53, 57, 58] [(0, 77)] S T
theorem cax {S : SS} {a m : Nat} {b : Int32} (hW : WR S) (hN : NN S) (ha : a < 4) (hb : rn b 0 3) (h77 : S.1 0 77 = nI m) (hm : m + 1 < 400) : Ex2 (f_M_carries (nI a) b S) (fun r U => WR U ∧ BF S U ∧ (r = 0 ∨ (r = 1 ∧ NN U ∧ U.1 0 77 = nI (m + 1) ∧ ∃ b', b' < 4 ∧ a ≠ b' ∧ 1 ≤ mN S a ∧ mN S b' + 1 ≤ 10 ∧ cfS U = mvd a b' 1 (cfS S)))) := by
  refine e_eq (f_M_carries.eq_1 _ _ _) ?_
  refine e_i (fun _ => e_some ⟨hW, Fr.rf, Or.inl rfl⟩) (fun q => ?_)
  obtain ⟨b', rfl, -, b2, b3⟩ := rg_ex (rn.ne hb q) (by omega)
  have hb4 : b' < 4 := by omega
  refine e_cE (mmx (n := 1) hW ha hb4 (by omega)) (fun r T1 h1 => ?_)
  obtain ⟨e1, h1⟩ := h1
  subst e1
  rcases h1 with ⟨hr0, h1⟩ | ⟨hr1, h1⟩
  · exact e_t hr0 (e_some ⟨hW, Fr.rf, Or.inl rfl⟩)
  · refine e_f (by rw [hr1]; decide) ?_
    obtain ⟨hab, -, q2, q3⟩ := h1
    have r10 := (rmN_le hW b').1
    rw [h77]
    refine e_grd (inb_nI (by omega) (by omega)) ?_
    refine e_wrA (fun T2 e2 g2 v2 => ?_)
    have w2 := wo_51 hW (rg_nI (j := a) (by omega) (by omega) (by omega)) e2
    rw [g2.1 0 77 rfl, h77]
    refine e_grd (inb_nI (by omega) (by omega)) ?_
    refine e_wrA (fun T3 e3 g3 v3 => ?_)
    have w3 := wo_52 w2 (rg_nI (j := b') (by omega) (by omega) (by omega)) e3
    rw [g3.1 0 77 rfl, g2.1 0 77 rfl, h77]
    refine e_grd (inb_nI (by omega) (by omega)) ?_
    refine e_wrA (fun T4 e4 g4 v4 => ?_)
    have w4 := WR.st (k := 53) w3 trivial rfl e4
    rw [g4.1 0 77 rfl, g3.1 0 77 rfl, g2.1 0 77 rfl, h77, nI_1]
    refine e_wrO (fun T5 e5 g5 v5 => ?_)
    have w5 := wo_0_77 w4 (rg_nI (j := m + 1) (by omega) (by omega) (by omega)) e5
    have a57 : ∀ i, T5.1 57 i = T1.1 57 i := fun i => by rw [g5.1 57 i rfl, g4.1 57 i rfl, g3.1 57 i rfl, g2.1 57 i rfl]
    have a58 : ∀ i, T5.1 58 i = T1.1 58 i := fun i => by rw [g5.1 58 i rfl, g4.1 58 i rfl, g3.1 58 i rfl, g2.1 58 i rfl]
    have m5 : ∀ s, mN T5 s = mN T1 s := fun s => by unfold mN; rw [a58]
    have F5 : BF T1 T5 := Fr.tr (Fr.tr (Fr.tr (Fr.tr Fr.rf g2 rfl) g3 rfl) g4 rfl) g5 rfl
    refine e_cV (shn (n := 1) w5 (nn_cg hN a57 a58) ha hb4 hab (by rw [m5]; exact q2) (by rw [m5]; omega)) (fun T6 h6 => ?_)
    obtain ⟨⟨w6, g6, c6⟩, n6⟩ := h6
    rw [cf_cg a57 a58] at c6
    exact e_some ⟨w6, Fr.tr F5 g6 rfl, Or.inr ⟨rfl, n6, (g6.1 0 77 rfl).trans v5, b', hb4, hab, q2, by omega, c6⟩⟩
/-- the GOAL's WAGONS all stand somewhere -/
def HasG (B T : SS) : Prop := ∀ w, w < 10 → Bef (B.1 49) (B.1 50) (nI w) 4 0 → 0 < (Flat (cfS T)).count w
theorem hasG_mv {B T U : SS} {a b : Nat} (h : HasG B T) (ha : a < 4) (hb : b < 4) (hab : a ≠ b) (h1 : 1 ≤ mN T a) (h2 : mN T b + 1 ≤ 10) (e : cfS U = mvd a b 1 (cfS T)) : HasG B U := fun w hw k => by
  have m : Mv (fun _ => 10) (cfS T) (cfS U) := ⟨a, b, 1, ha, hb, hab, Nat.le_refl 1, by rw [cfS_len ha]; exact h1, by rw [cfS_len hb]; exact h2, e⟩
  rw [mv_count m]
  exact h w hw k
theorem mvd_mN {T U : SS} {a b : Nat} (ha : a < 4) (hab : a ≠ b) (h1 : 1 ≤ mN T a) (e : cfS U = mvd a b 1 (cfS T)) : mN U a = mN T a - 1 := by
  rw [← cfS_len (S := U) ha, e, mvd_len hab (by rw [cfS_len ha]; exact h1), if_pos rfl, cfS_len ha]
theorem mvd_wN {T U : SS} {a b p : Nat} (ha : a < 4) (hab : a ≠ b) (h1 : 1 ≤ mN T a) (e : cfS U = mvd a b 1 (cfS T)) (hp : p < mN T a - 1) : wN U a p = wN T a p := by
  have q := cfS_get (S := U) ha (i := p) (by rw [mvd_mN ha hab h1 e]; exact hp)
  rw [e] at q
  unfold mvd at q
  rw [if_pos rfl, List.getElem?_take, if_pos (by rw [cfS_len ha]; exact hp), cfS_get ha (by omega)] at q
  exact (Option.some.inj q).symm
def BK (B : SS) (U : SS) : Prop := WR U ∧ BF B U
set_option maxHeartbeats 1000000 in
theorem br_L102 {B : SS} {K : Int32 → Int32 → SS → Option (Int32 × SS)} {s i f w M : Nat} (hs : s < 4) (hf : f < 4) (hi : i < 11) (hw : w < 10) (hM : M < 399) (hK : ∀ U m, WR U → BF B U → NN U → HasG B U → U.1 0 77 = nI m → m ≤ M → Ex2 (K (nI s) (nI (i + 1)) U) (fun _ U => BK B U)) : ∀ (N : Nat) (T : SS) (m : Nat), WR T → BF B T → NN T → HasG B T → T.1 0 77 = nI m → m + mN T f ≤ M → (∃ p, p < mN T f ∧ wN T f p = w) → mN T f < N → Ex2 (f_M_byRule_L102 K N (nI s) (nI i) (nI w) (nI f) T) (fun _ U => BK B U)
  | 0, T, m, hW, hF, hN, hH, h77, hm, hp, hf' => by omega
  | N + 1, T, m, hW, hF, hN, hH, h77, hm, hp, hf' => by
    obtain ⟨p, p1, p2⟩ := hp
    obtain ⟨lf, ef⟩ := mN_le hW f
    refine e_eq (f_M_byRule_L102.eq_2 _ _ _ _ _ _ _) ?_
    rw [nI_clamp (n := f) (by omega), ef]
    have ei : ((10 : Int32) * nI f + nI (mN T f)) - (1 : Int32) = nI (10 * f + (mN T f - 1)) := by
      rw [show (10 : Int32) * nI f = nI (10 * f) from nI_mul 10 f, nI_add, show nI (10 * f + mN T f) - (1 : Int32) = nI (10 * f + mN T f - 1) from nI_sb (b := 1) (by omega) (by omega)]
      exact congrArg nI (by omega)
    rw [ei, nI_clamp (n := 10 * f + (mN T f - 1)) (by omega)]
    refine e_grd (inb_nI hf (by omega)) ?_
    refine e_grd (inb_nI (by omega) (by omega)) ?_
    refine e_i (fun q => ?_) (fun q => ?_)
    · refine e_cE (cax hW hN hf (Or.inr (rg_nI (j := s) (by omega) (by omega) (by omega))) h77 (by omega)) (fun r T1 h1 => ?_)
      obtain ⟨w1, g1, h1⟩ := h1
      rcases h1 with h0 | ⟨h1, n1, t1, b', b1, b2, b3, b4, b5⟩
      · exact e_t h0 (e_some ⟨w1, Fr.tr hF g1 rfl⟩)
      · refine e_f (by rw [h1]; decide) ?_
        refine e_eq (f_M_byRule_j156.eq_1 _ _ _ _) ?_
        refine e_nm ?_
        rw [nI_1]
        exact hK T1 (m + 1) w1 (Fr.tr hF g1 rfl) n1 (hasG_mv hH hf b1 b2 b3 b4 b5) t1 (by omega)
    · refine e_cE (t_M_widest hW) (fun r1 T1 h1 => ?_)
      obtain ⟨-, g1, r1r⟩ := h1
      have := fr_nil g1
      subst this
      refine e_cE (cax hW hN hf r1r h77 (by omega)) (fun r T2 h2 => ?_)
      obtain ⟨w2, g2, h2⟩ := h2
      rcases h2 with h0 | ⟨h1, n2, t2, b', b1, b2, b3, b4, b5⟩
      · exact e_t h0 (e_some ⟨w2, Fr.tr hF g2 rfl⟩)
      · refine e_f (by rw [h1]; decide) ?_
        have e1 := mvd_mN hf b2 b3 b5
        have pn : p < mN T1 f - 1 := by
          rcases Nat.lt_or_ge p (mN T1 f - 1) with k | k
          · exact k
          · have : p = mN T1 f - 1 := by omega
            subst this
            obtain ⟨w', hw', ew'⟩ := hN f _ hf p1
            have := wN_of ew' hw'
            rw [p2] at this
            subst this
            exact absurd ew' q
        exact br_L102 hs hf hi hw hM hK N T2 (m + 1) w2 (Fr.tr hF g2 rfl) n2 (hasG_mv hH hf b1 b2 b3 b4 b5) t2 (by omega) ⟨p, by omega, (mvd_wN hf b2 b3 b5 pn).trans p2⟩ (by omega)
set_option maxHeartbeats 1000000 in
theorem br_L69 {B : SS} {K : Int32 → Int32 → SS → Option (Int32 × SS)} {s i w M : Nat} (hs : s < 4) (hi : i < 11) (hw : w < 10) (hM : M < 399) (hg : Bef (B.1 49) (B.1 50) (nI w) 4 0) (hK : ∀ U m, WR U → BF B U → NN U → HasG B U → U.1 0 77 = nI m → m ≤ M → Ex2 (K (nI s) (nI (i + 1)) U) (fun _ U => BK B U)) : ∀ (N : Nat) (T : SS) (m : Nat), WR T → BF B T → NN T → HasG B T → T.1 0 77 = nI m → m + mN T s + 10 ≤ M → mN T s < N → Ex2 (f_M_byRule_L69 K N (nI s) (nI i) (nI w) T) (fun _ U => BK B U)
  | 0, T, m, hW, hF, hN, hH, h77, hm, hf' => by omega
  | N + 1, T, m, hW, hF, hN, hH, h77, hm, hf' => by
    obtain ⟨lf, ef⟩ := mN_le hW s
    refine e_eq (f_M_byRule_L69.eq_2 _ _ _ _ _ _) ?_
    rw [nI_clamp (n := s) (by omega), ef]
    refine e_grd (inb_nI hs (by omega)) ?_
    refine e_i (fun q => ?_) (fun q => ?_)
    · refine e_cE (sox hW) (fun r T1 h1 => ?_)
      obtain ⟨e1, h1⟩ := h1
      subst e1
      rcases h1 with ⟨-, h1⟩ | ⟨f, p, f1, f2, f3, f4⟩
      · exact absurd ((bef_mem hW hN hw).mpr (List.count_pos_iff.mp (hH w hw hg))) h1
      · subst f3
        have lf := (mN_le hW f).1
        exact br_L102 hs f1 hi hw hM hK NF T1 m hW hF hN hH h77 (by omega) ⟨p, f2, wN_of f4 hw⟩ (by have : NF = 100000 := rfl; omega)
    · have hpos : 1 ≤ mN T s := by
        rcases Nat.eq_zero_or_pos (mN T s) with c | c
        · rw [c] at q; exact absurd (nI_le (by omega) (by omega)) q
        · exact c
      refine e_cE (t_M_widest hW) (fun r1 T1 h1 => ?_)
      obtain ⟨-, g1, r1r⟩ := h1
      have := fr_nil g1
      subst this
      refine e_cE (cax hW hN hs r1r h77 (by omega)) (fun r T2 h2 => ?_)
      obtain ⟨w2, g2, h2⟩ := h2
      rcases h2 with h0 | ⟨h1, n2, t2, b', b1, b2, b3, b4, b5⟩
      · exact e_t h0 (e_some ⟨w2, Fr.tr hF g2 rfl⟩)
      · refine e_f (by rw [h1]; decide) ?_
        have e1 := mvd_mN hs b2 b3 b5
        exact br_L69 hs hi hw hM hg hK N T2 (m + 1) w2 (Fr.tr hF g2 rfl) n2 (hasG_mv hH hs b1 b2 b3 b4 b5) t2 (by omega) (by omega)
def gm (B : SS) (s : Nat) : Nat := (B.1 49 s).toNatClampNeg
def og (B : SS) : Nat → Nat
  | 0 => 0
  | s + 1 => og B s + gm B s
theorem gm_le {B : SS} (hW : WR B) (s : Nat) : gm B s ≤ 10 ∧ B.1 49 s = nI (gm B s) := by
  obtain ⟨j, hj, h1, h2, h3⟩ := rg_ex (ro_49 hW s) (by omega)
  have e : gm B s = j := by unfold gm; rw [hj]; exact nI_clamp h3
  rw [e]
  exact ⟨by omega, hj⟩
theorem og_10 {B : SS} (hW : WR B) (hP : PL B) : og B 4 ≤ 10 := by
  obtain ⟨U, -, wU, gU, hU⟩ := tkx (x1 := 1) hW
  have hU : tkP B U 1 := hU
  have nU := tk_NN hW hU
  have dU : DW (U.1 58) (U.1 57) := tk_DW wU hU hP.2.2
  have nd := fl_nd wU nU dU
  have q := php (List.range 10) (Flat (cfS U)).length (fun p => (Flat (cfS U)).getD p 0) (fun p hp => ?_) (fun i j h1 h2 e => (List.getD_inj h1 h2 nd).mp e)
  · rw [List.length_range, flat_len, tot_off, off_4] at q
    unfold mN at q
    rw [(hU 0 (by omega)).1, (hU 1 (by omega)).1, (hU 2 (by omega)).1, (hU 3 (by omega)).1] at q
    have : og B 4 = 0 + gm B 0 + gm B 1 + gm B 2 + gm B 3 := rfl
    rw [this]
    have q : gm B 0 + gm B 1 + gm B 2 + gm B 3 ≤ 10 := q
    omega
  · have m : (Flat (cfS U)).getD p 0 ∈ Flat (cfS U) := by
      rw [List.getD_eq_getElem?_getD, List.getElem?_eq_getElem hp]
      exact List.getElem_mem hp
    obtain ⟨s, i, -, -, hw, -⟩ := fl_mem nU m
    exact List.mem_range.mpr hw
theorem og_le (B : SS) {s : Nat} (hs : s < 4) : og B s + gm B s ≤ og B 4 := by
  have e : og B 4 = 0 + gm B 0 + gm B 1 + gm B 2 + gm B 3 := rfl
  rcases (show s = 0 ∨ s = 1 ∨ s = 2 ∨ s = 3 by omega) with rfl | rfl | rfl | rfl
  · have : og B 0 = 0 := rfl
    omega
  · have : og B 1 = 0 + gm B 0 := rfl
    omega
  · have : og B 2 = 0 + gm B 0 + gm B 1 := rfl
    omega
  · have : og B 3 = 0 + gm B 0 + gm B 1 + gm B 2 := rfl
    omega
set_option maxHeartbeats 1000000 in
theorem br_L19 {B : SS} {K : Int32 → SS → Option (Int32 × SS)} {s : Nat} (hB : WR B) (h10 : og B 4 ≤ 10) (hs : s < 4) (hK : ∀ U m, WR U → BF B U → NN U → HasG B U → U.1 0 77 = nI m → m ≤ 20 * og B (s + 1) → Ex2 (K (nI (s + 1)) U) (fun _ U => BK B U)) : ∀ (N i : Nat) (T : SS) (m : Nat), WR T → BF B T → NN T → HasG B T → T.1 0 77 = nI m → m ≤ 20 * (og B s + i) → i ≤ gm B s → gm B s < N + i → Ex2 (f_M_byRule_L19 K N (nI s) (nI i) T) (fun _ U => BK B U)
  | 0, i, T, m, hW, hF, hN, hH, h77, hm, hi, hf => by omega
  | N + 1, i, T, m, hW, hF, hN, hH, h77, hm, hi, hf => by
    obtain ⟨lg, eg⟩ := gm_le hB s
    obtain ⟨lm, em⟩ := mN_le hW s
    have ol := og_le B hs
    refine e_eq (f_M_byRule_L19.eq_2 _ _ _ _ _) ?_
    rw [nI_clamp (n := s) (by omega), hF.1 49 s rfl, eg]
    refine e_grd (inb_nI hs (by omega)) ?_
    by_cases c : i = gm B s
    · refine e_t (nI_le (by omega) (by omega)) ?_
      refine e_nm ?_
      rw [nI_1]
      refine hK T m hW hF hN hH h77 ?_
      rw [c] at hm
      exact hm
    · have hi' : i < gm B s := by omega
      refine e_f (nI_ge hi' (by omega)) ?_
      have e : (10 : Int32) * nI s + nI i = nI (10 * s + i) := by
        rw [show (10 : Int32) * nI s = nI (10 * s) from nI_mul 10 s, nI_add]
      rw [e, nI_clamp (n := 10 * s + i) (by omega), hF.1 50 _ rfl]
      obtain ⟨w, ew, w1, w2, w3⟩ := rg_ex (ro_50 hB (10 * s + i)) (by omega)
      have hg : Bef (B.1 49) (B.1 50) (nI w) 4 0 := ⟨s, i, Or.inl hs, hs, by rw [eg, nI_ti (by omega)]; omega, ew⟩
      rw [ew]
      refine e_grd (inb_nI (by omega) (by omega)) ?_
      refine e_nm ?_
      refine e_grd (inb_nI hs (by omega)) ?_
      have nx : ∀ U m', WR U → BF B U → NN U → HasG B U → U.1 0 77 = nI m' → m' ≤ 20 * (og B s + i) + 20 → Ex2 (f_M_byRule_L19 K N (nI s) (nI (i + 1)) U) (fun _ U => BK B U) := fun U m' a1 a2 a3 a4 a5 a6 => br_L19 hB h10 hs hK N (i + 1) U m' a1 a2 a3 a4 a5 (by omega) (by omega) (by omega)
      have l69 : Ex2 (f_M_byRule_L69 (fun v0 v1 S => f_M_byRule_L19 K N v0 v1 S) NF (nI s) (nI i) (nI w) T) (fun _ U => BK B U) := br_L69 (M := 20 * (og B s + i) + 20) hs (by omega) (by omega) (by omega) hg (fun U m' a1 a2 a3 a4 a5 a6 => nx U m' a1 a2 a3 a4 a5 a6) NF T m hW hF hN hH h77 (by omega) (by have : NF = 100000 := rfl; omega)
      refine e_i (fun _ => l69) (fun _ => ?_)
      refine e_grd (inb_nI (by omega) (by omega)) ?_
      refine e_i (fun _ => ?_) (fun _ => l69)
      refine e_eq (f_M_byRule_j156.eq_1 _ _ _ _) ?_
      refine e_nm ?_
      rw [nI_1]
      exact nx T m hW hF hN hH h77 (by omega)
theorem br_L12 {B : SS} (hB : WR B) (h10 : og B 4 ≤ 10) : ∀ (N s : Nat) (T : SS) (m : Nat), WR T → BF B T → NN T → HasG B T → T.1 0 77 = nI m → m ≤ 20 * og B s → s ≤ 4 → 4 < N + s → Ex2 (f_M_byRule_L12 N (nI s) T) (fun _ U => BK B U)
  | 0, s, T, m, hW, hF, hN, hH, h77, hm, hs, hf => by omega
  | N + 1, s, T, m, hW, hF, hN, hH, h77, hm, hs, hf => by
    refine e_eq (f_M_byRule_L12.eq_2 _ _ _) ?_
    by_cases c : s = 4
    · subst c
      exact e_t (nI_le (a := 4) (by omega) (by omega)) (e_some ⟨hW, hF⟩)
    · have hs4 : s < 4 := by omega
      refine e_f (nI_ge (b := 4) hs4 (by omega)) ?_
      have lg := (gm_le hB s).1
      exact br_L19 hB h10 hs4 (fun U m' a1 a2 a3 a4 a5 a6 => br_L12 hB h10 N (s + 1) U m' a1 a2 a3 a4 a5 a6 (by omega) (by omega)) NF 0 T m hW hF hN hH h77 (by omega) (by omega) (by have : NF = 100000 := rfl; omega)
theorem brx {S : SS} (hW : WR S) (hP : PL S) (hs : SameW S) : Ex2 (f_M_byRule S) (fun _ U => BK S U) := by
  refine e_eq (f_M_byRule.eq_1 _) ?_
  refine e_wrO (fun S1 e1 g1 v1 => ?_)
  have w1 := wo_0_77 hW (rgl 0 0 399 rfl) e1
  refine e_cV (tkx (x1 := 0) w1) (fun T h2 => ?_)
  obtain ⟨wT, gT, hT⟩ := h2
  have hT : tkP S1 T 0 := hT
  have k47 : S1.1 (tkM 0) = S.1 47 := funext fun i => g1.1 47 i rfl
  have k48 : S1.1 (tkO 0) = S.1 48 := funext fun i => g1.1 48 i rfl
  have nT := tk_NN w1 hT
  have F : BF S T := Fr.tr (Fr.tr Fr.rf g1 rfl) gT rfl
  refine br_L12 hW (og_10 hW hP) NF 0 T 0 wT F nT (fun w hw k => ?_) ((gT.1 0 77 rfl).trans v1) (by omega) (by omega) (by have : NF = 100000 := rfl; omega)
  refine List.count_pos_iff.mpr ((bef_mem wT nT hw).mp ((tk_Bef wT hT _).mpr ?_))
  rw [k47, k48]
  exact (hs w hw).mpr k
end
section
/-! ===== the reference's plan methods, with what they keep ===== -/
def RP (S : SS) : Prop := PL S ∧ RM S ∧ PI S
theorem RM.of {S U : SS} (h : RM S) (e : ∀ i, U.1 46 i = S.1 46 i) : RM U := fun s hs => by
  have : rmN U s = rmN S s := by unfold rmN; rw [e]
  rw [this]; exact h s hs
theorem RP.of {S U : SS} (h : RP S) (e : ∀ k, k ∈ [46, 47, 48, 49, 50, 54, 55, 56] → ∀ i, U.1 k i = S.1 k i) (e76 : U.1 0 76 = S.1 0 76) (e77 : U.1 0 77 = S.1 0 77) (e81 : U.1 0 81 = S.1 0 81) : RP U :=
  ⟨h.1.of (fun k hk => e k (by
    simp only [List.mem_cons, List.mem_nil_iff, or_false] at hk ⊢
    omega)), h.2.1.of (e 46 (by decide)), h.2.2.of (fun k hk => e k (by
    simp only [List.mem_cons, List.mem_nil_iff, or_false] at hk ⊢
    omega)) e76 e77 e81⟩
theorem RP.fr {S U : SS} (h : RP S) {L : List Nat} {F : List (Nat × Nat)} (g : Fr L F S U) (e : ∀ k, k ∈ [46, 47, 48, 49, 50, 54, 55, 56] → ∀ i, wm L F k i = false) (e0 : wm L F 0 76 = false ∧ wm L F 0 77 = false ∧ wm L F 0 81 = false) : RP U :=
  h.of (fun k hk i => g.1 k i (e k hk i)) (g.1 0 76 e0.1) (g.1 0 77 e0.2.1) (g.1 0 81 e0.2.2)
theorem r_M_lay {a1 a2 a3 : Int32} {S : SS} (hW : WR S) (hR : RP S) : Ex2 (f_M_lay a1 a2 a3 S) (fun r U => WR U ∧ RP U ∧ Fr [47, 48, 49, 50] [] S U) := by
  refine e_mono (p_M_lay hW hR.1) (fun r U h => ?_)
  obtain ⟨h1, h2, g⟩ := h
  refine ⟨h1, ⟨h2, hR.2.1.of (fun i => g.1 46 i rfl), hR.2.2.of (fun k hk i => ?_) (g.1 0 76 rfl) (g.1 0 77 rfl) (g.1 0 81 rfl)⟩, g⟩
  simp only [List.mem_cons, List.mem_nil_iff, or_false] at hk
  rcases hk with rfl | rfl | rfl <;> exact g.1 _ i rfl
theorem room_46 {a1 a2 : Int32} {S U : SS} {r : Int32} (hR : RM S) (h : f_M_room a1 a2 S = some (r, U)) : RM U := by
  rw [f_M_room.eq_1] at h
  by_cases q1 : a1 < 0
  · rw [if_pos q1] at h; injection h with h; injection h with h1 h2; rw [← h2]; exact hR
  rw [if_neg q1] at h
  by_cases q2 : (4 : Int32) ≤ a1
  · rw [if_pos q2] at h; injection h with h; injection h with h1 h2; rw [← h2]; exact hR
  rw [if_neg q2] at h
  by_cases q3 : a2 < (1 : Int32)
  · rw [if_pos q3] at h; injection h with h; injection h with h1 h2; rw [← h2]; exact hR
  rw [if_neg q3] at h
  by_cases q4 : (10 : Int32) < a2
  · rw [if_pos q4] at h; injection h with h; injection h with h1 h2; rw [← h2]; exact hR
  rw [if_neg q4] at h
  obtain ⟨-, h⟩ := grd_t h
  by_cases q5 : a2 < (S.1 47 a1.toNatClampNeg)
  · rw [if_pos q5] at h; injection h with h; injection h with h1 h2; rw [← h2]; exact hR
  rw [if_neg q5] at h
  obtain ⟨-, h⟩ := grd_t h
  by_cases q6 : (S.1 49 a1.toNatClampNeg) ≤ a2
  · rw [if_pos q6] at h
    obtain ⟨-, h⟩ := grd_t h
    have h : grd (inb a1 4) (some (S.1 46 a1.toNatClampNeg, st S 46 a1.toNatClampNeg a2)) = some (r, U) := h
    obtain ⟨-, h⟩ := grd_t h
    injection h with h; injection h with h1 h2
    rw [← h2]
    intro s hs
    unfold rmN
    rw [st_at, if_pos rfl]
    by_cases c : s = a1.toNatClampNeg
    · rw [if_pos c]
      obtain ⟨j, rfl, j1, j2, j3⟩ := rg_ex (nlt_r (rgl 10 10 10 rfl) (nlt_l (rgt a2) (rgl 1 1 1 rfl) q3) q4) (by omega)
      rw [nI_clamp j3]
      omega
    · rw [if_neg c]; exact hR s hs
  · rw [if_neg q6] at h; injection h with h; injection h with h1 h2; rw [← h2]; exact hR
theorem e_eqn {α : Type} {x : Option (α × SS)} {P : α → SS → Prop} (h : Ex2 x P) : Ex2 x (fun r U => P r U ∧ x = some (r, U)) := by
  obtain ⟨r, U, e, h⟩ := h
  exact ⟨r, U, e, h, e⟩
theorem r_M_room {a1 a2 : Int32} {S : SS} (hW : WR S) (hR : RP S) : Ex2 (f_M_room a1 a2 S) (fun r U => WR U ∧ RP U ∧ Fr [46] [] S U) := by
  refine e_mono (e_eqn (p_M_room hW hR.1)) (fun r U h => ?_)
  obtain ⟨⟨h1, h2, g⟩, e⟩ := h
  refine ⟨h1, ⟨h2, room_46 hR.2.1 e, hR.2.2.of (fun k hk i => ?_) (g.1 0 76 rfl) (g.1 0 77 rfl) (g.1 0 81 rfl)⟩, g⟩
  simp only [List.mem_cons, List.mem_nil_iff, or_false] at hk
  rcases hk with rfl | rfl | rfl <;> exact g.1 _ i rfl
theorem wipe_76 : ∀ (n : Nat) (x1 x2 : Int32) (S U : SS) (r : Int32), f_M_wipe_L10 n x1 x2 S = some (r, U) → U.1 0 76 = -4
  | 0, x1, x2, S, U, r, h => by
    rw [f_M_wipe_L10.eq_1] at h
    cases h
  | n + 1, x1, x2, S, U, r, h => by
    rw [f_M_wipe_L10.eq_2] at h
    by_cases q : (4 : Int32) ≤ x2
    · rw [if_pos q] at h
      have h : some (x1, st (st S 0 76 (-4)) 0 77 0) = some (r, U) := h
      injection h with h; injection h with h1 h2
      rw [← h2, st_at, if_pos rfl, if_neg (by decide), st_at, if_pos rfl, if_pos rfl]
    · rw [if_neg q] at h
      obtain ⟨-, h⟩ := grd_t h
      have h : grd (inb x2 4) (f_M_wipe_L10 n x1 (x2 + 1) (st (st S 47 x2.toNatClampNeg 0) 49 x2.toNatClampNeg 0)) = some (r, U) := h
      obtain ⟨-, h⟩ := grd_t h
      exact wipe_76 n _ _ _ _ _ h
theorem r_M_wipe {S : SS} (hW : WR S) (hR : RP S) : Ex2 (f_M_wipe S) (fun r U => WR U ∧ RP U ∧ Fr [47, 49] [(0, 76), (0, 77)] S U) := by
  refine e_mono (e_eqn (p_M_wipe hW)) (fun r U h => ?_)
  obtain ⟨⟨h1, h2, g⟩, e⟩ := h
  refine ⟨h1, ⟨h2, hR.2.1.of (fun i => g.1 46 i rfl), PI.no ?_⟩, g⟩
  rw [f_M_wipe.eq_1] at e
  obtain ⟨v, T, -, e⟩ := bnd_t e
  exact wipe_76 _ _ _ _ _ _ e
theorem r_M_spoil {a1 a2 : Int32} {S : SS} (hW : WR S) (hR : RP S) : Ex2 (f_M_spoil a1 a2 S) (fun r U => WR U ∧ RP U ∧ Fr [55] [] S U) := by
  have hF : Fr [55] [] S S := Fr.rf
  refine e_eq (f_M_spoil.eq_1 _ _ _) ?_
  refine e_i (fun _ => e_some ⟨hW, hR, hF⟩) (fun q1 => ?_)
  refine e_i (fun _ => e_some ⟨hW, hR, hF⟩) (fun q2 => ?_)
  refine e_i (fun q3 => ?_) (fun _ => e_some ⟨hW, hR, hF⟩)
  refine e_i (fun q4 => ?_) (fun _ => e_some ⟨hW, hR, hF⟩)
  refine e_i (fun q5 => ?_) (fun _ => e_some ⟨hW, hR, hF⟩)
  have f3 := nlt_l (rgt a1) (rgl 0 0 0 rfl) q1
  have f12 := le_l f3 (ro_0_77 hW) q5
  refine e_grd (inb_g f12 rfl) ?_
  refine e_grd (inb_g (ro_56 hW _) rfl) ?_
  refine e_nm ?_
  refine e_grd (inb_g f12 rfl) ?_
  refine e_grd (inb_g (ro_56 hW _) rfl) ?_
  obtain ⟨n, m, h1, h2, h3, h4, h5⟩ := hR.2.2 (by rw [q4]; decide) (by rw [q4]; decide)
  obtain ⟨j, rfl, j1, j2, j3⟩ := rg_ex f12 (by omega)
  rw [h2] at q5
  have hj : j ≤ m := by
    rcases Nat.lt_or_ge m j with c | c
    · exact absurd q5 (nI_ge c (by omega))
    · exact c
  obtain ⟨X, x1, x2⟩ := h4 j hj
  rw [nI_clamp j3, x2]
  have hv := (cd_v h1 x1.1).2
  rw [nI_clamp (n := cdX S n X) (by omega)]
  refine e_wrA (fun U e g v => ?_)
  have sm : Sm S U := ⟨g.1 0 81 rfl, fun j => g.1 54 j rfl⟩
  refine e_some ⟨WR.st (k := 55) hW trivial rfl e, ⟨hR.1.of (fun k hk i => ?_), hR.2.1.of (fun i => g.1 46 i rfl), fun _ _ => ⟨n, m, sm.pw h1, (g.1 0 77 rfl).trans h2, h3, fun l hl => ?_, fun c hc hv => ?_⟩⟩, hF.tr g rfl⟩
  · simp only [List.mem_cons, List.mem_nil_iff, or_false] at hk
    rcases hk with rfl | rfl | rfl | rfl | rfl <;> exact g.1 _ i rfl
  · obtain ⟨Y, y1, y2⟩ := h4 l hl
    exact ⟨Y, y1.rb sm, by rw [g.1 56 l rfl, sm.cd]; exact y2⟩
  · by_cases cc : c = cdX S n X
    · exact ⟨X, x1.rb sm, by rw [sm.cd]; exact cc.symm⟩
    · rw [e, st_at, if_pos rfl, if_neg cc] at hv
      obtain ⟨Y, y1, y2⟩ := h5 c hc hv
      exact ⟨Y, y1.rb sm, by rw [sm.cd]; exact y2⟩
theorem r_M_check {S : SS} (hW : WR S) (hR : RP S) : Ex2 (f_M_check S) (fun r U => WR U ∧ RP U ∧ Fr [57, 58, 59] [] S U) := by
  refine e_mono (t_M_check hW hR.2.2) (fun r U h => ?_)
  obtain ⟨h1, g⟩ := h
  refine ⟨h1, hR.of (fun k hk i => ?_) (g.1 0 76 rfl) (g.1 0 77 rfl) (g.1 0 81 rfl), g⟩
  simp only [List.mem_cons, List.mem_nil_iff, or_false] at hk
  rcases hk with rfl | rfl | rfl | rfl | rfl | rfl | rfl | rfl <;> exact g.1 _ i rfl
theorem plx_1 {S : SS} (hW : WR S) (hP : PL S) (hs : SameW S) : Ex2 (f_M_plan_j33 1 S) (fun r U => WR U ∧ Fr [51, 52, 53, 54, 55, 56, 57, 58, 59, 60] [(0, 76), (0, 77), (0, 81)] S U ∧ PI U) := by
  refine e_eq (f_M_plan_j33.eq_1 _ _) ?_
  refine e_wrO (fun S1 e1 g1 v1 => ?_)
  have w1 := WR.st (k := 0) (i := 76) hW trivial rfl e1
  refine e_t rfl ?_
  have k1 : ∀ k, k ∈ [46, 47, 48, 49, 50] → ∀ i, S1.1 k i = S.1 k i := fun k hk i => by
    simp only [List.mem_cons, List.mem_nil_iff, or_false] at hk
    rcases hk with rfl | rfl | rfl | rfl | rfl <;> exact g1.1 _ i rfl
  have P1 : PL S1 := hP.of k1
  have j47 : S1.1 47 = S.1 47 := funext (k1 47 (by decide))
  have j48 : S1.1 48 = S.1 48 := funext (k1 48 (by decide))
  have j49 : S1.1 49 = S.1 49 := funext (k1 49 (by decide))
  have j50 : S1.1 50 = S.1 50 := funext (k1 50 (by decide))
  have s1 : SameW S1 := fun w hw => by rw [j47, j48, j49, j50]; exact hs w hw
  refine e_cE (brx w1 P1 s1) (fun r T2 h2 => ?_)
  obtain ⟨w2, g2⟩ := h2
  have F2 : Fr [51, 52, 53, 54, 55, 56, 57, 58, 59, 60] [(0, 76), (0, 77), (0, 81)] S T2 := Fr.tr (Fr.tr Fr.rf g1 rfl) g2 rfl
  have j62 : ∀ y : Int32, rg y 0 399 → Ex2 (f_M_plan_j62 r y T2) (fun r U => WR U ∧ Fr [51, 52, 53, 54, 55, 56, 57, 58, 59, 60] [(0, 76), (0, 77), (0, 81)] S U ∧ PI U) := fun y hy => by
    refine e_eq (f_M_plan_j62.eq_1 _ _ _) ?_
    refine e_wrO (fun T3 e3 g3 v3 => ?_)
    have w3 := wo_0_77 w2 hy e3
    refine e_i (fun q => ?_) (fun q => ?_)
    · refine e_eq (f_M_plan_j76.eq_1 _ _ _) ?_
      refine e_wrO (fun T4 e4 g4 v4 => ?_)
      have w4 := WR.st (k := 0) (i := 76) w3 trivial rfl e4
      exact e_t q (e_some ⟨w4, Fr.tr (Fr.tr F2 g3 rfl) g4 rfl, PI.no v4⟩)
    · refine e_eq (f_M_plan_j76.eq_1 _ _ _) ?_
      refine e_wrO (fun T4 e4 g4 v4 => ?_)
      have w4 := WR.st (k := 0) (i := 76) w3 trivial rfl e4
      exact e_f q (e_some ⟨w4, Fr.tr (Fr.tr F2 g3 rfl) g4 rfl, PI.no1 v4⟩)
  exact e_i (fun _ => j62 0 (rgl 0 0 399 rfl)) (fun _ => j62 _ (ro_0_77 w2))
theorem r_M_plan {a1 : Int32} {S : SS} (hW : WR S) (hR : RP S) : Ex2 (f_M_plan a1 S) (fun r U => WR U ∧ RP U ∧ Fr [51, 52, 53, 54, 55, 56, 57, 58, 59, 60] [(0, 76), (0, 77), (0, 81)] S U) := by
  have key : ∀ {v : Option (Int32 × SS)}, Ex2 v (fun r U => WR U ∧ Fr [51, 52, 53, 54, 55, 56, 57, 58, 59, 60] [(0, 76), (0, 77), (0, 81)] S U ∧ PI U) → Ex2 v (fun r U => WR U ∧ RP U ∧ Fr [51, 52, 53, 54, 55, 56, 57, 58, 59, 60] [(0, 76), (0, 77), (0, 81)] S U) := fun h => e_mono h (fun r U h => by
    obtain ⟨h1, g, h3⟩ := h
    refine ⟨h1, ⟨hR.1.of (fun k hk i => ?_), hR.2.1.of (fun i => g.1 46 i rfl), h3⟩, g⟩
    simp only [List.mem_cons, List.mem_nil_iff, or_false] at hk
    rcases hk with rfl | rfl | rfl | rfl | rfl <;> exact g.1 _ i rfl)
  refine e_eq (f_M_plan.eq_1 _ _) ?_
  refine e_i (fun _ => e_some ⟨hW, hR, Fr.rf⟩) (fun q1 => ?_)
  refine e_i (fun _ => e_some ⟨hW, hR, Fr.rf⟩) (fun q2 => ?_)
  refine e_cE (asx hW) (fun r T h => ?_)
  obtain ⟨e, h⟩ := h
  subst e
  rcases h with h | ⟨h, hs⟩
  · exact e_t h (e_some ⟨hW, hR, Fr.rf⟩)
  · refine e_f (by rw [h]; decide) ?_
    refine e_i (fun q3 => ?_) (fun q3 => ?_)
    · subst q3
      refine e_cE (smx hW) (fun r' T' h' => ?_)
      obtain ⟨e', e2, l⟩ := h'
      subst e' e2
      refine e_i (fun q5 => ?_) (fun _ => e_some ⟨hW, hR, Fr.rf⟩)
      refine key (plx_0 hW hR.1 hR.2.1 hs ?_)
      rcases Nat.lt_or_ge 5 (StN T') with c | c
      · exact absurd q5 (nI_ge (a := 5) c (by omega))
      · exact c
    · have : a1 = 1 := by
        have f1 := nlt_l (rgt a1) (rgl 0 0 0 rfl) q1
        have f2 := nlt_r (rgl 1 1 1 rfl) f1 q2
        obtain ⟨j, rfl, j1, j2, j3⟩ := rg_ex f2 (by omega)
        rcases (show j = 0 ∨ j = 1 by omega) with rfl | rfl
        · exact absurd rfl q3
        · rfl
      subst this
      exact key (plx_1 hW hR.1 hs)
end
