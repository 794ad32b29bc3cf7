/-! ===== measure's queue ===== -/
def ups {α : Type} (f : Nat → α) (k : Nat) (v : α) (i : Nat) : α := if i = k then v else f i
theorem ups_k {α : Type} (f : Nat → α) (k : Nat) (v : α) : ups f k v k = v := if_pos rfl
theorem ups_n {α : Type} (f : Nat → α) {k i : Nat} (v : α) (h : i ≠ k) : ups f k v i = f i := if_neg h
def BI (S : SS) (n : Nat) (G : Cf) (T : SS) (Ys : Nat → Cf) (pt : Nat → Nat) (sz k : Nat) : Prop := (∀ i, i < sz → Cn S n (Ys i)) ∧ (∀ i, i < sz → T.1 60 i = nI (cdX S n (Ys i))) ∧ (∀ i, i < sz → T.1 55 (cdX S n (Ys i)) = nI (pt i)) ∧ (∀ i j, i < sz → j < sz → cdX S n (Ys i) = cdX S n (Ys j) → i = j) ∧ (∀ c, c < 25920 → (∀ i, i < sz → cdX S n (Ys i) ≠ c) → T.1 55 c = -1) ∧ (0 < sz) ∧ (Ys 0 = G) ∧ (pt 0 = 0) ∧ (∀ i, i < sz → pt i ≤ i) ∧ (∀ i j, i ≤ j → j < sz → pt i ≤ pt j) ∧ (∀ j, j < sz → k < sz → pt j ≤ pt k + 1) ∧ (∀ i, i < k → i < sz → ∀ Z, Mv (rmN S) (Ys i) Z → ∃ j, j < sz ∧ Ys j = Z ∧ pt j ≤ pt i + 1) ∧ (∀ j, j < sz → 0 < pt j → ∃ i, i < sz ∧ pt i + 1 = pt j ∧ Mv (rmN S) (Ys j) (Ys i)) ∧ (∀ i, i < sz → ∃ m, Rc (rmN S) m G (Ys i))
theorem BI.cf {S : SS} {n : Nat} {G : Cf} {T : SS} {Ys : Nat → Cf} {pt : Nat → Nat} {sz k : Nat} (h : BI S n G T Ys pt sz k) : ∀ i, i < sz → Cn S n (Ys i) := h.1
theorem BI.q {S : SS} {n : Nat} {G : Cf} {T : SS} {Ys : Nat → Cf} {pt : Nat → Nat} {sz k : Nat} (h : BI S n G T Ys pt sz k) : ∀ i, i < sz → T.1 60 i = nI (cdX S n (Ys i)) := h.2.1
theorem BI.p {S : SS} {n : Nat} {G : Cf} {T : SS} {Ys : Nat → Cf} {pt : Nat → Nat} {sz k : Nat} (h : BI S n G T Ys pt sz k) : ∀ i, i < sz → T.1 55 (cdX S n (Ys i)) = nI (pt i) := h.2.2.1
theorem BI.inj {S : SS} {n : Nat} {G : Cf} {T : SS} {Ys : Nat → Cf} {pt : Nat → Nat} {sz k : Nat} (h : BI S n G T Ys pt sz k) : ∀ i j, i < sz → j < sz → cdX S n (Ys i) = cdX S n (Ys j) → i = j := h.2.2.2.1
theorem BI.out {S : SS} {n : Nat} {G : Cf} {T : SS} {Ys : Nat → Cf} {pt : Nat → Nat} {sz k : Nat} (h : BI S n G T Ys pt sz k) : ∀ c, c < 25920 → (∀ i, i < sz → cdX S n (Ys i) ≠ c) → T.1 55 c = -1 := h.2.2.2.2.1
theorem BI.z0 {S : SS} {n : Nat} {G : Cf} {T : SS} {Ys : Nat → Cf} {pt : Nat → Nat} {sz k : Nat} (h : BI S n G T Ys pt sz k) : 0 < sz := h.2.2.2.2.2.1
theorem BI.z1 {S : SS} {n : Nat} {G : Cf} {T : SS} {Ys : Nat → Cf} {pt : Nat → Nat} {sz k : Nat} (h : BI S n G T Ys pt sz k) : Ys 0 = G := h.2.2.2.2.2.2.1
theorem BI.z2 {S : SS} {n : Nat} {G : Cf} {T : SS} {Ys : Nat → Cf} {pt : Nat → Nat} {sz k : Nat} (h : BI S n G T Ys pt sz k) : pt 0 = 0 := h.2.2.2.2.2.2.2.1
theorem BI.le {S : SS} {n : Nat} {G : Cf} {T : SS} {Ys : Nat → Cf} {pt : Nat → Nat} {sz k : Nat} (h : BI S n G T Ys pt sz k) : ∀ i, i < sz → pt i ≤ i := h.2.2.2.2.2.2.2.2.1
theorem BI.mono {S : SS} {n : Nat} {G : Cf} {T : SS} {Ys : Nat → Cf} {pt : Nat → Nat} {sz k : Nat} (h : BI S n G T Ys pt sz k) : ∀ i j, i ≤ j → j < sz → pt i ≤ pt j := h.2.2.2.2.2.2.2.2.2.1
theorem BI.near {S : SS} {n : Nat} {G : Cf} {T : SS} {Ys : Nat → Cf} {pt : Nat → Nat} {sz k : Nat} (h : BI S n G T Ys pt sz k) : ∀ j, j < sz → k < sz → pt j ≤ pt k + 1 := h.2.2.2.2.2.2.2.2.2.2.1
theorem BI.sp {S : SS} {n : Nat} {G : Cf} {T : SS} {Ys : Nat → Cf} {pt : Nat → Nat} {sz k : Nat} (h : BI S n G T Ys pt sz k) : ∀ i, i < k → i < sz → ∀ Z, Mv (rmN S) (Ys i) Z → ∃ j, j < sz ∧ Ys j = Z ∧ pt j ≤ pt i + 1 := h.2.2.2.2.2.2.2.2.2.2.2.1
theorem BI.par {S : SS} {n : Nat} {G : Cf} {T : SS} {Ys : Nat → Cf} {pt : Nat → Nat} {sz k : Nat} (h : BI S n G T Ys pt sz k) : ∀ j, j < sz → 0 < pt j → ∃ i, i < sz ∧ pt i + 1 = pt j ∧ Mv (rmN S) (Ys j) (Ys i) := h.2.2.2.2.2.2.2.2.2.2.2.2.1
theorem BI.rch {S : SS} {n : Nat} {G : Cf} {T : SS} {Ys : Nat → Cf} {pt : Nat → Nat} {sz k : Nat} (h : BI S n G T Ys pt sz k) : ∀ i, i < sz → ∃ m, Rc (rmN S) m G (Ys i) := h.2.2.2.2.2.2.2.2.2.2.2.2.2
theorem BI.cg {S : SS} {n : Nat} {G : Cf} {T U : SS} {Ys : Nat → Cf} {pt : Nat → Nat} {sz k : Nat} (h : BI S n G T Ys pt sz k) (e1 : ∀ i, U.1 60 i = T.1 60 i) (e2 : ∀ i, U.1 55 i = T.1 55 i) : BI S n G U Ys pt sz k :=
  ⟨h.cf, fun i hi => (e1 i).trans (h.q i hi), fun i hi => (e2 _).trans (h.p i hi), h.inj, fun c hc k => (e2 c).trans (h.out c hc k), h.z0, h.z1, h.z2, h.le, h.mono, h.near, h.sp, h.par, h.rch⟩
theorem BI.lt {S : SS} {n : Nat} {G : Cf} {T : SS} {Ys : Nat → Cf} {pt : Nat → Nat} {sz k : Nat} {Z : Cf} (hp : PW S n) (h : BI S n G T Ys pt sz k) (hZ : Cn S n Z) (hn : ∀ i, i < sz → cdX S n (Ys i) ≠ cdX S n Z) : sz < 6720 := by
  have q := php (vC n) (sz + 1) (fun i => cdX S n (ups Ys sz Z i)) (fun i hi => ?_) (fun i j hi hj e => ?_)
  · have := vC_len hp.1.2.1
    omega
  · show cdX S n (ups Ys sz Z i) ∈ vC n
    by_cases c : i = sz
    · rw [c, ups_k]; exact (cd_v hp hZ.1).1
    · rw [ups_n _ _ c]; exact (cd_v hp (h.cf i (by omega)).1).1
  · have e : cdX S n (ups Ys sz Z i) = cdX S n (ups Ys sz Z j) := e
    by_cases c : i = sz
    · by_cases d : j = sz
      · omega
      · rw [c, ups_k, ups_n _ _ d] at e
        exact absurd e.symm (hn j (by omega))
    · by_cases d : j = sz
      · rw [d, ups_k, ups_n _ _ c] at e
        exact absurd e (hn i (by omega))
      · rw [ups_n _ _ c, ups_n _ _ d] at e
        exact h.inj i j (by omega) (by omega) e
theorem BI.le6 {S : SS} {n : Nat} {G : Cf} {T : SS} {Ys : Nat → Cf} {pt : Nat → Nat} {sz k : Nat} (hp : PW S n) (h : BI S n G T Ys pt sz k) : sz ≤ 6720 := by
  have q := php (vC n) sz (fun i => cdX S n (Ys i)) (fun i hi => (cd_v hp (h.cf i hi).1).1) (fun i j hi hj e => h.inj i j hi hj e)
  have := vC_len hp.1.2.1
  omega
theorem BI.add {S : SS} {n : Nat} {G : Cf} {T U : SS} {Ys : Nat → Cf} {pt : Nat → Nat} {sz k : Nat} {Z : Cf} (h : BI S n G T Ys pt sz k) (hk : k < sz) (hZ : Cn S n Z) (hm : Mv (rmN S) (Ys k) Z) (hn : ∀ i, i < sz → cdX S n (Ys i) ≠ cdX S n Z) (e1 : ∀ i, U.1 60 i = if i = sz then nI (cdX S n Z) else T.1 60 i) (e2 : ∀ i, U.1 55 i = if i = cdX S n Z then nI (pt k + 1) else T.1 55 i) : BI S n G U (ups Ys sz Z) (ups pt sz (pt k + 1)) (sz + 1) k := by
  have hz := h.z0
  have o : ∀ i, i < sz → ups Ys sz Z i = Ys i := fun i hi => ups_n _ _ (by omega)
  have o2 : ∀ i, i < sz → ups pt sz (pt k + 1) i = pt i := fun i hi => ups_n _ _ (by omega)
  refine ⟨fun i hi => ?_, fun i hi => ?_, fun i hi => ?_, fun i j hi hj e => ?_, fun c hc d => ?_, by omega, (o 0 hz).trans h.z1, (o2 0 hz).trans h.z2, fun i hi => ?_, fun i j hij hj => ?_, fun j hj _ => ?_, fun i hi hs W hW => ?_, fun j hj hpj => ?_, fun i hi => ?_⟩
  · by_cases c : i = sz
    · rw [c, ups_k]; exact hZ
    · rw [o i (by omega)]; exact h.cf i (by omega)
  · rw [e1]
    by_cases c : i = sz
    · rw [if_pos c, c, ups_k]
    · rw [if_neg c, o i (by omega)]; exact h.q i (by omega)
  · rw [e2]
    by_cases c : i = sz
    · rw [c, ups_k, ups_k, if_pos rfl]
    · rw [o i (by omega), o2 i (by omega), if_neg (hn i (by omega))]; exact h.p i (by omega)
  · by_cases c : i = sz
    · by_cases d : j = sz
      · omega
      · rw [c, ups_k, o j (by omega)] at e
        exact absurd e.symm (hn j (by omega))
    · by_cases d : j = sz
      · rw [d, ups_k, o i (by omega)] at e
        exact absurd e (hn i (by omega))
      · rw [o i (by omega), o j (by omega)] at e
        exact h.inj i j (by omega) (by omega) e
  · have d1 := d sz (by omega)
    rw [ups_k] at d1
    rw [e2, if_neg (Ne.symm d1)]
    refine h.out c hc (fun i hi => ?_)
    have := d i (by omega)
    rw [o i hi] at this
    exact this
  · by_cases c : i = sz
    · rw [c, ups_k]; have := h.le k hk; omega
    · rw [o2 i (by omega)]; exact h.le i (by omega)
  · by_cases c : j = sz
    · rw [c, ups_k]
      by_cases d : i = sz
      · rw [d, ups_k]; exact Nat.le_refl _
      · rw [o2 i (by omega)]; exact h.near i (by omega) hk
    · rw [o2 j (by omega), o2 i (by omega)]; exact h.mono i j hij (by omega)
  · rw [o2 k hk]
    by_cases c : j = sz
    · rw [c, ups_k]; exact Nat.le_refl _
    · rw [o2 j (by omega)]; exact h.near j (by omega) hk
  · rw [o i (by omega)] at hW
    rw [o2 i (by omega)]
    obtain ⟨j, h1, h2, h3⟩ := h.sp i hi (by omega) W hW
    exact ⟨j, by omega, (o j h1).trans h2, by rw [o2 j h1]; exact h3⟩
  · by_cases c : j = sz
    · refine ⟨k, by omega, ?_, ?_⟩
      · rw [c, ups_k, o2 k hk]
      · rw [c, ups_k, o k hk]
        exact hm.rev (h.cf k hk).2.1
    · rw [o2 j (by omega)] at hpj ⊢
      obtain ⟨i, h1, h2, h3⟩ := h.par j (by omega) hpj
      exact ⟨i, by omega, by rw [o2 i h1]; exact h2, by rw [o j (by omega), o i h1]; exact h3⟩
  · by_cases c : i = sz
    · obtain ⟨m, hr⟩ := h.rch k hk
      rw [c, ups_k]
      exact ⟨m + 1, hr.trans (Rc.one hm)⟩
    · rw [o i (by omega)]; exact h.rch i (by omega)
/-- the place ahead is fully spread: on to the next -/
theorem BI.nx {S : SS} {n : Nat} {G : Cf} {T : SS} {Ys : Nat → Cf} {pt : Nat → Nat} {sz k : Nat} (h : BI S n G T Ys pt sz k) (hk : k < sz) (hs : ∀ Z, Mv (rmN S) (Ys k) Z → ∃ j, j < sz ∧ Ys j = Z) : BI S n G T Ys pt sz (k + 1) := by
  refine ⟨h.cf, h.q, h.p, h.inj, h.out, h.z0, h.z1, h.z2, h.le, h.mono, fun j hj hk1 => ?_, fun i hi hsz Z hZ => ?_, h.par, h.rch⟩
  · have := h.near j hj hk
    have := h.mono k (k + 1) (by omega) hk1
    omega
  · by_cases c : i = k
    · subst c
      obtain ⟨j, h1, h2⟩ := hs Z hZ
      exact ⟨j, h1, h2, h.near j h1 hk⟩
    · exact h.sp i (by omega) hsz Z hZ
/-- what one MOVE of the 80 is -/
def Mvn (R : Nat → Nat) (x : Nat) (X Z : Cf) : Prop := x / 20 ≠ x / 5 % 4 ∧ x % 5 + 1 ≤ (X (x / 20)).length ∧ (X (x / 5 % 4)).length + (x % 5 + 1) ≤ R (x / 5 % 4) ∧ Z = mvd (x / 20) (x / 5 % 4) (x % 5 + 1) X
theorem mvn_mv {R : Nat → Nat} {x : Nat} {X Z : Cf} (hx : x < 80) (h : Mvn R x X Z) : Mv R X Z := ⟨x / 20, x / 5 % 4, x % 5 + 1, by omega, by omega, h.1, by omega, h.2.1, h.2.2.1, h.2.2.2⟩
theorem mv_mvn {R : Nat → Nat} {X Z : Cf} (ht : tot X ≤ 5) (h : Mv R X Z) : ∃ x, x < 80 ∧ Mvn R x X Z := by
  obtain ⟨a, b, m, ha, hb, hab, h1, h2, h3, rfl⟩ := h
  have hm : m ≤ 5 := by
    unfold tot at ht
    rcases (show a = 0 ∨ a = 1 ∨ a = 2 ∨ a = 3 by omega) with rfl | rfl | rfl | rfl <;> omega
  have e1 : (a * 20 + b * 5 + (m - 1)) / 20 = a := by omega
  have e2 : (a * 20 + b * 5 + (m - 1)) / 5 % 4 = b := by omega
  have e3 : (a * 20 + b * 5 + (m - 1)) % 5 + 1 = m := by omega
  refine ⟨a * 20 + b * 5 + (m - 1), by omega, ?_⟩
  unfold Mvn
  rw [e1, e2, e3]
  exact ⟨hab, h2, h3, rfl⟩
