/-! ===== the class: the shapes' ends, and the MOVES of each shape ===== -/
/-- where a STACK of a shape ends -/
def en (S : SS) (sh s : Nat) : Nat := (S.1 114 (4 * sh + s)).toNatClampNeg
def eb (S : SS) (sh s : Nat) : Nat := if s = 0 then 0 else en S sh (s - 1)
def ShOk (S : SS) (sh w : Nat) : Prop := 4 * sh + 4 ≤ S.2 114 ∧ S.2 114 ≤ 224 ∧ w ≤ 5 ∧ (∀ s, s < 4 → S.1 114 (4 * sh + s) = nI (en S sh s)) ∧ en S sh 0 ≤ en S sh 1 ∧ en S sh 1 ≤ en S sh 2 ∧ en S sh 2 ≤ en S sh 3 ∧ en S sh 3 = w
theorem ShOk.of {S : SS} {w W sh : Nat} (h : QW S w W) (hE : QE S w (shN w)) (hs : sh < shN w) : ShOk S sh w := by
  obtain ⟨a, b, c, h1, h2, h3, e0, e1, e2, e3⟩ := hE sh hs
  obtain ⟨q1, q2, -, -, -, q3, -⟩ := h
  have q := qn q1 q2
  have n0 : en S sh 0 = a := by unfold en; rw [show 4 * sh + 0 = 4 * sh by omega, e0, nI_clamp (by omega)]
  have n1 : en S sh 1 = b := by unfold en; rw [e1, nI_clamp (by omega)]
  have n2 : en S sh 2 = c := by unfold en; rw [e2, nI_clamp (by omega)]
  have n3 : en S sh 3 = w := by unfold en; rw [e3, nI_clamp (by omega)]
  refine ⟨by omega, by omega, by omega, fun s hs4 => ?_, by omega, by omega, by omega, n3⟩
  rcases (show s = 0 ∨ s = 1 ∨ s = 2 ∨ s = 3 by omega) with rfl | rfl | rfl | rfl
  · rw [n0]; exact e0
  · rw [n1]; exact e1
  · rw [n2]; exact e2
  · rw [n3]; exact e3
theorem ShOk.cg {S T : SS} {sh w : Nat} (h : ShOk S sh w) (e : ∀ i, T.1 114 i = S.1 114 i) (e2 : T.2 114 = S.2 114) : ShOk T sh w ∧ ∀ s, en T sh s = en S sh s := by
  have n : ∀ s, en T sh s = en S sh s := fun s => by unfold en; rw [e]
  obtain ⟨h1, h2, h3, h4, h5, h6, h7, h8⟩ := h
  exact ⟨⟨by rw [e2]; exact h1, by rw [e2]; exact h2, h3, fun s hs => by rw [e, n]; exact h4 s hs, by rw [n, n]; exact h5, by rw [n, n]; exact h6, by rw [n, n]; exact h7, by rw [n]; exact h8⟩, n⟩
theorem ShOk.le {S : SS} {sh w : Nat} (h : ShOk S sh w) {s : Nat} (hs : s < 4) : en S sh s ≤ w ∧ eb S sh s ≤ en S sh s := by
  obtain ⟨h1, h2, h3, h4, h5, h6, h7, h8⟩ := h
  rcases (show s = 0 ∨ s = 1 ∨ s = 2 ∨ s = 3 by omega) with rfl | rfl | rfl | rfl
  · exact ⟨by omega, Nat.zero_le _⟩
  · exact ⟨by omega, h5⟩
  · exact ⟨by omega, h6⟩
  · exact ⟨by omega, h7⟩
theorem enx {S : SS} {sh w s : Nat} (h : ShOk S sh w) (hs : s < 4) : f_Potentials_endIn (nI sh) (nI s) S = some (nI (en S sh s), S) := by
  obtain ⟨h1, h2, h3, h4, -⟩ := h
  rw [f_Potentials_endIn.eq_1]
  have e : (4 : Int32) * nI sh + nI s = nI (4 * sh + s) := by
    rw [show (4 : Int32) * nI sh = nI (4 * sh) from nI_mul 4 sh, nI_add]
  rw [if_pos (show (0 : Int32) ≤ nI s from nI_le (a := 0) (Nat.zero_le s) (by omega)), e, inb_nI (by omega) (by omega), nI_clamp (n := 4 * sh + s) (by omega), h4 s hs]
  rfl
theorem hex {S : SS} {sh w s : Nat} (h : ShOk S sh w) (hs : s < 4) : f_Potentials_heightIn (nI sh) (nI s) S = some (nI (en S sh s - eb S sh s), S) := by
  have l := h.le hs
  have l5 := h.2.2.1
  rw [f_Potentials_heightIn.eq_1, enx h hs, bnd_r]
  by_cases c : s = 0
  · subst c
    rw [show nI 0 - (1 : Int32) = -1 by decide, f_Potentials_endIn.eq_1, if_neg (by decide), bnd_r]
    show some (nI (en S sh 0) - 0, S) = some (nI (en S sh 0 - 0), S)
    rw [Int32.sub_zero, Nat.sub_zero]
  · rw [show nI s - (1 : Int32) = nI (s - 1) from nI_sb (b := 1) (by omega) (by omega), enx h (by omega), bnd_r]
    unfold eb at l ⊢
    rw [if_neg c] at l ⊢
    rw [nI_sb l.2 (by omega)]
/-- where STACK s ends behind the MOVE -/
def vaf (S : SS) (sh f t n s : Nat) : Nat := if f ≤ s ∧ s < t then en S sh s - n else if t ≤ s ∧ s < f then en S sh s + n else en S sh s
theorem sa_step {S : SS} {sh w f t n s key : Nat} {K : Int32 → Int32 → Int32 → Int32 → Int32 → Int32 → SS → Option (Int32 × SS)} {P : Int32 → SS → Prop} (h : ShOk S sh w) (hf : f < 4) (ht : t < 4) (hft : f ≠ t) (hn : n ≤ en S sh f - eb S sh f) (hs : s < 4) (hk : key ≤ kyb s) (hK : ∀ key', key' ≤ kyb (s + 1) → Ex2 (K (nI sh) (nI f) (nI t) (nI n) (nI key') (nI (s + 1)) S) P) (N : Nat) : Ex2 (if (4 : Int32) ≤ nI s then grd (inb (nI key) 216) (some (S.1 113 (nI key).toNatClampNeg, S)) else if nI s < nI f then f_Potentials_shapeAfter_j29 K (nI sh) (nI f) (nI t) (nI n) (nI key) (nI s) S else if nI t ≤ nI s then f_Potentials_shapeAfter_j29 K (nI sh) (nI f) (nI t) (nI n) (nI key) (nI s) S else f_Potentials_shapeAfter_j30 K (nI sh) (nI f) (nI t) (nI n) (nI key) (nI s) (nI n) S) P := by
  obtain ⟨h1, h2, h3, h4, h5, h6, h7, h8⟩ := id h
  have ls := h.le hs
  have lf := h.le hf
  have lt := h.le ht
  have mono : ∀ a b, a ≤ b → b < 4 → en S sh a ≤ en S sh b := fun a b hab hb => by
    rcases (show b = 0 ∨ b = 1 ∨ b = 2 ∨ b = 3 by omega) with rfl | rfl | rfl | rfl
    · rw [show a = 0 by omega]; exact Nat.le_refl _
    · rcases (show a = 0 ∨ a = 1 by omega) with rfl | rfl <;> omega
    · rcases (show a = 0 ∨ a = 1 ∨ a = 2 by omega) with rfl | rfl | rfl <;> omega
    · rcases (show a = 0 ∨ a = 1 ∨ a = 2 ∨ a = 3 by omega) with rfl | rfl | rfl | rfl <;> omega
  have below : ∀ a, a < f → en S sh a ≤ eb S sh f := fun a ha => by
    unfold eb
    rw [if_neg (by omega)]
    exact mono a (f - 1) (by omega) (by omega)
  refine e_f (nI_ge (b := 4) hs (by omega)) ?_
  have fin : ∀ (x7 y0 : Int32) (v : Nat), v ≤ 5 → (nI (en S sh s) - x7) + y0 = nI v → Ex2 (f_Potentials_shapeAfter_j50 K (nI sh) (nI f) (nI t) (nI n) (nI key) (nI s) x7 y0 S) P := fun x7 y0 v hv e => by
    refine e_eq (f_Potentials_shapeAfter_j50.eq_1 _ _ _ _ _ _ _ _ _ _) ?_
    rw [enx h hs, bnd_r, e]
    obtain ⟨k', k1, k2⟩ := kw_n (k := key) (s := s) (e := v) S hs hk hv
    rw [k2, bnd_r]
    refine e_nm ?_
    rw [nI_1]
    exact hK k' k1
  have j30 : ∀ x7 : Int32, (x7 = 0 ∨ (f ≤ s ∧ s < t ∧ x7 = nI n)) → Ex2 (f_Potentials_shapeAfter_j30 K (nI sh) (nI f) (nI t) (nI n) (nI key) (nI s) x7 S) P := fun x7 hx => by
    refine e_eq (f_Potentials_shapeAfter_j30.eq_1 _ _ _ _ _ _ _ _ _) ?_
    have j49 : Ex2 (f_Potentials_shapeAfter_j49 K (nI sh) (nI f) (nI t) (nI n) (nI key) (nI s) x7 S) P := by
      refine e_eq (f_Potentials_shapeAfter_j49.eq_1 _ _ _ _ _ _ _ _ _) ?_
      rcases hx with rfl | ⟨c1, c2, rfl⟩
      · exact fin 0 0 (en S sh s) (by omega) (by rw [Int32.sub_zero, Int32.add_zero])
      · have := mono f s c1 hs
        exact fin (nI n) 0 (en S sh s - n) (by omega) (by rw [nI_sb (by omega) (by omega), Int32.add_zero])
    refine e_i (fun _ => j49) (fun q1 => ?_)
    refine e_i (fun _ => j49) (fun q2 => ?_)
    have c1 : t ≤ s := by
      rcases Nat.lt_or_ge s t with c | c
      · exact absurd ((nI_ltJ (by omega) (by omega)).mpr c) q1
      · exact c
    have c2 : s < f := by
      rcases Nat.lt_or_ge s f with c | c
      · exact c
      · exact absurd (nI_le c (by omega)) q2
    have b := below s c2
    rcases hx with rfl | ⟨d1, d2, -⟩
    · exact fin 0 (nI n) (en S sh s + n) (by omega) (by rw [Int32.sub_zero, nI_add])
    · omega
  have j29 : Ex2 (f_Potentials_shapeAfter_j29 K (nI sh) (nI f) (nI t) (nI n) (nI key) (nI s) S) P := e_eq (f_Potentials_shapeAfter_j29.eq_1 _ _ _ _ _ _ _ _) (j30 0 (Or.inl rfl))
  refine e_i (fun _ => j29) (fun q1 => ?_)
  refine e_i (fun _ => j29) (fun q2 => ?_)
  refine j30 (nI n) (Or.inr ⟨?_, ?_, rfl⟩)
  · rcases Nat.lt_or_ge s f with c | c
    · exact absurd ((nI_ltJ (by omega) (by omega)).mpr c) q1
    · exact c
  · rcases Nat.lt_or_ge s t with c | c
    · exact c
    · exact absurd (nI_le c (by omega)) q2
theorem sa_L6 {S : SS} {sh w f t n : Nat} (h : ShOk S sh w) (hf : f < 4) (ht : t < 4) (hft : f ≠ t) (hn : n ≤ en S sh f - eb S sh f) : ∀ (N s key : Nat), s ≤ 4 → key ≤ kyb s → 4 < N + s → Ex2 (f_Potentials_shapeAfter_L6 N (nI sh) (nI f) (nI t) (nI n) (nI key) (nI s) S) (fun _ U => U = S)
  | 0, s, key, hs, hk, hN => by omega
  | N + 1, s, key, hs, hk, hN => by
    refine e_eq (f_Potentials_shapeAfter_L6.eq_2 _ _ _ _ _ _ _ _) ?_
    by_cases c : s = 4
    · subst c
      have := kyb_le 4
      refine e_t (nI_le (a := 4) (by omega) (by omega)) ?_
      refine e_grd (inb_nI (by omega) (by omega)) ?_
      exact e_some rfl
    · exact sa_step h hf ht hft hn (by omega) hk (fun k' hk' => sa_L6 h hf ht hft hn N (s + 1) k' (by omega) hk' (by omega)) N
theorem sax {S : SS} {sh w f t n : Nat} (h : ShOk S sh w) (hf : f < 4) (ht : t < 4) (hft : f ≠ t) (hn : n ≤ en S sh f - eb S sh f) : Ex2 (f_Potentials_shapeAfter (nI sh) (nI f) (nI t) (nI n) S) (fun _ U => U = S) := by
  refine e_eq (f_Potentials_shapeAfter.eq_1 _ _ _ _ _) ?_
  exact sa_L6 h hf ht hft hn NF 0 0 (by omega) (Nat.zero_le _) (by have : NF = 100000 := rfl; omega)
def swN (i j k : Nat) : Nat := k * (k - 1) * (k - 2) / 6 + j * (j - 1) / 2 + i
theorem sw_all : ∀ i j k : Fin 6, i.1 < j.1 → j.1 < k.1 → ((((nI k.1 * (nI k.1 - (1 : Int32))) * (nI k.1 - (2 : Int32))) / (6 : Int32)) + ((nI j.1 * (nI j.1 - (1 : Int32))) / (2 : Int32))) + nI i.1 = nI (swN i.1 j.1 k.1) ∧ swN i.1 j.1 k.1 < 20 := by decide +kernel
theorem swx {S : SS} {i j k : Nat} (hi : i ≤ 5) (hj : j ≤ 5) (hk : k ≤ 5) : Ex2 (f_Potentials_swapOf (nI i) (nI j) (nI k) S) (fun r U => U = S ∧ rn r 0 19 ∧ (i < j → j < k → r = nI (swN i j k) ∧ swN i j k < 20)) := by
  refine e_eq (f_Potentials_swapOf.eq_1 _ _ _ _) ?_
  refine e_i (fun q => e_some ⟨rfl, rn4l _ _, fun c => absurd q (nI_ge c (by omega))⟩) (fun q => ?_)
  refine e_i (fun q2 => e_some ⟨rfl, rn4l _ _, fun _ c => absurd q2 (nI_ge c (by omega))⟩) (fun q2 => ?_)
  have c1 : i < j := by
    rcases Nat.lt_or_ge i j with c | c
    · exact c
    · exact absurd (nI_le c (by omega)) q
  have c2 : j < k := by
    rcases Nat.lt_or_ge j k with c | c
    · exact c
    · exact absurd (nI_le c (by omega)) q2
  have a := sw_all ⟨i, by omega⟩ ⟨j, by omega⟩ ⟨k, by omega⟩ c1 c2
  refine e_some ⟨rfl, ?_, fun _ _ => a⟩
  have a1 := a.1
  have a2 := a.2
  simp only at a1 a2
  rw [a1]
  exact Or.inr (rg_nI (by omega) (by omega) (by omega))
theorem sbx {S : SS} {sh w f t n : Nat} (h : ShOk S sh w) (hf : f < 4) (ht : t < 4) (hn : n ≤ en S sh f - eb S sh f) : Ex2 (f_Potentials_swapBy (nI sh) (nI f) (nI t) (nI n) S) (fun r U => U = S ∧ rn r 0 19) := by
  have lf := h.le hf
  have lt := h.le ht
  have l5 := h.2.2.1
  refine e_eq (f_Potentials_swapBy.eq_1 _ _ _ _ _) ?_
  rw [enx h hf, bnd_r, enx h ht, nI_sb (by omega) (by omega)]
  refine e_i (fun _ => ?_) (fun _ => ?_)
  · rw [bnd_r]
    refine e_cE (swx (by omega) (by omega) (by omega)) (fun r T p => ?_)
    obtain ⟨e, p, -⟩ := p
    subst e
    exact e_some ⟨rfl, p⟩
  · rw [bnd_r]
    refine e_cE (swx (by omega) (by omega) (by omega)) (fun r T p => ?_)
    obtain ⟨e, p, -⟩ := p
    subst e
    exact e_some ⟨rfl, p⟩
/-- what listEntries leaves as it was -/
def LF (S T : SS) : Prop := Fr [116, 117, 118, 119] [] S T
def LQ (T : SS) : Prop := WR T ∧ QR T
theorem lq_117 {S U : SS} {i : Nat} {v : Int32} (h : LQ S) (e : U = st S 117 i v) (g : Fr [117] [] S U) : LQ U := ⟨WR.st (k := 117) h.1 trivial rfl e, h.2.fr g (fun k hk i => by
  simp only [List.mem_cons, List.mem_nil_iff, or_false] at hk
  rcases hk with rfl | rfl | rfl | rfl | rfl | rfl <;> rfl)⟩
theorem lq_118 {S U : SS} {i : Nat} {v : Int32} (h : LQ S) (e : U = st S 118 i v) (g : Fr [118] [] S U) : LQ U := ⟨WR.st (k := 118) h.1 trivial rfl e, h.2.fr g (fun k hk i => by
  simp only [List.mem_cons, List.mem_nil_iff, or_false] at hk
  rcases hk with rfl | rfl | rfl | rfl | rfl | rfl <;> rfl)⟩
theorem lq_119 {S U : SS} {j : Nat} {v : Int32} (h : LQ S) (hv : rn v 0 19) (e : U = st S 119 j v) : LQ U := ⟨WR.st (k := 119) h.1 trivial rfl e, by
  obtain ⟨-, h1, h2, h3, h4, h5, h6⟩ := h
  subst e
  refine ⟨fun i => ?_, fun i => ?_, fun i => ?_, fun i => ?_, fun i => ?_, fun i => ?_⟩
  · rw [st_at, if_neg (by decide)]; exact h1 _
  · rw [st_at, if_neg (by decide)]; exact h2 _
  · rw [st_at, if_neg (by decide)]; exact h3 _
  · rw [st_at, if_neg (by decide)]; exact h4 _
  · rw [st_at, if_pos rfl]
    by_cases c : i = j
    · rw [if_pos c]; exact hv
    · rw [if_neg c]; exact h5 _
  · rw [st_at, if_neg (by decide)]; exact h6 _⟩
theorem lq_116 {S U : SS} {j : Nat} {v : Int32} (h : LQ S) (hv : rg v 0 840) (e : U = st S 116 j v) : LQ U := ⟨WR.st (k := 116) h.1 trivial rfl e, by
  obtain ⟨-, h1, h2, h3, h4, h5, h6⟩ := h
  subst e
  refine ⟨fun i => ?_, fun i => ?_, fun i => ?_, fun i => ?_, fun i => ?_, fun i => ?_⟩
  · rw [st_at, if_neg (by decide)]; exact h1 _
  · rw [st_at, if_neg (by decide)]; exact h2 _
  · rw [st_at, if_neg (by decide)]; exact h3 _
  · rw [st_at, if_pos rfl]
    by_cases c : i = j
    · rw [if_pos c]; exact hv
    · rw [if_neg c]; exact h4 _
  · rw [st_at, if_neg (by decide)]; exact h5 _
  · rw [st_at, if_neg (by decide)]; exact h6 _⟩
set_option maxHeartbeats 1000000 in
theorem le_L75 {S : SS} {K : Int32 → Int32 → Int32 → Int32 → SS → Option SS} {V : SS → Prop} {sh w f t mo B : Nat} (h : ShOk S sh w) (hf : f < 4) (ht : t < 4) (hft : f ≠ t) (hmo : mo ≤ en S sh f - eb S sh f) (hB : B ≤ S.2 117) (hB8 : S.2 118 = S.2 117) (hB9 : S.2 119 = S.2 117) (hB0 : S.2 117 ≤ 840) (hK : ∀ U e, LQ U → LF S U → e ≤ B → Ew (K (nI e) (nI sh) (nI f) (nI (t + 1)) U) V) : ∀ (N n e : Nat) (T : SS), LQ T → LF S T → 1 ≤ n → n ≤ mo + 1 → e + (mo + 1 - n) ≤ B → mo + 1 < N + n → Ew (f_Potentials_listEntries_Plans_rooms_L75 K N (nI e) (nI sh) (nI f) (nI t) (nI mo) (nI n) T) V
  | 0, n, e, T, hQ, hF, h1, hn, he, hN => by omega
  | N + 1, n, e, T, hQ, hF, h1, hn, he, hN => by
    have l5 := h.2.2.1
    have lf := h.le hf
    refine v_eq (f_Potentials_listEntries_Plans_rooms_L75.eq_2 _ _ _ _ _ _ _ _ _) ?_
    by_cases c : n = mo + 1
    · refine v_t ((nI_ltJ (by omega) (by omega)).mpr (by omega)) ?_
      refine v_nm ?_
      rw [nI_1]
      exact hK T e hQ hF (by omega)
    · refine v_f (fun k => c (by have := (nI_ltJ (by omega) (by omega)).mp k; omega)) ?_
      have s2 : T.2 = S.2 := hF.2
      rw [s2]
      refine v_grd (inb_nI (by omega) (by omega)) ?_
      refine v_wrA (fun T1 e1 g1 v1 => ?_)
      have q1 := lq_117 hQ e1 g1
      have F1 : LF S T1 := Fr.tr hF g1 rfl
      have o1 := h.cg (T := T1) (fun i => F1.1 114 i rfl) (by rw [F1.2])
      refine v_cE (sax (n := n) o1.1 hf ht hft (by rw [show eb T1 sh f = eb S sh f by unfold eb; rw [o1.2], o1.2]; omega)) (fun r T2 p => ?_)
      subst p
      rw [show T2.2 118 = S.2 117 by rw [F1.2]; exact hB8]
      refine v_grd (inb_nI (by omega) (by omega)) ?_
      refine v_wrA (fun T3 e3 g3 v3 => ?_)
      have q3 := lq_118 q1 e3 g3
      have F3 : LF S T3 := Fr.tr F1 g3 rfl
      have o3 := h.cg (T := T3) (fun i => F3.1 114 i rfl) (by rw [F3.2])
      refine v_cE (sbx (n := n) o3.1 hf ht (by rw [show eb T3 sh f = eb S sh f by unfold eb; rw [o3.2], o3.2]; omega)) (fun r T4 p => ?_)
      obtain ⟨p1, p2⟩ := p
      subst p1
      rw [show T4.2 119 = S.2 117 by rw [F3.2]; exact hB9]
      refine v_grd (inb_nI (by omega) (by omega)) ?_
      refine v_wrA (fun T5 e5 g5 v5 => ?_)
      have q5 := lq_119 q3 p2 e5
      refine v_nm ?_
      refine v_nm ?_
      rw [nI_1, nI_1]
      exact le_L75 h hf ht hft hmo hB hB8 hB9 hB0 hK N (n + 1) (e + 1) T5 q5 (Fr.tr F3 g5 rfl) (by omega) (by omega) (by omega) (by omega)
