/-! ===== the class: rows made anew; shapes and orders listed ===== -/
def F1 (L : List Nat) (F : List (Nat × Nat)) (S T : SS) : Prop := ∀ a b, wm L F a b = false → T.1 a b = S.1 a b
theorem F1.tr {L : List Nat} {F : List (Nat × Nat)} {L1 : List Nat} {F' : List (Nat × Nat)} {S T U : SS} (h : F1 L F S T) (k : F1 L1 F' T U) (e : sb L1 F' L F = true) : F1 L F S U := fun a b q => (k a b (sb_wm e q)).trans (h a b q)
theorem F1.rf {L : List Nat} {F : List (Nat × Nat)} {S : SS} : F1 L F S S := fun _ _ _ => rfl
theorem Fr.f1 {L : List Nat} {F : List (Nat × Nat)} {S T : SS} (h : Fr L F S T) : F1 L F S T := h.1
theorem f1_gw (S : SS) (t n : Nat) : F1 [t] [] S (gw S t n) := fun a b q => by
  simp only [wm, List.any_cons, List.any_nil, Bool.or_false] at q
  show (if a = t then (fun _ => 0) else S.1 a) b = S.1 a b
  rw [if_neg (fun e => by rw [e, Nat.beq_refl] at q; cases q)]
theorem gw_0 (S : SS) (t n i : Nat) : (gw S t n).1 t i = 0 := by
  show (if t = t then (fun _ => 0) else S.1 t) i = 0
  rw [if_pos rfl]
theorem wr_gw {S : SS} {t n : Nat} (h : WR S) (hv : ∀ i, ok t i 0) (hj : ∀ i, jm t i = false) : WR (gw S t n) := by
  have e : ∀ a b, a ≠ t → (gw S t n).1 a b = S.1 a b := fun a b ha => by
    show (if a = t then (fun _ => 0) else S.1 a) b = S.1 a b
    rw [if_neg ha]
  refine ⟨fun k i => ?_, h.2.of (fun a b q => ?_)⟩
  · by_cases hk : k = t
    · subst hk
      rw [gw_0]; exact hv i
    · rw [e k i hk]; exact h.1 k i
  · refine e a b (fun ha => ?_)
    rw [ha, hj] at q; cases q
theorem qr_gw {S : SS} {t n : Nat} (h : QR S) : QR (gw S t n) := by
  have e : ∀ a b, (gw S t n).1 a b = S.1 a b ∨ (gw S t n).1 a b = 0 := fun a b => by
    by_cases c : a = t
    · subst c; exact Or.inr (gw_0 _ _ _ _)
    · left
      show (if a = t then (fun _ => 0) else S.1 a) b = S.1 a b
      rw [if_neg c]
  obtain ⟨h1, h2, h3, h4, h5, h6⟩ := h
  refine ⟨fun i => ?_, fun i => ?_, fun i => ?_, fun i => ?_, fun i => ?_, fun i => ?_⟩
  · rcases e 109 i with c | c
    · rw [c]; exact h1 i
    · rw [c]; exact Or.inr (rgl 0 0 4 rfl)
  · rcases e 110 i with c | c
    · rw [c]; exact h2 i
    · rw [c]; exact rgl 0 0 4 rfl
  · rcases e 111 i with c | c
    · rw [c]; exact h3 i
    · rw [c]; exact rgl 0 0 4 rfl
  · rcases e 116 i with c | c
    · rw [c]; exact h4 i
    · rw [c]; exact rgl 0 0 840 rfl
  · rcases e 119 i with c | c
    · rw [c]; exact h5 i
    · rw [c]; exact Or.inr (rgl 0 0 19 rfl)
  · rcases e 120 i with c | c
    · rw [c]; exact h6 i
    · rw [c]; exact Or.inr (rgl 0 0 6720 rfl)
theorem nwok_n {n lim : Nat} (h : n ≤ lim) (hn : n < 2 ^ 31) : nwok (nI n) lim = true := by
  unfold nwok
  rw [nI_clamp hn]
  simp only [Bool.and_eq_true, Bool.not_eq_true', decide_eq_false_iff_not, decide_eq_true_eq]
  exact ⟨nI_nn hn, h⟩
def QL (S : SS) (W : Nat) : Prop := S.2 114 = shN W * 4 ∧ S.2 115 = fcN W * 20 ∧ S.2 116 = shN W + 1 ∧ S.2 117 = shN W * W * 3 ∧ S.2 118 = shN W * W * 3 ∧ S.2 119 = shN W * W * 3 ∧ S.2 120 = fcN W * shN W ∧ S.2 121 = fcN W * shN W
theorem ql_gw (S : SS) (t n a : Nat) : (gw S t n).2 a = if a = t then n else S.2 a := rfl
theorem v_gw {S : SS} {t n : Nat} {f : SS → Option SS} {V : SS → Prop} (h : ∀ T, T = gw S t n → Ew (f T) V) : Ew (gwr S t n f) V := h _ rfl
theorem gw_k {S T : SS} {t n : Nat} (e : T = gw S t n) (h : t ≠ 71) (j : Nat) : T.1 71 j = S.1 71 j := by
  subst e
  show (if 71 = t then (fun _ => 0) else S.1 71) j = S.1 71 j
  rw [if_neg (Ne.symm h)]
set_option maxHeartbeats 1000000 in
theorem grx {S : SS} {m : Nat} (hW : WR S) (hR : QR S) (hm : m ≤ 5) (h5 : S.1 71 5 = nI m) (h6 : S.1 71 6 = nI (fcN m)) (h7 : S.1 71 7 = nI (shN m)) (hl : S.2 120 ≤ 6720) (hg : S.2 120 < fcN m * shN m → S.2 200 = 1) : Ew (f_Potentials_growRows S) (fun U => WR U ∧ QR U ∧ F1 [114, 115, 116, 117, 118, 119, 120, 121] [] S U ∧ ((U.2 = S.2 ∧ fcN m * shN m ≤ S.2 120) ∨ (S.2 120 < fcN m * shN m ∧ QL U m))) := by
  have q := qn (Nat.le_refl m) hm
  refine v_eq (f_Potentials_growRows.eq_1 _) ?_
  by_cases c : S.2 120 < fcN m * shN m
  · refine v_t (by rw [h6, h7, nI_mul]; exact (nI_ltJ (by omega) (by omega)).mpr c) ?_
    refine v_grd (decide_eq_true (hg c)) ?_
    refine v_grd (by rw [h6, h7, nI_mul]; exact nwok_n (by omega) (by omega)) ?_
    rw [show (S.1 71 6 * S.1 71 7).toNatClampNeg = fcN m * shN m by rw [h6, h7, nI_mul, nI_clamp (by omega)]]
    refine v_gw (fun T1 e1 => ?_)
    have a6 : T1.1 71 6 = nI (fcN m) := (gw_k e1 (by decide) 6).trans h6
    have a7 : T1.1 71 7 = nI (shN m) := (gw_k e1 (by decide) 7).trans h7
    have a5 : T1.1 71 5 = nI m := (gw_k e1 (by decide) 5).trans h5
    refine v_grd (by rw [a6, a7, nI_mul]; exact nwok_n (by omega) (by omega)) ?_
    rw [show (T1.1 71 6 * T1.1 71 7).toNatClampNeg = fcN m * shN m by rw [a6, a7, nI_mul, nI_clamp (by omega)]]
    refine v_gw (fun T2 e2 => ?_)
    have b6 : T2.1 71 6 = nI (fcN m) := (gw_k e2 (by decide) 6).trans a6
    have b7 : T2.1 71 7 = nI (shN m) := (gw_k e2 (by decide) 7).trans a7
    have b5 : T2.1 71 5 = nI m := (gw_k e2 (by decide) 5).trans a5
    refine v_grd (by rw [b6, show nI (fcN m) * (20 : Int32) = nI (fcN m * 20) from nI_mul _ 20]; exact nwok_n (by omega) (by omega)) ?_
    rw [show (T2.1 71 6 * (20 : Int32)).toNatClampNeg = fcN m * 20 by rw [b6, show nI (fcN m) * (20 : Int32) = nI (fcN m * 20) from nI_mul _ 20, nI_clamp (by omega)]]
    refine v_gw (fun T3 e3 => ?_)
    have c7 : T3.1 71 7 = nI (shN m) := (gw_k e3 (by decide) 7).trans b7
    have c5 : T3.1 71 5 = nI m := (gw_k e3 (by decide) 5).trans b5
    refine v_grd (by rw [c7, show nI (shN m) * (4 : Int32) = nI (shN m * 4) from nI_mul _ 4]; exact nwok_n (by omega) (by omega)) ?_
    rw [show (T3.1 71 7 * (4 : Int32)).toNatClampNeg = shN m * 4 by rw [c7, show nI (shN m) * (4 : Int32) = nI (shN m * 4) from nI_mul _ 4, nI_clamp (by omega)]]
    refine v_gw (fun T4 e4 => ?_)
    have d7 : T4.1 71 7 = nI (shN m) := (gw_k e4 (by decide) 7).trans c7
    have d5 : T4.1 71 5 = nI m := (gw_k e4 (by decide) 5).trans c5
    refine v_grd (by rw [d7, nI_1]; exact nwok_n (by omega) (by omega)) ?_
    rw [show (T4.1 71 7 + (1 : Int32)).toNatClampNeg = shN m + 1 by rw [d7, nI_1, nI_clamp (by omega)]]
    refine v_gw (fun T5 e5 => ?_)
    have f7 : T5.1 71 7 = nI (shN m) := (gw_k e5 (by decide) 7).trans d7
    have f5 : T5.1 71 5 = nI m := (gw_k e5 (by decide) 5).trans d5
    refine v_nm ?_
    rw [show (T5.1 71 7 * T5.1 71 5) * (3 : Int32) = nI (shN m * m * 3) by rw [f7, f5, nI_mul]; exact nI_mul _ 3]
    refine v_grd (nwok_n (by omega) (by omega)) ?_
    rw [nI_clamp (n := shN m * m * 3) (by omega)]
    refine v_gw (fun T6 e6 => ?_)
    refine v_grd (nwok_n (by omega) (by omega)) ?_
    refine v_gw (fun T7 e7 => ?_)
    refine v_grd (nwok_n (by omega) (by omega)) ?_
    refine v_gw (fun T8 e8 => ?_)
    have w1 : WR T1 := by rw [e1]; exact wr_gw hW (fun _ => trivial) (fun _ => rfl)
    have w2 : WR T2 := by rw [e2]; exact wr_gw w1 (fun _ => trivial) (fun _ => rfl)
    have w3 : WR T3 := by rw [e3]; exact wr_gw w2 (fun _ => trivial) (fun _ => rfl)
    have w4 : WR T4 := by rw [e4]; exact wr_gw w3 (fun _ => trivial) (fun _ => rfl)
    have w5 : WR T5 := by rw [e5]; exact wr_gw w4 (fun _ => trivial) (fun _ => rfl)
    have w6 : WR T6 := by rw [e6]; exact wr_gw w5 (fun _ => trivial) (fun _ => rfl)
    have w7 : WR T7 := by rw [e7]; exact wr_gw w6 (fun _ => trivial) (fun _ => rfl)
    have w8 : WR T8 := by rw [e8]; exact wr_gw w7 (fun _ => trivial) (fun _ => rfl)
    have r8 : QR T8 := by
      rw [e8, e7, e6, e5, e4, e3, e2, e1]
      exact qr_gw (qr_gw (qr_gw (qr_gw (qr_gw (qr_gw (qr_gw (qr_gw hR)))))))
    refine v_some ⟨w8, r8, ?_, Or.inr ⟨c, ?_⟩⟩
    · rw [e8, e7, e6, e5, e4, e3, e2, e1]
      exact F1.tr (F1.tr (F1.tr (F1.tr (F1.tr (F1.tr (F1.tr (F1.tr F1.rf (f1_gw _ _ _) rfl) (f1_gw _ _ _) rfl) (f1_gw _ _ _) rfl) (f1_gw _ _ _) rfl) (f1_gw _ _ _) rfl) (f1_gw _ _ _) rfl) (f1_gw _ _ _) rfl) (f1_gw _ _ _) rfl
    · rw [e8, e7, e6, e5, e4, e3, e2, e1]
      exact ⟨rfl, rfl, rfl, rfl, rfl, rfl, rfl, rfl⟩
  · exact v_f (by rw [h6, h7, nI_mul]; exact fun k => c ((nI_ltJ (by omega) (by omega)).mp k)) (v_some ⟨hW, hR, F1.rf, Or.inl ⟨rfl, by omega⟩⟩)
/-! ===== listShapes ===== -/
def t1 : Nat → Nat
  | 0 => 0
  | m + 1 => t1 m + (m + 1)
def t2 : Nat → Nat
  | 0 => 0
  | m + 1 => t2 m + t1 (m + 1)
theorem sh_t2 {w : Nat} (h : w ≤ 5) : shN w = (w + 1) + t1 w + t2 w := by
  rcases (show w = 0 ∨ w = 1 ∨ w = 2 ∨ w = 3 ∨ w = 4 ∨ w = 5 by omega) with rfl | rfl | rfl | rfl | rfl | rfl <;> rfl
def ZF (S T : SS) : Prop := Fr [113, 114] [] S T
theorem qr_zf {S T : SS} (h : QR S) (g : ZF S T) : QR T := h.fr g (fun k hk i => by
  simp only [List.mem_cons, List.mem_nil_iff, or_false] at hk
  rcases hk with rfl | rfl | rfl | rfl | rfl | rfl <;> rfl)
set_option maxHeartbeats 1000000 in
theorem ls_L25 {S : SS} {K : Int32 → Int32 → Int32 → SS → Option SS} {V : SS → Prop} {w W a b : Nat} (hw : w ≤ W) (hW5 : W ≤ 5) (h71 : S.1 71 5 = nI w) (h114 : S.2 114 = shN W * 4) (hab : a ≤ b) (hb : b ≤ w) (hK : ∀ U x, WR U → ZF S U → QE U w x → x + (t1 (w - b) + t2 (w - a)) = shN w → Ew (K (nI x) (nI a) (nI (b + 1)) U) V) : ∀ (N c x : Nat) (T : SS), WR T → ZF S T → QE T w x → b ≤ c → c ≤ w + 1 → x + ((w + 1 - c) + t1 (w - b) + t2 (w - a)) = shN w → w + 1 < N + c → Ew (f_Potentials_listShapes_L25 K N (nI x) (nI a) (nI b) (nI c) T) V
  | 0, c, x, T, hW, hF, hE, hc, hcw, hx, hN => by omega
  | N + 1, c, x, T, hW, hF, hE, hc, hcw, hx, hN => by
    have q := qn hw hW5
    refine v_eq (f_Potentials_listShapes_L25.eq_2 _ _ _ _ _ _ _) ?_
    rw [hF.1 71 5 rfl, h71]
    by_cases cc : c = w + 1
    · refine v_t ((nI_ltJ (by omega) (by omega)).mpr (by omega)) ?_
      refine v_nm ?_
      rw [nI_1]
      exact hK T x hW hF hE (by omega)
    · refine v_f (fun k => by have := (nI_ltJ (by omega) (by omega)).mp k; omega) ?_
      have ex : (4 : Int32) * nI x = nI (4 * x) := nI_mul 4 x
      rw [ex]
      have s2 : T.2 114 = shN W * 4 := by rw [hF.2]; exact h114
      refine v_grd (inb_nI (by omega) (by omega)) ?_
      rw [nI_clamp (n := 4 * x) (by omega)]
      refine v_wrA (fun T1 e1 g1 v1 => ?_)
      have w1 := WR.st (k := 114) hW trivial rfl e1
      rw [nI_1, g1.2]
      refine v_grd (inb_nI (by omega) (by omega)) ?_
      rw [nI_clamp (n := 4 * x + 1) (by omega)]
      refine v_wrA (fun T2 e2 g2 v2 => ?_)
      have w2 := WR.st (k := 114) w1 trivial rfl e2
      rw [show nI (4 * x) + (2 : Int32) = nI (4 * x + 2) from nI_add (4 * x) 2, g2.2, g1.2]
      refine v_grd (inb_nI (by omega) (by omega)) ?_
      rw [nI_clamp (n := 4 * x + 2) (by omega)]
      refine v_wrA (fun T3 e3 g3 v3 => ?_)
      have w3 := WR.st (k := 114) w2 trivial rfl e3
      rw [show nI (4 * x) + (3 : Int32) = nI (4 * x + 3) from nI_add (4 * x) 3, g3.2, g2.2, g1.2]
      refine v_grd (inb_nI (by omega) (by omega)) ?_
      rw [nI_clamp (n := 4 * x + 3) (by omega), g3.1 71 5 rfl, g2.1 71 5 rfl, g1.1 71 5 rfl, hF.1 71 5 rfl, h71]
      refine v_wrA (fun T4 e4 g4 v4 => ?_)
      have w4 := WR.st (k := 114) w3 trivial rfl e4
      obtain ⟨k1, p1, r1⟩ := kw_n (k := 0) (s := 0) (e := a) T4 (by omega) (Nat.zero_le _) (by omega)
      rw [show (0 : Int32) = nI 0 from rfl, r1, bnd_r]
      obtain ⟨k2, p2, r2⟩ := kw_n (k := k1) (s := 1) (e := b) T4 (by omega) p1 (by omega)
      rw [show (1 : Int32) = nI 1 from rfl, r2, bnd_r]
      obtain ⟨k3, p3, r3⟩ := kw_n (k := k2) (s := 2) (e := c) T4 (by omega) p2 (by omega)
      rw [show (2 : Int32) = nI 2 from rfl, r3, bnd_r]
      have := kyb_le (2 + 1)
      refine v_grd (inb_nI (by omega) (by omega)) ?_
      refine v_wrA (fun T5 e5 g5 v5 => ?_)
      have w5 := WR.st (k := 113) w4 trivial rfl e5
      refine v_nm ?_
      refine v_nm ?_
      rw [nI_add, nI_add]
      have F5 : ZF S T5 := Fr.tr (Fr.tr (Fr.tr (Fr.tr (Fr.tr hF g1 rfl) g2 rfl) g3 rfl) g4 rfl) g5 rfl
      refine ls_L25 hw hW5 h71 h114 hab hb hK N (c + 1) (x + 1) T5 w5 F5 (fun sh hsh => ?_) (by omega) (by omega) (by omega) (by omega)
      have cell : ∀ i, T5.1 114 i = if i = 4 * x + 3 then nI w else if i = 4 * x + 2 then nI c else if i = 4 * x + 1 then nI b else if i = 4 * x then nI a else T.1 114 i := fun i => by
        rw [g5.1 114 i rfl, e4, st_at, if_pos rfl, e3, st_at, if_pos rfl, e2, st_at, if_pos rfl, e1, st_at, if_pos rfl]
      by_cases cs : sh = x
      · subst cs
        refine ⟨a, b, c, hab, hc, by omega, ?_, ?_, ?_, ?_⟩
        · rw [cell, if_neg (by omega), if_neg (by omega), if_neg (by omega), if_pos rfl]
        · rw [cell, if_neg (by omega), if_neg (by omega), if_pos rfl]
        · rw [cell, if_neg (by omega), if_pos rfl]
        · rw [cell, if_pos rfl]
      · obtain ⟨a', b', c', h1, h2, h3, h4, h5, h6, h7⟩ := hE sh (by omega)
        refine ⟨a', b', c', h1, h2, h3, ?_, ?_, ?_, ?_⟩
        · rw [cell, if_neg (by omega), if_neg (by omega), if_neg (by omega), if_neg (by omega)]; exact h4
        · rw [cell, if_neg (by omega), if_neg (by omega), if_neg (by omega), if_neg (by omega)]; exact h5
        · rw [cell, if_neg (by omega), if_neg (by omega), if_neg (by omega), if_neg (by omega)]; exact h6
        · rw [cell, if_neg (by omega), if_neg (by omega), if_neg (by omega), if_neg (by omega)]; exact h7
theorem t1_s {m : Nat} (h : 0 < m) : t1 m = t1 (m - 1) + m := by
  obtain ⟨k, rfl⟩ : ∃ k, m = k + 1 := ⟨m - 1, by omega⟩
  rfl
theorem t2_s {m : Nat} (h : 0 < m) : t2 m = t2 (m - 1) + t1 m := by
  obtain ⟨k, rfl⟩ : ∃ k, m = k + 1 := ⟨m - 1, by omega⟩
  rfl
theorem ls_L14 {S : SS} {K : Int32 → Int32 → SS → Option SS} {V : SS → Prop} {w W a : Nat} (hw : w ≤ W) (hW5 : W ≤ 5) (h71 : S.1 71 5 = nI w) (h114 : S.2 114 = shN W * 4) (ha : a ≤ w) (hK : ∀ U x, WR U → ZF S U → QE U w x → x + t2 (w - a) = shN w → Ew (K (nI x) (nI (a + 1)) U) V) : ∀ (N b x : Nat) (T : SS), WR T → ZF S T → QE T w x → a ≤ b → b ≤ w + 1 → (b ≤ w → x + ((w + 1 - b) + t1 (w - b) + t2 (w - a)) = shN w) → (b = w + 1 → x + t2 (w - a) = shN w) → w + 1 < N + b → Ew (f_Potentials_listShapes_L14 K N (nI x) (nI a) (nI b) T) V
  | 0, b, x, T, hW, hF, hE, hb, hbw, hx, hx2, hN => by omega
  | N + 1, b, x, T, hW, hF, hE, hb, hbw, hx, hx2, hN => by
    refine v_eq (f_Potentials_listShapes_L14.eq_2 _ _ _ _ _ _) ?_
    rw [hF.1 71 5 rfl, h71]
    by_cases cc : b = w + 1
    · refine v_t ((nI_ltJ (by omega) (by omega)).mpr (by omega)) ?_
      refine v_nm ?_
      rw [nI_1]
      exact hK T x hW hF hE (hx2 cc)
    · refine v_f (fun k => by have := (nI_ltJ (by omega) (by omega)).mp k; omega) ?_
      have hb' : b ≤ w := by omega
      refine ls_L25 hw hW5 h71 h114 hb hb' (fun U x' u1 u2 u3 u4 => ls_L14 hw hW5 h71 h114 ha hK N (b + 1) x' U u1 u2 u3 (by omega) (by omega) (fun h => ?_) (fun h => ?_) (by omega)) NF b x T hW hF hE (by omega) (by omega) (hx hb') (by have : NF = 100000 := rfl; omega)
      · have := t1_s (m := w - b) (by omega)
        rw [show w - b - 1 = w - (b + 1) by omega] at this
        omega
      · have : w - b = 0 := by omega
        rw [this] at u4
        have : t1 0 = 0 := rfl
        omega
theorem ls_L4 {S : SS} {w W : Nat} (hw : w ≤ W) (hW5 : W ≤ 5) (h71 : S.1 71 5 = nI w) (h114 : S.2 114 = shN W * 4) : ∀ (N a x : Nat) (T : SS), WR T → ZF S T → QE T w x → a ≤ w + 1 → (a ≤ w → x + ((w + 1 - a) + t1 (w - a) + t2 (w - a)) = shN w) → (a = w + 1 → x = shN w) → w + 1 < N + a → Ew (f_Potentials_listShapes_L4 N (nI x) (nI a) T) (fun U => WR U ∧ ZF S U ∧ QE U w (shN w))
  | 0, a, x, T, hW, hF, hE, haw, hx, hx2, hN => by omega
  | N + 1, a, x, T, hW, hF, hE, haw, hx, hx2, hN => by
    refine v_eq (f_Potentials_listShapes_L4.eq_2 _ _ _ _) ?_
    rw [hF.1 71 5 rfl, h71]
    by_cases cc : a = w + 1
    · refine v_t ((nI_ltJ (by omega) (by omega)).mpr (by omega)) ?_
      have := hx2 cc
      subst this
      exact v_some ⟨hW, hF, hE⟩
    · refine v_f (fun k => by have := (nI_ltJ (by omega) (by omega)).mp k; omega) ?_
      have ha : a ≤ w := by omega
      refine ls_L14 hw hW5 h71 h114 ha (fun U x' u1 u2 u3 u4 => ls_L4 hw hW5 h71 h114 N (a + 1) x' U u1 u2 u3 (by omega) (fun h => ?_) (fun h => ?_) (by omega)) NF a x T hW hF hE (by omega) (by omega) (fun _ => hx ha) (fun h => by omega) (by have : NF = 100000 := rfl; omega)
      · have e1 := t2_s (m := w - a) (by omega)
        have e2 := t1_s (m := w - a) (by omega)
        rw [show w - a - 1 = w - (a + 1) by omega] at e1 e2
        omega
      · have : w - a = 0 := by omega
        rw [this] at u4
        have : t2 0 = 0 := rfl
        omega
theorem lsx {S : SS} {w W : Nat} (hW : WR S) (hw : w ≤ W) (hW5 : W ≤ 5) (h71 : S.1 71 5 = nI w) (h114 : S.2 114 = shN W * 4) : Ew (f_Potentials_listShapes S) (fun U => WR U ∧ ZF S U ∧ QE U w (shN w)) := by
  refine v_eq (f_Potentials_listShapes.eq_1 _) ?_
  refine ls_L4 hw hW5 h71 h114 NF 0 0 S hW Fr.rf (fun sh hs => by omega) (by omega) (fun _ => ?_) (fun h => by omega) (by have : NF = 100000 := rfl; omega)
  rw [sh_t2 (by omega)]
  show 0 + ((w + 1) + t1 w + t2 w) = _
  omega
