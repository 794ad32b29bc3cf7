/-! ===== the class: takeWagons ===== -/
def nb (x : Int32) : Nat → Nat
  | 0 => 0
  | i + 1 => if ((x >>> (nI i &&& 31)) &&& (1 : Int32)) = 1 ∧ nb x i < 5 then nb x i + 1 else nb x i
theorem nb_le (x : Int32) : ∀ i, nb x i ≤ 5
  | 0 => by show 0 ≤ 5; omega
  | i + 1 => by
    have := nb_le x i
    show (if ((x >>> (nI i &&& 31)) &&& (1 : Int32)) = 1 ∧ nb x i < 5 then nb x i + 1 else nb x i) ≤ 5
    by_cases c : ((x >>> (nI i &&& 31)) &&& (1 : Int32)) = 1 ∧ nb x i < 5
    · rw [if_pos c]; omega
    · rw [if_neg c]; exact this
theorem shI : ∀ m : Fin 6, (((nI m.1 + (1 : Int32)) * (nI m.1 + (2 : Int32))) * (nI m.1 + (3 : Int32))) / (6 : Int32) = nI (shN m.1) := by decide +kernel
theorem fcI : ∀ x : Fin 6, 2 ≤ x.1 → nI (fcN (x.1 - 1)) * nI x.1 = nI (fcN x.1) := by decide +kernel
def TL : List Nat := [109, 110, 111, 112, 113, 114, 115, 116, 117, 118, 119, 120, 121]
def TFl : List (Nat × Nat) := [(71, 5), (71, 6), (71, 7)]
def Gn (G m : Nat) : Nat := if G ≤ m then m + 1 else G
def LnOk (S : SS) (G : Nat) : Prop := (G = 0 ∧ S.2 120 = 0) ∨ ∃ W, W ≤ 5 ∧ G = W + 1 ∧ QL S W
theorem QR.w71 {S U : SS} {i : Nat} (h : QR S) (g : Fr [] [(71, i)] S U) : QR U := h.fr g (fun k hk j => by
  simp only [List.mem_cons, List.mem_nil_iff, or_false] at hk
  rcases hk with rfl | rfl | rfl | rfl | rfl | rfl <;> rfl)
set_option maxHeartbeats 1000000 in
theorem tw_L122 {S : SS} {m G : Nat} (hm : m ≤ 5) (h5 : S.1 71 5 = nI m) (h7 : S.1 71 7 = nI (shN m)) (hl : LnOk S G) (hg : G ≤ m → S.2 200 = 1) : ∀ (N x : Nat) (T : SS), WR T → QR T → Fr [] [(71, 6)] S T → T.1 71 6 = nI (fcN (x - 1)) → 2 ≤ x → (x = 2 ∨ x ≤ m + 1) → 7 < N + x → Ew (f_Potentials_takeWagons_L122 N (nI x) T) (fun U => WR U ∧ F1 TL TFl S U ∧ CQ U (Gn G m))
  | 0, x, T, hW, hR, hF, h6, hx, hxm, hN => by omega
  | N + 1, x, T, hW, hR, hF, h6, hx, hxm, hN => by
    have qm := qn (Nat.le_refl m) hm
    refine v_eq (f_Potentials_takeWagons_L122.eq_2 _ _ _) ?_
    have t5 : T.1 71 5 = nI m := (hF.1 71 5 rfl).trans h5
    have t7 : T.1 71 7 = nI (shN m) := (hF.1 71 7 rfl).trans h7
    rw [t5]
    by_cases c : m < x
    · refine v_t ((nI_ltJ (by omega) (by omega)).mpr c) ?_
      have t6 : T.1 71 6 = nI (fcN m) := by
        rw [h6]
        by_cases c1 : x - 1 = m
        · rw [c1]
        · have a1 : x = 2 := by omega
          have a2 : m = 0 := by omega
          subst a1 a2
          rfl
      have e2 : T.2 = S.2 := hF.2
      have l0 : T.2 120 ≤ 6720 := by
        rw [e2]
        rcases hl with ⟨-, h⟩ | ⟨W, w1, -, h⟩
        · omega
        · have := qn (Nat.le_refl W) w1
          rw [h.2.2.2.2.2.2.1]
          omega
      have hgr : T.2 120 < fcN m * shN m → T.2 200 = 1 := fun q => by
        rw [e2] at q ⊢
        refine hg ?_
        rcases hl with ⟨h, -⟩ | ⟨W, w1, h, l⟩
        · omega
        · rw [l.2.2.2.2.2.2.1] at q
          rcases Nat.lt_or_ge W m with d | d
          · omega
          · have := qn d w1
            omega
      refine v_cV (grx hW hR hm t5 t6 t7 l0 hgr) (fun U1 p => ?_)
      obtain ⟨w1, r1, f1, p⟩ := p
      have len : ∃ W, W ≤ 5 ∧ m ≤ W ∧ Gn G m = W + 1 ∧ QL U1 W := by
        unfold Gn
        rcases p with ⟨p1, p2⟩ | ⟨p1, p2⟩
        · rcases hl with ⟨h, l⟩ | ⟨W, a1, h, l⟩
          · rw [e2, l] at p2; omega
          · rw [e2, l.2.2.2.2.2.2.1] at p2
            have hmW : m ≤ W := by
              rcases Nat.lt_or_ge W m with d | d
              · have := qn (Nat.le_of_lt d) hm
                have := this.2.2.2.2.2.2.2.2.2.2.2 d
                omega
              · exact d
            refine ⟨W, a1, hmW, by rw [if_neg (by omega)]; exact h, ?_⟩
            unfold QL
            rw [p1, e2]
            exact l
        · refine ⟨m, hm, Nat.le_refl _, ?_, p2⟩
          rw [if_pos]
          rw [e2] at p1
          rcases hl with ⟨h, -⟩ | ⟨W, a1, h, l⟩
          · omega
          · rw [l.2.2.2.2.2.2.1] at p1
            rcases Nat.lt_or_ge W m with d | d
            · omega
            · have := qn d a1
              omega
      obtain ⟨W, a1, a2, a3, a4⟩ := len
      have u5 : U1.1 71 5 = nI m := (f1 71 5 rfl).trans t5
      have u6 : U1.1 71 6 = nI (fcN m) := (f1 71 6 rfl).trans t6
      have u7 : U1.1 71 7 = nI (shN m) := (f1 71 7 rfl).trans t7
      refine v_cV (lsx w1 a2 a1 u5 a4.1) (fun U2 p => ?_)
      obtain ⟨w2, g2, E2⟩ := p
      have r2 := qr_zf r1 g2
      refine v_cV (lorx (W := W) w2 r2 a2 a1 ((g2.1 71 5 rfl).trans u5) ((g2.1 71 6 rfl).trans u6) (by rw [g2.2]; exact a4.2.1)) (fun U3 p => ?_)
      obtain ⟨w3, r3, g3⟩ := p
      have F3 : F1 TL TFl S U3 := F1.tr (F1.tr (F1.tr (F1.tr F1.rf hF.f1 rfl) f1 rfl) (Fr.f1 g2) rfl) (Fr.f1 g3) rfl
      refine v_some ⟨w3, F3, r3, Or.inr ⟨m, W, a3, ⟨a2, a1, ?_, ?_, ?_, ?_⟩, E2.of (fun i => g3.1 114 i rfl)⟩⟩
      · rw [g3.1 71 5 rfl, g2.1 71 5 rfl]; exact u5
      · rw [g3.1 71 6 rfl, g2.1 71 6 rfl]; exact u6
      · rw [g3.1 71 7 rfl, g2.1 71 7 rfl]; exact u7
      · rw [g3.2, g2.2]; exact a4
    · refine v_f (fun k => c ((nI_ltJ (by omega) (by omega)).mp k)) ?_
      rw [h6]
      refine v_wrO (fun T1 e1 g1 v1 => ?_)
      have w1 := WR.st (k := 71) (i := 6) hW trivial rfl e1
      refine v_nm ?_
      rw [nI_1]
      refine tw_L122 hm h5 h7 hl hg N (x + 1) T1 w1 (hR.w71 g1) (Fr.tr hF g1 rfl) ?_ (by omega) (by omega) (by omega)
      rw [v1]
      exact fcI ⟨x, by omega⟩ hx
theorem tw_j83 {S : SS} {m G : Nat} (hW : WR S) (hR : QR S) (hm : m ≤ 5) (hl : LnOk S G) (hg : G ≤ m → S.2 200 = 1) : Ew (f_Potentials_takeWagons_j83 (nI m) S) (fun U => WR U ∧ F1 TL TFl S U ∧ CQ U (Gn G m)) := by
  refine v_eq (f_Potentials_takeWagons_j83.eq_1 _ _) ?_
  refine v_wrO (fun T1 e1 g1 v1 => ?_)
  have w1 := WR.st (k := 71) (i := 5) hW trivial rfl e1
  rw [v1, shI ⟨m, by omega⟩]
  refine v_wrO (fun T2 e2 g2 v2 => ?_)
  have w2 := WR.st (k := 71) (i := 7) w1 trivial rfl e2
  refine v_wrO (fun T3 e3 g3 v3 => ?_)
  have w3 := WR.st (k := 71) (i := 6) w2 trivial rfl e3
  have F3 : Fr [] [(71, 5), (71, 6), (71, 7)] S T3 := Fr.tr (Fr.tr (Fr.tr Fr.rf g1 rfl) g2 rfl) g3 rfl
  have r3 := ((hR.w71 g1).w71 g2).w71 g3
  have l3 : LnOk T3 G := by
    unfold LnOk QL
    rw [F3.2]
    exact hl
  refine v_mono (tw_L122 (S := T3) hm (by rw [g3.1 71 5 rfl, g2.1 71 5 rfl]; exact v1) (by rw [g3.1 71 7 rfl]; exact v2) l3 (fun h => by rw [F3.2]; exact hg h) NF 2 T3 w3 r3 Fr.rf v3 (by omega) (Or.inl rfl) (by have : NF = 100000 := rfl; omega)) (fun U p => ?_)
  obtain ⟨p1, p2, p3⟩ := p
  exact ⟨p1, F1.tr (F1.tr F1.rf F3.f1 rfl) p2 rfl, p3⟩
theorem CQ.ln {S : SS} {G : Nat} (h : CQ S G) : LnOk S G := by
  rcases h.2 with ⟨h1, -, -, -, h2⟩ | ⟨w, W, h1, h2, -⟩
  · exact Or.inl ⟨h1, h2⟩
  · exact Or.inr ⟨W, h2.2.1, h1, h2.2.2.2.2.2⟩
theorem QR.s109 {S U : SS} {j : Nat} {v : Int32} (h : QR S) (hv : rn v 0 4) (e : U = st S 109 j v) : QR U := by
  obtain ⟨h1, h2, h3, h4, h5, h6⟩ := h
  subst e
  refine ⟨fun i => ?_, fun i => ?_, fun i => ?_, fun i => ?_, fun i => ?_, fun i => ?_⟩
  · rw [st_at, if_pos rfl]
    by_cases c : i = j
    · rw [if_pos c]; exact hv
    · rw [if_neg c]; exact h1 _
  · rw [st_at, if_neg (by decide)]; exact h2 _
  · rw [st_at, if_neg (by decide)]; exact h3 _
  · rw [st_at, if_neg (by decide)]; exact h4 _
  · rw [st_at, if_neg (by decide)]; exact h5 _
  · rw [st_at, if_neg (by decide)]; exact h6 _
theorem CQ.of {S U : SS} {G : Nat} (h : CQ S G) (hR : QR U) (e2 : U.2 = S.2) (e5 : U.1 71 5 = S.1 71 5) (e6 : U.1 71 6 = S.1 71 6) (e7 : U.1 71 7 = S.1 71 7) (e : ∀ i, U.1 114 i = S.1 114 i) : CQ U G := by
  refine ⟨hR, ?_⟩
  rcases h.2 with ⟨h1, h2, h3, h4, h5⟩ | ⟨w, W, h1, h2, h3⟩
  · exact Or.inl ⟨h1, e5.trans h2, e6.trans h3, e7.trans h4, by rw [e2]; exact h5⟩
  · exact Or.inr ⟨w, W, h1, h2.of e2 e5 e6 e7, h3.of e⟩
theorem CQ.fr {S U : SS} {G : Nat} (h : CQ S G) {L : List Nat} {F : List (Nat × Nat)} (g : Fr L F S U) (e : ∀ k, k ∈ [109, 110, 111, 116, 119, 120] → ∀ i, wm L F k i = false) (e4 : ∀ i, wm L F 114 i = false) (e7 : wm L F 71 5 = false ∧ wm L F 71 6 = false ∧ wm L F 71 7 = false) : CQ U G :=
  h.of (h.1.fr g e) g.2 (g.1 71 5 e7.1) (g.1 71 6 e7.2.1) (g.1 71 7 e7.2.2) (fun i => g.1 114 i (e4 i))
set_option maxHeartbeats 1000000 in
theorem tw_L4 {S : SS} {a : Int32} {G : Nat} (hC : CQ S G) (hg : G ≤ nb a 10 → S.2 200 = 1) : ∀ (N i : Nat) (T : SS), WR T → QR T → Fr [109] [] S T → i ≤ 10 → 10 < N + i → Ew (f_Potentials_takeWagons_L4 N a (nI (nb a i)) (nI i) T) (fun U => WR U ∧ F1 TL TFl S U ∧ CQ U (Gn G (nb a 10)))
  | 0, i, T, hW, hR, hF, hi, hN => by omega
  | N + 1, i, T, hW, hR, hF, hi, hN => by
    have n5 := nb_le a i
    refine v_eq (f_Potentials_takeWagons_L4.eq_2 _ _ _ _ _) ?_
    by_cases c : i = 10
    · subst c
      refine v_t (nI_le (a := 10) (by omega) (by omega)) ?_
      have hl : LnOk T G := by
        have := hC.ln
        unfold LnOk QL
        rw [hF.2]
        exact this
      have j83 : Ew (f_Potentials_takeWagons_j83 (nI (nb a 10)) T) (fun U => WR U ∧ F1 TL TFl S U ∧ CQ U (Gn G (nb a 10))) := v_mono (tw_j83 hW hR n5 hl (fun h => by rw [hF.2]; exact hg h)) (fun U p => by
        obtain ⟨p1, p2, p3⟩ := p
        exact ⟨p1, F1.tr (F1.tr F1.rf hF.f1 rfl) p2 rfl, p3⟩)
      have hCT : CQ T G := hC.of hR hF.2 (hF.1 71 5 rfl) (hF.1 71 6 rfl) (hF.1 71 7 rfl) (fun i => hF.1 114 i rfl)
      rcases hCT.2 with ⟨h1, h2, h3, h4, h5⟩ | ⟨w, W, h1, h2, h3⟩
      · refine v_t (by rw [h4]; decide) j83
      · refine v_i (fun _ => j83) (fun _ => ?_)
        refine v_i (fun q => ?_) (fun _ => j83)
        rw [h2.2.2.1] at q
        have hw := h2.1
        have hW5 := h2.2.1
        have e := nI_inj (by omega) (by omega) q
        refine v_some ⟨hW, F1.tr F1.rf hF.f1 rfl, ?_⟩
        unfold Gn
        rw [if_neg (by omega)]
        exact hCT
    · have hi' : i < 10 := by omega
      refine v_f (nI_ge (b := 10) hi' (by omega)) ?_
      have j29 : ∀ b : Bool, (b = true → nb a i < 5) → nb a (i + 1) = (if b = true then nb a i + 1 else nb a i) → Ew (f_Potentials_takeWagons_j29 (fun v0 v1 v2 S => f_Potentials_takeWagons_L4 N v0 v1 v2 S) a (nI (nb a i)) (nI i) (bI b) T) (fun U => WR U ∧ F1 TL TFl S U ∧ CQ U (Gn G (nb a 10))) := fun b hb hn => by
        refine v_eq (f_Potentials_takeWagons_j29.eq_1 _ _ _ _ _ _) ?_
        cases hbb : b with
        | false =>
          refine v_t rfl ?_
          refine v_eq (f_Potentials_takeWagons_j47.eq_1 _ _ _ _ _ _ _ _) ?_
          refine v_grd (inb_nI hi' (by omega)) ?_
          refine v_wrA (fun T1 e1 g1 v1 => ?_)
          refine v_t rfl ?_
          refine v_eq (f_Potentials_takeWagons_j59.eq_1 _ _ _ _ _ _) ?_
          refine v_nm ?_
          refine v_nm ?_
          rw [Int32.add_zero, nI_1]
          have en : nb a (i + 1) = nb a i := by rw [hn, hbb]; rfl
          rw [← en]
          exact tw_L4 hC hg N (i + 1) T1 (WR.st (k := 109) hW trivial rfl e1) (hR.s109 (rn4l _ _) e1) (Fr.tr hF g1 rfl) (by omega) (by omega)
        | true =>
          refine v_f (by decide) ?_
          refine v_eq (f_Potentials_takeWagons_j47.eq_1 _ _ _ _ _ _ _ _) ?_
          refine v_grd (inb_nI hi' (by omega)) ?_
          refine v_wrA (fun T1 e1 g1 v1 => ?_)
          refine v_f (by decide) ?_
          refine v_eq (f_Potentials_takeWagons_j59.eq_1 _ _ _ _ _ _) ?_
          refine v_nm ?_
          refine v_nm ?_
          rw [nI_1, nI_1]
          have en : nb a (i + 1) = nb a i + 1 := by rw [hn, hbb]; rfl
          have lt := hb hbb
          rw [← en]
          exact tw_L4 hC hg N (i + 1) T1 (WR.st (k := 109) hW trivial rfl e1) (hR.s109 (Or.inr (rg_nI (by omega) (by omega) (by omega))) e1) (Fr.tr hF g1 rfl) (by omega) (by omega)
      have un : nb a (i + 1) = if ((a >>> (nI i &&& 31)) &&& (1 : Int32)) = 1 ∧ nb a i < 5 then nb a i + 1 else nb a i := rfl
      refine v_i (fun q => ?_) (fun q => ?_)
      · by_cases c5 : 5 ≤ nb a i
        · refine v_t (nI_le (a := 5) c5 (by omega)) ?_
          refine v_eq (f_Potentials_takeWagons_j28.eq_1 _ _ _ _ _) ?_
          exact j29 false (fun k => by cases k) (by rw [un, if_neg (fun k => by omega)]; rfl)
        · refine v_f (nI_ge (b := 5) (by omega) (by omega)) ?_
          exact j29 true (fun _ => by omega) (by rw [un, if_pos ⟨q, by omega⟩]; rfl)
      · refine v_eq (f_Potentials_takeWagons_j28.eq_1 _ _ _ _ _) ?_
        exact j29 false (fun k => by cases k) (by rw [un, if_neg (fun k => q k.1)]; rfl)
theorem twx {S : SS} {a : Int32} {G : Nat} (hW : WR S) (hC : CQ S G) (hg : G ≤ nb a 10 → S.2 200 = 1) : Ew (f_Potentials_takeWagons a S) (fun U => WR U ∧ F1 TL TFl S U ∧ CQ U (Gn G (nb a 10))) := by
  refine v_eq (f_Potentials_takeWagons.eq_1 _ _) ?_
  exact tw_L4 hC hg NF 0 S hW hC.1 Fr.rf (by omega) (by have : NF = 100000 := rfl; omega)
