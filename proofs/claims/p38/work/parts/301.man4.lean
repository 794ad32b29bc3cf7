/-! ===== walks by hand: making a THING; the class's own rows ===== -/
theorem AC.put {n : Nat} {c c' : Nat → Int32} (h : AC n c) (e : ∀ j, c' j = if j = 2 * n + 1 then -4 else if j = 2 * n then -4 else c j) : AC (n + 1) c' := by
  obtain ⟨pos, dir, h1, h2⟩ := h
  have e' : ∀ x s, x < n → s < 2 → c' (2 * x + s) = c (2 * x + s) := fun x s hx hs => by
    rw [e, if_neg (by omega), if_neg (by omega)]
  refine ⟨pos, dir, h1, fun x s hx hs => ?_⟩
  by_cases hxn : x = n
  · subst hxn
    refine Or.inl ?_
    rw [e]
    by_cases q : s = 1
    · rw [if_pos (by omega)]
    · rw [if_neg (by omega), if_pos (by omega)]
  · rcases h2 x s (by omega) hs with q | ⟨o, t, ho, ht, f1, f2, q⟩
    · exact Or.inl ((e' x s (by omega) hs).trans q)
    · exact Or.inr ⟨o, t, by omega, ht, (e' x s (by omega) hs).trans f1, (e' o t ho ht).trans f2, q⟩
set_option maxHeartbeats 2000000 in
theorem t_M_put {a1 : Int32} {a2 : Int32} {a3 : Int32} {a4 : Int32} {a5 : Int32} {S : SS} (hW : WR S) (h1 : rg a2 0 23) (h3 : rg a4 0 8) (h4 : rg a5 0 100) (hx0 : rg (S.1 0 29) 0 71) : Ex2 (f_M_put a1 a2 a3 a4 a5 S) (fun r U => WR U ∧ Fr [18, 19, 20, 21, 22, 23, 24, 25, 28, 29, 35] [(0, 29), (0, 49), (0, 60), (0, 61)] S U ∧ True) := by
  obtain ⟨n, hn, h29, hA, -⟩ := hW.2.1
  have hn1 : n ≤ 71 := by
    have := hx0.2
    rw [h29, nI_toInt (by omega)] at this
    omega
  have hF : Fr [18, 19, 20, 21, 22, 23, 24, 25, 28, 29, 35] [(0, 29), (0, 49), (0, 60), (0, 61)] S S := Fr.rf
  refine e_eq (f_M_put.eq_1 _ _ _ _ _ _) ?_
  refine e_nmG (fun z hz => ?_)
  rw [h29] at hz
  subst hz
  refine e_grd (inb_nI (by omega) (by omega)) ?_
  refine e_wrA (fun T2 e2 g2 v2 => ?_)
  have R2 := RO.st (k := 18) hW.1 trivial e2
  refine e_grd (inb_nI (by omega) (by omega)) ?_
  refine e_wrA (fun T3 e3 g3 v3 => ?_)
  have R3 := RO.st (k := 19) R2 (and1 _) e3
  refine e_grd (inb_nI (by omega) (by omega)) ?_
  refine e_wrA (fun T4 e4 g4 v4 => ?_)
  have R4 := RO.st (k := 20) R3 h1 e4
  refine e_grd (inb_nI (by omega) (by omega)) ?_
  refine e_wrA (fun T5 e5 g5 v5 => ?_)
  have R5 := RO.st (k := 21) R4 trivial e5
  refine e_grd (inb_nI (by omega) (by omega)) ?_
  refine e_wrA (fun T6 e6 g6 v6 => ?_)
  have R6 := RO.st (k := 22) R5 (rgl 1 0 1 rfl) e6
  refine e_grd (inb_of (nI_mul 2 n) (by omega) (by omega)) ?_
  refine e_wrA (fun T7 e7 g7 v7 => ?_)
  have R7 := RO.st (k := 23) R6 (rn4l 0 71) e7
  have ei : (2 : Int32) * nI n + 1 = nI (2 * n + 1) := by
    rw [show (2 : Int32) * nI n = nI (2 * n) from nI_mul 2 n, nI_1]
  refine e_grd (by rw [ei]; exact inb_nI (by omega) (by omega)) ?_
  refine e_wrA (fun T8 e8 g8 v8 => ?_)
  have R8 := RO.st (k := 23) R7 (rn4l 0 71) e8
  refine e_grd (inb_nI (by omega) (by omega)) ?_
  refine e_wrA (fun T9 e9 g9 v9 => ?_)
  have R9 := RO.st (k := 25) R8 trivial e9
  refine e_grd (inb_nI (by omega) (by omega)) ?_
  refine e_wrA (fun T10 e10 g10 v10 => ?_)
  have R10 := RO.st (k := 28) R9 h3 e10
  refine e_grd (inb_nI (by omega) (by omega)) ?_
  refine e_wrA (fun T11 e11 g11 v11 => ?_)
  have R11 := RO.st (k := 29) R10 h4 e11
  refine e_grd (inb_nI (by omega) (by omega)) ?_
  refine e_wrA (fun T12 e12 g12 v12 => ?_)
  have R12 := RO.st (k := 35) R11 (rn4l 0 20) e12
  refine e_wrO (fun T13 e13 g13 v13 => ?_)
  have R13 := RO.st (k := 0) (i := 49) R12 trivial e13
  refine e_grd (inb_nI (by omega) (by omega)) ?_
  refine e_wrA (fun T14 e14 g14 v14 => ?_)
  have R14 := RO.st (k := 24) R13 trivial e14
  have f14 := ((((((((((((hF.tr g2 rfl).tr g3 rfl).tr g4 rfl).tr g5 rfl).tr g6 rfl).tr g7 rfl).tr g8 rfl).tr g9 rfl).tr g10 rfl).tr g11 rfl).tr g12 rfl).tr g13 rfl).tr g14 rfl
  have k29 : T14.1 0 29 = nI n := by
    rw [g14.1 0 29 rfl, g13.1 0 29 rfl, g12.1 0 29 rfl, g11.1 0 29 rfl, g10.1 0 29 rfl, g9.1 0 29 rfl, g8.1 0 29 rfl, g7.1 0 29 rfl, g6.1 0 29 rfl, g5.1 0 29 rfl, g4.1 0 29 rfl, g3.1 0 29 rfl, g2.1 0 29 rfl]
    exact h29
  refine e_wrO (fun T15 e15 g15 v15 => ?_)
  rw [k29, nI_1] at e15 v15
  have R15 := RO.st (k := 0) (i := 29) R14 (rg_nI (j := n + 1) (by omega) (by omega) (by omega)) e15
  refine e_bndv ?_
  refine v_eq (f_M_forget.eq_1 _) ?_
  refine v_wrO (fun T16 e16 g16 v16 => ?_)
  have R16 := RO.st (k := 0) (i := 60) R15 (rgl 0 0 8 rfl) e16
  refine v_wrO (fun U eU gU vU => ?_)
  have RU := RO.st (k := 0) (i := 61) R16 (rgl 0 0 8 rfl) eU
  refine v_some ?_
  have fU := ((f14.tr g15 rfl).tr g16 rfl).tr gU rfl
  refine e_some ⟨⟨RU, ⟨n + 1, by omega, ?_, ?_, 0, 0, by omega, (gU.1 0 60 rfl).trans v16, vU, fun s hs => by omega, fun s hs => by omega⟩, ?_⟩, fU, trivial⟩
  · rw [gU.1 0 29 rfl, g16.1 0 29 rfl]; exact v15
  · refine hA.put (fun j => ?_)
    rw [gU.1 23 j rfl, g16.1 23 j rfl, g15.1 23 j rfl, g14.1 23 j rfl, g13.1 23 j rfl, g12.1 23 j rfl, g11.1 23 j rfl, g10.1 23 j rfl, g9.1 23 j rfl, e8, st_at, if_pos rfl, e7, st_at, if_pos rfl, g6.1 23 j rfl, g5.1 23 j rfl, g4.1 23 j rfl, g3.1 23 j rfl, g2.1 23 j rfl, ei, nI_clamp (by omega), show (2 : Int32) * nI n = nI (2 * n) from nI_mul 2 n, nI_clamp (by omega)]
  · exact hW.2.2.of (fU.1 64 6 rfl) (fU.1 64 7 rfl)
/-- the class keeps a world -/
theorem cpok_0 {x : Int32} {a b : Int} (h : rg x a b) (q : decide (0 ≤ a ∧ b ≤ 946) = true) : cpok 0 0 x 946 946 = true := by
  have q := of_decide_eq_true q
  have h1 := h.1; have h2 := h.2
  have e := clamp_toInt (x := x) (by omega)
  have n0 : ¬ x < 0 := by rw [Int32.lt_iff_toInt_lt, Int32.toInt_zero]; omega
  have z0 : (0 : Int32).toNatClampNeg = 0 := by decide
  have z1 : ¬ (0 : Int32) < 0 := by decide
  simp only [cpok, z0, z1, n0, decide_false, Bool.not_false, Bool.true_and, Nat.zero_add, Bool.and_eq_true, decide_eq_true_eq]
  omega
theorem ok_kb {b i : Nat} {v : Int32} (hb : b < 8) : ok (kb + b) i v = okS i v := by
  rcases (show b = 0 ∨ b = 1 ∨ b = 2 ∨ b = 3 ∨ b = 4 ∨ b = 5 ∨ b = 6 ∨ b = 7 by omega) with rfl | rfl | rfl | rfl | rfl | rfl | rfl | rfl <;> rfl
theorem RO.cpK {S : SS} {b m : Nat} (h : RO S) (hb : b < 8) : RO (cp S 79 (kb + b) 0 0 m) := by
  intro k i
  show ok k i ((if k = kb + b then va_cpy (S.1 79) (S.1 (kb + b)) 0 0 m else S.1 k) i)
  by_cases e : k = kb + b
  · rw [if_pos e, e, ok_kb hb]
    show okS i (if 0 ≤ i ∧ i < 0 + m then S.1 79 (0 + (i - 0)) else S.1 (kb + b) i)
    by_cases q : 0 ≤ i ∧ i < 0 + m
    · rw [if_pos q, Nat.zero_add, Nat.sub_zero]
      exact h 79 i
    · rw [if_neg q]
      have := h (kb + b) i
      rw [ok_kb hb] at this
      exact this
  · rw [if_neg e]; exact h k i
theorem fr_cpK {S : SS} {b m : Nat} (hb : b < 8) : Fr [81, 82, 83, 84, 85, 86, 87, 88] [] S (cp S 79 (kb + b) 0 0 m) := by
  refine ⟨fun a c q => ?_, rfl⟩
  show (if a = kb + b then _ else S.1 a) c = _
  rw [if_neg (fun e => ?_)]
  subst e
  rcases (show b = 0 ∨ b = 1 ∨ b = 2 ∨ b = 3 ∨ b = 4 ∨ b = 5 ∨ b = 6 ∨ b = 7 by omega) with rfl | rfl | rfl | rfl | rfl | rfl | rfl | rfl <;> cases q
theorem hk_j33 {S0 S : SS} (hF : Fr [81, 82, 83, 84, 85, 86, 87, 88] [(64, 3), (64, 6), (64, 7)] S0 S) (hR : RO S) (hJ : J1 S) (h6 : rg (S.1 64 6) 0 7) (h7 : S.1 64 7 = 0) : Ew (f_History_keep_j33 S) (fun U => WR U ∧ Fr [81, 82, 83, 84, 85, 86, 87, 88] [(64, 3), (64, 6), (64, 7)] S0 U) := by
  refine v_eq (f_History_keep_j33.eq_1 _) ?_
  refine v_bnd ?_
  refine e_eq (f_History_border.eq_1 _) ?_
  refine e_someG (fun r hr => ?_)
  have h3 : rg (S.1 64 3) 0 7 := hR 64 3
  have hb := rg_tr (rg_rem 7 8 (rg_add 0 14 h3 h6 rfl) (y := 8) (by decide) rfl) hr
  refine v_grd (inb_g hb rfl) ?_
  refine v_bnd ?_
  refine e_eq (f_State_usedCells.eq_1 _) ?_
  refine e_someG (fun c hc => ?_)
  have h63 : rg (S.1 63 1) 0 72 := hR 63 1
  have hc := rg_tr (rg_add 154 946 (rgl 154 154 154 rfl) (rg_mul 0 792 (rgl 11 11 11 rfl) h63 rfl) rfl) hc
  refine v_grd (cpok_0 hc rfl) ?_
  refine v_cpw ?_
  have hb8 : r.toNatClampNeg < 8 := inb_lt (inb_g (n := 8) hb rfl)
  have z0 : (0 : Int32).toNatClampNeg = 0 := by decide
  rw [z0]
  have R1 := RO.cpK (m := c.toNatClampNeg) hR hb8
  have f1 := fr_cpK (S := S) (m := c.toNatClampNeg) hb8
  generalize hT : cp S 79 (kb + r.toNatClampNeg) 0 0 c.toNatClampNeg = T at R1 f1 ⊢
  refine v_wrO (fun U eU gU vU => ?_)
  have k6 : rg (T.1 64 6) 0 7 := rg_tr h6 (f1.1 64 6 rfl)
  have RU := RO.st (k := 64) (i := 6) R1 ((rg_add 1 8 k6 (rgl 1 1 1 rfl) rfl).sub rfl) eU
  have fU := (hF.tr f1 rfl).tr gU rfl
  refine v_some ⟨⟨RU, hJ.of (fun b => by rw [gU.1 23 b rfl, f1.1 23 b rfl]) (fun b => by rw [gU.1 40 b rfl, f1.1 40 b rfl]) (by rw [gU.1 0 29 rfl, f1.1 0 29 rfl]) (by rw [gU.1 0 60 rfl, f1.1 0 60 rfl]) (by rw [gU.1 0 61 rfl, f1.1 0 61 rfl]), ?_⟩, fU⟩
  unfold J2
  have a := (rg_add 1 8 k6 (rgl 1 1 1 rfl) rfl).2
  rw [vU, gU.1 64 7 rfl, f1.1 64 7 rfl, h7, Int32.toInt_zero]
  omega
theorem t_History_keep {S : SS} (hW : WR S) : Ew (f_History_keep S) (fun U => WR U ∧ Fr [81, 82, 83, 84, 85, 86, 87, 88] [(64, 3), (64, 6), (64, 7)] S U) := by
  refine v_eq (f_History_keep.eq_1 _) ?_
  refine v_wrO (fun T e g v => ?_)
  have R1 := RO.st (k := 64) (i := 7) hW.1 (rgl 0 0 8 rfl) e
  have F1 : Fr [81, 82, 83, 84, 85, 86, 87, 88] [(64, 3), (64, 6), (64, 7)] S T := Fr.tr Fr.rf g rfl
  have J1' := hW.2.1.of (T := T) (fun b => g.1 23 b rfl) (fun b => g.1 40 b rfl) (g.1 0 29 rfl) (g.1 0 60 rfl) (g.1 0 61 rfl)
  have h6 : rg (T.1 64 6) 0 8 := R1 64 6
  refine v_i (fun q => ?_) (fun q => ?_)
  · exact hk_j33 F1 R1 J1' (lt_l 7 h6 (rgl 8 8 8 rfl) q rfl) v
  · refine v_wrO (fun T2 e2 g2 v2 => ?_)
    have h3 : rg (T.1 64 3) 0 7 := R1 64 3
    have R2 := RO.st (k := 64) (i := 3) R1 (rg_rem 7 8 (rg_add 1 8 h3 (rgl 1 1 1 rfl) rfl) (y := 8) (by decide) rfl) e2
    refine v_wrO (fun T3 e3 g3 v3 => ?_)
    have R3 := RO.st (k := 64) (i := 6) R2 (rgl 7 0 8 rfl) e3
    refine hk_j33 ((F1.tr g2 rfl).tr g3 rfl) R3 (J1'.of (fun b => by rw [g3.1 23 b rfl, g2.1 23 b rfl]) (fun b => by rw [g3.1 40 b rfl, g2.1 40 b rfl]) (by rw [g3.1 0 29 rfl, g2.1 0 29 rfl]) (by rw [g3.1 0 60 rfl, g2.1 0 60 rfl]) (by rw [g3.1 0 61 rfl, g2.1 0 61 rfl])) (rg_tr (rgl 7 0 7 rfl) v3) ?_
    rw [g3.1 64 7 rfl, g2.1 64 7 rfl]
    exact v
theorem wr_cp {S : SS} {k0 k1 sp dp n : Nat} (h : WR S) (hv : ∀ i j, ok k1 i (S.1 k0 j)) (hj : ∀ i, jm k1 i = false) : WR (cp S k0 k1 sp dp n) := by
  have e : ∀ a b, a ≠ k1 → (cp S k0 k1 sp dp n).1 a b = S.1 a b := fun a b ha => by rw [cp_row _ _ _ _ _ _ ha]
  refine ⟨fun k i => ?_, h.2.of (fun a b q => ?_)⟩
  · by_cases hk : k = k1
    · subst hk
      show ok k i ((if k = k then va_cpy (S.1 k0) (S.1 k) sp dp n else S.1 k) i)
      rw [if_pos rfl]
      show ok k i (if dp ≤ i ∧ i < dp + n then S.1 k0 (sp + (i - dp)) else S.1 k i)
      by_cases q : dp ≤ i ∧ i < dp + n
      · rw [if_pos q]; exact hv i _
      · rw [if_neg q]; exact h.1 k i
    · rw [e k i hk]; exact h.1 k i
  · refine e a b (fun ha => ?_)
    rw [ha, hj] at q; cases q
theorem fr_cp {S : SS} {k0 k1 sp dp n : Nat} : Fr [k1] [] S (cp S k0 k1 sp dp n) := ⟨fun a b q => by
  simp only [wm, List.any_cons, List.any_nil, Bool.or_false] at q
  rw [cp_row _ _ _ _ _ _ (fun e => by rw [e, Nat.beq_refl] at q; cases q)], rfl⟩
