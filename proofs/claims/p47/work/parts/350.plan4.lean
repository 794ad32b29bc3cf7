/-! ===== LEAST is at most 50 ===== -/
theorem no_move {R : Nat → Nat} {X Z : Cf} (hf : Fit R X) (h : R 0 + R 1 + R 2 + R 3 ≤ tot X) : ¬ Mv R X Z := by
  intro ⟨a, b, n, ha, hb, hab, h1, h2, h3, _⟩
  have f0 := hf 0 (by omega); have f1 := hf 1 (by omega); have f2 := hf 2 (by omega); have f3 := hf 3 (by omega)
  unfold tot at h
  rcases (show b = 0 ∨ b = 1 ∨ b = 2 ∨ b = 3 by omega) with rfl | rfl | rfl | rfl <;> omega
theorem flat_len (X : Cf) : (Flat X).length = tot X := by
  unfold Flat tot
  rw [List.length_append, List.length_append, List.length_append]
theorem shaped {X : Cf} {h0 h1 h2 h3 : Nat} (hf : Fit (rl [h0, h1, h2, h3]) X) (ht : tot X = h0 + h1 + h2 + h3) (hX : ∀ s, 4 ≤ s → X s = []) : X = cfL (unf h0 h1 h2 (Flat X)) := by
  have f0 : (X 0).length ≤ h0 := hf 0 (by omega)
  have f1 : (X 1).length ≤ h1 := hf 1 (by omega)
  have f2 : (X 2).length ≤ h2 := hf 2 (by omega)
  have f3 : (X 3).length ≤ h3 := hf 3 (by omega)
  unfold tot at ht
  have e0 : (X 0).length = h0 := by omega
  have e1 : (X 1).length = h1 := by omega
  have e2 : (X 2).length = h2 := by omega
  have := unf_flat hX
  rw [e0, e1, e2] at this
  exact this
theorem tri_5 {n : Nat} (h : n ≤ 5) : tri n ≤ 10 := by
  rcases (show n = 0 ∨ n = 1 ∨ n = 2 ∨ n = 3 ∨ n = 4 ∨ n = 5 by omega) with rfl | rfl | rfl | rfl | rfl | rfl <;> decide
theorem conn {N : Nat} {r : List Nat} {h0 h1 h2 : Nat} (h3 : Nat) (g : Gd N r h0 h1 h2) {R : Nat → Nat} (hR : ∀ s, s < 4 → rl r s ≤ R s) (hh : ∀ s, s < 4 → rl [h0, h1, h2, h3] s ≤ rl r s) (hN : h0 + h1 + h2 + h3 = N) (hN5 : N ≤ 5) {X Y : Cf} (fX : Fit R X) (fY : Fit R Y) (tX : tot X = N) (hc : ∀ w, (Flat Y).count w = (Flat X).count w) (zX : ∀ s, 4 ≤ s → X s = []) (zY : ∀ s, 4 ≤ s → Y s = []) (tY : tot Y = N) : Rc R 50 X Y := by
  have hRR : ∀ s, s < 4 → rl [h0, h1, h2, h3] s ≤ R s := fun s hs => Nat.le_trans (hh s hs) (hR s hs)
  have ex : ∀ V : Cf, tot V = N → exc (rl [h0, h1, h2, h3]) V ≤ 5 := fun V hV => by
    unfold exc; unfold tot at hV; omega
  obtain ⟨X1, p1, q1⟩ := to_base hRR 5 X (by rw [tX, ← hN]; exact Nat.le_refl _) (ex X tX)
  obtain ⟨Y1, p2, q2⟩ := to_base hRR 5 Y (by rw [tY, ← hN]; exact Nat.le_refl _) (ex Y tY)
  have t1 : tot X1 = N := (rc_tot p1).trans tX
  have t2 : tot Y1 = N := (rc_tot p2).trans tY
  have s1 := shaped q1 (t1.trans hN.symm) (fun s hs => (rc_far p1 hs).trans (zX s hs))
  have s2 := shaped q2 (t2.trans hN.symm) (fun s hs => (rc_far p2 hs).trans (zY s hs))
  have sw := bubble (Flat Y1) (Flat X1) (by rw [flat_len, flat_len, t1, t2]) (fun w => by rw [rc_count p1 w, rc_count p2 w, hc w])
  have m := g.sw (by rw [flat_len]; exact t1) sw
  rw [← s1, ← s2, flat_len, t2] at m
  have m' := Rc.le hR m
  have := tri_5 hN5
  exact Rc.mono (by omega) ((p1.trans m').trans (Rc.rev fY p2))
/-- ROOM within which the neighbours' changes are known -/
theorem base_ex {N : Nat} {R : Nat → Nat} (h1 : 1 ≤ N) (h5 : N ≤ 5) (hR : ∀ s, s < 4 → 1 ≤ R s) (hO : ∀ s, s < 4 → N ≤ oth s R) : ∃ (r : List Nat) (a b c d : Nat), Gd N r a b c ∧ (∀ s, s < 4 → rl r s ≤ R s) ∧ (∀ s, s < 4 → rl [a, b, c, d] s ≤ rl r s) ∧ a + b + c + d = N := by
  have r0 := hR 0 (by omega); have r1 := hR 1 (by omega); have r2 := hR 2 (by omega); have r3 := hR 3 (by omega)
  have o0 : N ≤ R 1 + R 2 + R 3 := by have := hO 0 (by omega); simpa [oth] using this
  have o1 : N ≤ R 0 + R 2 + R 3 := by have := hO 1 (by omega); simpa [oth] using this
  have o2 : N ≤ R 0 + R 1 + R 3 := by have := hO 2 (by omega); simpa [oth] using this
  have o3 : N ≤ R 0 + R 1 + R 2 := by have := hO 3 (by omega); simpa [oth] using this
  have four : ∀ {p q : Nat → Nat}, p 0 ≤ q 0 → p 1 ≤ q 1 → p 2 ≤ q 2 → p 3 ≤ q 3 → ∀ s, s < 4 → p s ≤ q s := fun a b c d s hs => by
    rcases (show s = 0 ∨ s = 1 ∨ s = 2 ∨ s = 3 by omega) with rfl | rfl | rfl | rfl <;> assumption
  rcases (show N = 1 ∨ N = 2 ∨ N = 3 ∨ N = 4 ∨ N = 5 by omega) with rfl | rfl | rfl | rfl | rfl
  · exact ⟨[1, 1, 1, 1], 0, 0, 0, 1, gd_1_1111, four (show 1 ≤ R 0 by omega) (show 1 ≤ R 1 by omega) (show 1 ≤ R 2 by omega) (show 1 ≤ R 3 by omega), four (by decide) (by decide) (by decide) (by decide), rfl⟩
  · exact ⟨[1, 1, 1, 1], 0, 0, 1, 1, gd_2_1111, four (show 1 ≤ R 0 by omega) (show 1 ≤ R 1 by omega) (show 1 ≤ R 2 by omega) (show 1 ≤ R 3 by omega), four (by decide) (by decide) (by decide) (by decide), rfl⟩
  · exact ⟨[1, 1, 1, 1], 0, 1, 1, 1, gd_3_1111, four (show 1 ≤ R 0 by omega) (show 1 ≤ R 1 by omega) (show 1 ≤ R 2 by omega) (show 1 ≤ R 3 by omega), four (by decide) (by decide) (by decide) (by decide), rfl⟩
  · by_cases c6 : 2 ≤ R 2 ∧ 2 ≤ R 3
    · exact ⟨[1, 1, 2, 2], 1, 1, 1, 1, gd_4_1122, four (show 1 ≤ R 0 by omega) (show 1 ≤ R 1 by omega) (show 2 ≤ R 2 by omega) (show 2 ≤ R 3 by omega), four (by decide) (by decide) (by decide) (by decide), rfl⟩
    · by_cases c5 : 2 ≤ R 1 ∧ 2 ≤ R 3
      · exact ⟨[1, 2, 1, 2], 1, 1, 1, 1, gd_4_1212, four (show 1 ≤ R 0 by omega) (show 2 ≤ R 1 by omega) (show 1 ≤ R 2 by omega) (show 2 ≤ R 3 by omega), four (by decide) (by decide) (by decide) (by decide), rfl⟩
      · by_cases c4 : 2 ≤ R 1 ∧ 2 ≤ R 2
        · exact ⟨[1, 2, 2, 1], 1, 1, 1, 1, gd_4_1221, four (show 1 ≤ R 0 by omega) (show 2 ≤ R 1 by omega) (show 2 ≤ R 2 by omega) (show 1 ≤ R 3 by omega), four (by decide) (by decide) (by decide) (by decide), rfl⟩
        · by_cases c3 : 2 ≤ R 0 ∧ 2 ≤ R 3
          · exact ⟨[2, 1, 1, 2], 1, 1, 1, 1, gd_4_2112, four (show 2 ≤ R 0 by omega) (show 1 ≤ R 1 by omega) (show 1 ≤ R 2 by omega) (show 2 ≤ R 3 by omega), four (by decide) (by decide) (by decide) (by decide), rfl⟩
          · by_cases c2 : 2 ≤ R 0 ∧ 2 ≤ R 2
            · exact ⟨[2, 1, 2, 1], 1, 1, 1, 1, gd_4_2121, four (show 2 ≤ R 0 by omega) (show 1 ≤ R 1 by omega) (show 2 ≤ R 2 by omega) (show 1 ≤ R 3 by omega), four (by decide) (by decide) (by decide) (by decide), rfl⟩
            · by_cases c1 : 2 ≤ R 0 ∧ 2 ≤ R 1
              · exact ⟨[2, 2, 1, 1], 0, 2, 1, 1, gd_4_2211, four (show 2 ≤ R 0 by omega) (show 2 ≤ R 1 by omega) (show 1 ≤ R 2 by omega) (show 1 ≤ R 3 by omega), four (by decide) (by decide) (by decide) (by decide), rfl⟩
              · omega
  · by_cases c10 : 2 ≤ R 1 ∧ 2 ≤ R 2 ∧ 2 ≤ R 3
    · exact ⟨[1, 2, 2, 2], 0, 2, 1, 2, gd_5_1222, four (show 1 ≤ R 0 by omega) (show 2 ≤ R 1 by omega) (show 2 ≤ R 2 by omega) (show 2 ≤ R 3 by omega), four (by decide) (by decide) (by decide) (by decide), rfl⟩
    · by_cases c9 : 2 ≤ R 0 ∧ 2 ≤ R 2 ∧ 2 ≤ R 3
      · exact ⟨[2, 1, 2, 2], 0, 1, 2, 2, gd_5_2122, four (show 2 ≤ R 0 by omega) (show 1 ≤ R 1 by omega) (show 2 ≤ R 2 by omega) (show 2 ≤ R 3 by omega), four (by decide) (by decide) (by decide) (by decide), rfl⟩
      · by_cases c8 : 2 ≤ R 0 ∧ 2 ≤ R 1 ∧ 2 ≤ R 3
        · exact ⟨[2, 2, 1, 2], 0, 2, 1, 2, gd_5_2212, four (show 2 ≤ R 0 by omega) (show 2 ≤ R 1 by omega) (show 1 ≤ R 2 by omega) (show 2 ≤ R 3 by omega), four (by decide) (by decide) (by decide) (by decide), rfl⟩
        · by_cases c7 : 2 ≤ R 0 ∧ 2 ≤ R 1 ∧ 2 ≤ R 2
          · exact ⟨[2, 2, 2, 1], 0, 2, 2, 1, gd_5_2221, four (show 2 ≤ R 0 by omega) (show 2 ≤ R 1 by omega) (show 2 ≤ R 2 by omega) (show 1 ≤ R 3 by omega), four (by decide) (by decide) (by decide) (by decide), rfl⟩
          · by_cases c6 : 3 ≤ R 2 ∧ 3 ≤ R 3
            · exact ⟨[1, 1, 3, 3], 1, 1, 0, 3, gd_5_1133, four (show 1 ≤ R 0 by omega) (show 1 ≤ R 1 by omega) (show 3 ≤ R 2 by omega) (show 3 ≤ R 3 by omega), four (by decide) (by decide) (by decide) (by decide), rfl⟩
            · by_cases c5 : 3 ≤ R 1 ∧ 3 ≤ R 3
              · exact ⟨[1, 3, 1, 3], 1, 0, 1, 3, gd_5_1313, four (show 1 ≤ R 0 by omega) (show 3 ≤ R 1 by omega) (show 1 ≤ R 2 by omega) (show 3 ≤ R 3 by omega), four (by decide) (by decide) (by decide) (by decide), rfl⟩
              · by_cases c4 : 3 ≤ R 1 ∧ 3 ≤ R 2
                · exact ⟨[1, 3, 3, 1], 0, 2, 2, 1, gd_5_1331, four (show 1 ≤ R 0 by omega) (show 3 ≤ R 1 by omega) (show 3 ≤ R 2 by omega) (show 1 ≤ R 3 by omega), four (by decide) (by decide) (by decide) (by decide), rfl⟩
                · by_cases c3 : 3 ≤ R 0 ∧ 3 ≤ R 3
                  · exact ⟨[3, 1, 1, 3], 2, 1, 1, 1, gd_5_3113, four (show 3 ≤ R 0 by omega) (show 1 ≤ R 1 by omega) (show 1 ≤ R 2 by omega) (show 3 ≤ R 3 by omega), four (by decide) (by decide) (by decide) (by decide), rfl⟩
                  · by_cases c2 : 3 ≤ R 0 ∧ 3 ≤ R 2
                    · exact ⟨[3, 1, 3, 1], 2, 1, 1, 1, gd_5_3131, four (show 3 ≤ R 0 by omega) (show 1 ≤ R 1 by omega) (show 3 ≤ R 2 by omega) (show 1 ≤ R 3 by omega), four (by decide) (by decide) (by decide) (by decide), rfl⟩
                    · by_cases c1 : 3 ≤ R 0 ∧ 3 ≤ R 1
                      · exact ⟨[3, 3, 1, 1], 2, 1, 1, 1, gd_5_3311, four (show 3 ≤ R 0 by omega) (show 3 ≤ R 1 by omega) (show 1 ≤ R 2 by omega) (show 1 ≤ R 3 by omega), four (by decide) (by decide) (by decide) (by decide), rfl⟩
                      · omega
/-- rows of STACKS that reach one another do so in at most 50 MOVES -/
theorem dm : ∀ (N : Nat) (R : Nat → Nat) (X Y : Cf) (k : Nat), N ≤ 5 → tot X = N → (∀ s, s < 4 → 1 ≤ R s) → Fit R X → (∀ s, 4 ≤ s → X s = []) → Rc R k X Y → Rc R 50 X Y
  | 0, R, X, Y, k, hN, ht, hR, hf, hz, h => by
    have tY := rc_tot h
    have e : X = Y := by
      funext s
      unfold tot at ht tY
      have nl : ∀ V : Cf, (V s).length = 0 → V s = [] := fun V hV => List.length_eq_zero_iff.mp hV
      by_cases c : 4 ≤ s
      · rw [rc_far h c]
      · rcases (show s = 0 ∨ s = 1 ∨ s = 2 ∨ s = 3 by omega) with rfl | rfl | rfl | rfl <;> rw [nl X (by omega), nl Y (by omega)]
    subst e; exact Rc.refl _ _ _
  | N + 1, R, X, Y, k, hN, ht, hR, hf, hz, h => by
    by_cases hF : R 0 + R 1 + R 2 + R 3 ≤ N + 1
    · have e : X = Y := by
        cases k with
        | zero => exact h
        | succ k =>
          rcases h with h | ⟨Z, h1, _⟩
          · exact h
          · exact absurd h1 (no_move hf (by omega))
      subst e; exact Rc.refl _ _ _
    · by_cases hs : ∃ s, s < 4 ∧ oth s R < N + 1
      · obtain ⟨s, hs4, hs⟩ := hs
        obtain ⟨w, xs, hx⟩ := oth_ne hs4 hf (by omega)
        have e := csC_of hx
        rw [e] at h hf ht hz ⊢
        generalize (fun t => if t = s then xs else X t) = X' at h hf ht hz ⊢
        obtain ⟨Y', rfl, h'⟩ := Rc.un hs4 hf (by omega) h
        have ht' : tot X' = N := by rw [tot_cs hs4] at ht; omega
        have hRs : 2 ≤ R s := by
          unfold oth at hs
          rcases (show s = 0 ∨ s = 1 ∨ s = 2 ∨ s = 3 by omega) with rfl | rfl | rfl | rfl <;> simp at hs <;> omega
        refine Rc.cs (by omega) (dm N (Rd s R) X' Y' k (by omega) ht' (fun t h4 => ?_) (hf.un hs4) (fun t h4 => ?_) h')
        · unfold Rd
          by_cases c : t = s
          · rw [if_pos c]; omega
          · rw [if_neg c]; exact hR t h4
        · have := hz t h4
          rw [csC_ne _ _ (by omega)] at this
          exact this
      · obtain ⟨r, a, b, c, d, g, g1, g2, g3⟩ := base_ex (N := N + 1) (by omega) hN hR (fun s h4 => by
          rcases Nat.lt_or_ge (oth s R) (N + 1) with q | q
          · exact absurd ⟨s, h4, q⟩ hs
          · exact q)
        exact conn d g g1 g2 g3 hN hf (Rc.fit hf h) ht (rc_count h) hz (fun s h4 => (rc_far h h4).trans (hz s h4)) ((rc_tot h).trans ht)
