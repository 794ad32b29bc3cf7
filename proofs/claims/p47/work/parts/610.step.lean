/-! ===== each call keeps it ===== -/
theorem sc_0 {k g : Nat} {S : SS} {x : Nat → Int32} (h : Bs k g S) (hk : k < 512) : ∃ (d : Nat) (r1 r2 : Int32) (S1 S2 : SS), f_Yard_track (x (1)) (gho S d) = some (r1, S1) ∧ f_M_track (x (1)) S1 = some (r2, S2) ∧ Bs (k + 1) (g + d) S2 ∧ WR S1 ∧ F1 [77, 93] [(62, 2), (62, 3), (62, 4), (62, 5), (62, 6), (64, 6), (64, 7), (66, 7)] S S1 ∧ Fr [1, 3] [(0, 0), (0, 1), (0, 2), (0, 3), (0, 5), (0, 7), (0, 60), (0, 61)] S1 S2 := by
  have h0 := h.gh 0
  obtain ⟨r1, S1, e1, w1, f1, -⟩ := t_Yard_track (a1 := (x (1))) h0.1
  have h1 : Bs k g S1 := h0.sc w1 f1 rfl
  obtain ⟨r2, S2, e2, w2, f2, -⟩ := t_M_track (a1 := (x (1))) h1.1
  exact ⟨0, r1, r2, S1, S2, e1, e2, h1.st w2 f2 rfl (nn_fr f2.f1 rfl rfl) (by omega) (by omega), w1, (f1.f1), f2⟩
theorem sc_1 {k g : Nat} {S : SS} {x : Nat → Int32} (h : Bs k g S) (hk : k < 512) : ∃ (d : Nat) (r1 r2 : Int32) (S1 S2 : SS), f_Yard_point (x (1)) (x (2)) (gho S d) = some (r1, S1) ∧ f_M_point (x (1)) (x (2)) S1 = some (r2, S2) ∧ Bs (k + 1) (g + d) S2 ∧ WR S1 ∧ F1 [77, 79, 94, 95] [(62, 2), (62, 3), (62, 4), (62, 5), (62, 6), (64, 6), (64, 7), (66, 8)] S S1 ∧ Fr [1, 5, 9, 10, 11] [(0, 0), (0, 1), (0, 2), (0, 3), (0, 5), (0, 15), (0, 60), (0, 61)] S1 S2 := by
  have h0 := h.gh 0
  obtain ⟨r1, S1, e1, w1, f1, -⟩ := t_Yard_point (a1 := (x (1))) (a2 := (x (2))) h0.1
  have h1 : Bs k g S1 := h0.sc w1 f1 rfl
  obtain ⟨r2, S2, e2, w2, f2, -⟩ := t_M_point (a1 := (x (1))) (a2 := (x (2))) h1.1
  exact ⟨0, r1, r2, S1, S2, e1, e2, h1.st w2 f2 rfl (nn_fr f2.f1 rfl rfl) (by omega) (by omega), w1, (f1.f1), f2⟩
theorem sc_2 {k g : Nat} {S : SS} {x : Nat → Int32} (h : Bs k g S) (hk : k < 512) : ∃ (d : Nat) (r1 r2 : Int32) (S1 S2 : SS), f_Yard_link (x (1)) (x (2)) (x (3)) (x (4)) (gho S d) = some (r1, S1) ∧ f_M_link (x (1)) (x (2)) (x (3)) (x (4)) S1 = some (r2, S2) ∧ Bs (k + 1) (g + d) S2 ∧ WR S1 ∧ F1 [77, 96, 97] [(62, 2), (62, 3), (62, 4), (62, 5), (62, 6), (64, 6), (64, 7)] S S1 ∧ Fr [1, 6, 7, 8] [(0, 0), (0, 1), (0, 2), (0, 3), (0, 5), (0, 14), (0, 60), (0, 61)] S1 S2 := by
  have h0 := h.gh 0
  obtain ⟨r1, S1, e1, w1, f1, -⟩ := t_Yard_link (a1 := (x (1))) (a2 := (x (2))) (a3 := (x (3))) (a4 := (x (4))) h0.1
  have h1 : Bs k g S1 := h0.sc w1 f1 rfl
  obtain ⟨r2, S2, e2, w2, f2, -⟩ := t_M_link (a1 := (x (1))) (a2 := (x (2))) (a3 := (x (3))) (a4 := (x (4))) h1.1
  exact ⟨0, r1, r2, S1, S2, e1, e2, h1.st w2 f2 rfl (nn_fr f2.f1 rfl rfl) (by omega) (by omega), w1, (f1.f1), f2⟩
theorem sc_3 {k g : Nat} {S : SS} {x : Nat → Int32} (h : Bs k g S) (hk : k < 512) : ∃ (d : Nat) (r1 r2 : Int32) (S1 S2 : SS), f_Yard_exit (x (1)) (x (2)) ((if x (3) = 0 then (0 : Int32) else 1)) (gho S d) = some (r1, S1) ∧ f_M_exit (x (1)) (x (2)) ((if x (3) = 0 then (0 : Int32) else 1)) S1 = some (r2, S2) ∧ Bs (k + 1) (g + d) S2 ∧ WR S1 ∧ F1 [77, 98] [(62, 2), (62, 3), (62, 4), (62, 5), (62, 6), (64, 6), (64, 7)] S S1 ∧ Fr [1, 4] [(0, 0), (0, 1), (0, 2), (0, 3), (0, 5), (0, 60), (0, 61)] S1 S2 := by
  have h0 := h.gh 0
  obtain ⟨r1, S1, e1, w1, f1, -⟩ := t_Yard_exit (a1 := (x (1))) (a2 := (x (2))) (a3 := ((if x (3) = 0 then (0 : Int32) else 1))) h0.1
  have h1 : Bs k g S1 := h0.sc w1 f1 rfl
  obtain ⟨r2, S2, e2, w2, f2, -⟩ := t_M_exit (a1 := (x (1))) (a2 := (x (2))) (a3 := ((if x (3) = 0 then (0 : Int32) else 1))) h1.1
  exact ⟨0, r1, r2, S1, S2, e1, e2, h1.st w2 f2 rfl (nn_fr f2.f1 rfl rfl) (by omega) (by omega), w1, (f1.f1), f2⟩
theorem sc_4 {k g : Nat} {S : SS} {x : Nat → Int32} (h : Bs k g S) (hk : k < 512) : ∃ (d : Nat) (r1 r2 : Int32) (S1 S2 : SS), f_Yard_wagon (x (1)) (x (2)) (x (3)) (x (4)) (x (5)) (gho S d) = some (r1, S1) ∧ f_M_wagon (x (1)) (x (2)) (x (3)) (x (4)) (x (5)) S1 = some (r2, S2) ∧ Bs (k + 1) (g + d) S2 ∧ WR S1 ∧ F1 [77, 79, 91] [(62, 2), (62, 3), (62, 4), (62, 5), (62, 6), (63, 1), (64, 6), (64, 7), (68, 5)] S S1 ∧ Fr [1, 18, 19, 20, 21, 22, 23, 24, 25, 28, 29, 35] [(0, 0), (0, 1), (0, 2), (0, 3), (0, 5), (0, 29), (0, 49), (0, 60), (0, 61)] S1 S2 := by
  have h0 := h.gh 0
  obtain ⟨r1, S1, e1, w1, f1, -⟩ := t_Yard_wagon (a1 := (x (1))) (a2 := (x (2))) (a3 := (x (3))) (a4 := (x (4))) (a5 := (x (5))) h0.1
  have h1 : Bs k g S1 := h0.sc w1 f1 rfl
  obtain ⟨r2, S2, e2, w2, f2, -⟩ := t_M_wagon (a1 := (x (1))) (a2 := (x (2))) (a3 := (x (3))) (a4 := (x (4))) (a5 := (x (5))) h1.1
  exact ⟨0, r1, r2, S1, S2, e1, e2, h1.st w2 f2 rfl (nn_fr f2.f1 rfl rfl) (by omega) (by omega), w1, (f1.f1), f2⟩
theorem sc_5 {k g : Nat} {S : SS} {x : Nat → Int32} (h : Bs k g S) (hk : k < 512) : ∃ (d : Nat) (r1 r2 : Int32) (S1 S2 : SS), f_Yard_engine ((if x (1) = 0 then (0 : Int32) else 1)) (x (2)) (x (3)) (x (4)) (gho S d) = some (r1, S1) ∧ f_M_engine ((if x (1) = 0 then (0 : Int32) else 1)) (x (2)) (x (3)) (x (4)) S1 = some (r2, S2) ∧ Bs (k + 1) (g + d) S2 ∧ WR S1 ∧ F1 [77, 79, 91] [(62, 2), (62, 3), (62, 4), (62, 5), (62, 6), (63, 1), (64, 6), (64, 7), (68, 5)] S S1 ∧ Fr [1, 18, 19, 20, 21, 22, 23, 24, 25, 28, 29, 35] [(0, 0), (0, 1), (0, 2), (0, 3), (0, 5), (0, 29), (0, 49), (0, 60), (0, 61)] S1 S2 := by
  have h0 := h.gh 0
  obtain ⟨r1, S1, e1, w1, f1, -⟩ := t_Yard_engine (a1 := ((if x (1) = 0 then (0 : Int32) else 1))) (a2 := (x (2))) (a3 := (x (3))) (a4 := (x (4))) h0.1
  have h1 : Bs k g S1 := h0.sc w1 f1 rfl
  obtain ⟨r2, S2, e2, w2, f2, -⟩ := t_M_engine (a1 := ((if x (1) = 0 then (0 : Int32) else 1))) (a2 := (x (2))) (a3 := (x (3))) (a4 := (x (4))) h1.1
  exact ⟨0, r1, r2, S1, S2, e1, e2, h1.st w2 f2 rfl (nn_fr f2.f1 rfl rfl) (by omega) (by omega), w1, (f1.f1), f2⟩
theorem sc_6 {k g : Nat} {S : SS} {x : Nat → Int32} (h : Bs k g S) (hk : k < 512) : ∃ (d : Nat) (r1 r2 : Int32) (S1 S2 : SS), f_Yard_bar (x (1)) (x (2)) ((if x (3) = 0 then (0 : Int32) else 1)) (gho S d) = some (r1, S1) ∧ f_M_bar (x (1)) (x (2)) ((if x (3) = 0 then (0 : Int32) else 1)) S1 = some (r2, S2) ∧ Bs (k + 1) (g + d) S2 ∧ WR S1 ∧ F1 [105] [(64, 6), (64, 7)] S S1 ∧ Fr [16] [(0, 60), (0, 61)] S1 S2 := by
  have h0 := h.gh 0
  obtain ⟨r1, S1, e1, w1, f1, -⟩ := t_Yard_bar (a1 := (x (1))) (a2 := (x (2))) (a3 := ((if x (3) = 0 then (0 : Int32) else 1))) h0.1
  have h1 : Bs k g S1 := h0.sc w1 f1 rfl
  obtain ⟨r2, S2, e2, w2, f2, -⟩ := t_M_bar (a1 := (x (1))) (a2 := (x (2))) (a3 := ((if x (3) = 0 then (0 : Int32) else 1))) h1.1
  exact ⟨0, r1, r2, S1, S2, e1, e2, h1.st w2 f2 rfl (nn_fr f2.f1 rfl rfl) (by omega) (by omega), w1, (f1.f1), f2⟩
theorem sc_7 {k g : Nat} {S : SS} {x : Nat → Int32} (h : Bs k g S) (hk : k < 512) : ∃ (d : Nat) (r1 r2 : Int32) (S1 S2 : SS), f_Yard_table (x (1)) (x (2)) (gho S d) = some (r1, S1) ∧ f_M_table (x (1)) (x (2)) S1 = some (r2, S2) ∧ Bs (k + 1) (g + d) S2 ∧ WR S1 ∧ F1 [75] [(64, 6), (64, 7)] S S1 ∧ Fr [17] [(0, 60), (0, 61)] S1 S2 := by
  have h0 := h.gh 0
  obtain ⟨r1, S1, e1, w1, f1, -⟩ := t_Yard_table (a1 := (x (1))) (a2 := (x (2))) h0.1
  have h1 : Bs k g S1 := h0.sc w1 f1 rfl
  obtain ⟨r2, S2, e2, w2, f2, -⟩ := t_M_table (a1 := (x (1))) (a2 := (x (2))) h1.1
  exact ⟨0, r1, r2, S1, S2, e1, e2, h1.st w2 f2 rfl (nn_fr f2.f1 rfl rfl) (by omega) (by omega), w1, (f1.f1), f2⟩
theorem sc_8 {k g : Nat} {S : SS} {x : Nat → Int32} (h : Bs k g S) (hk : k < 512) : ∃ (d : Nat) (r1 r2 : Int32) (S1 S2 : SS), f_Yard_route  (gho S d) = some (r1, S1) ∧ f_M_route  S1 = some (r2, S2) ∧ Bs (k + 1) (g + d) S2 ∧ WR S1 ∧ F1 [] [(64, 6), (64, 7), (67, 8)] S S1 ∧ Fr [12] [(0, 19), (0, 60), (0, 61)] S1 S2 := by
  have h0 := h.gh 0
  obtain ⟨r1, S1, e1, w1, f1, -⟩ := t_Yard_route h0.1
  have h1 : Bs k g S1 := h0.sc w1 f1 rfl
  obtain ⟨r2, S2, e2, w2, f2, -⟩ := t_M_route h1.1
  exact ⟨0, r1, r2, S1, S2, e1, e2, h1.st w2 f2 rfl (nn_fr f2.f1 rfl rfl) (by omega) (by omega), w1, (f1.f1), f2⟩
theorem sc_9 {k g : Nat} {S : SS} {x : Nat → Int32} (h : Bs k g S) (hk : k < 512) : ∃ (d : Nat) (r1 r2 : Int32) (S1 S2 : SS), f_Yard_via (x (1)) (x (2)) (x (3)) (x (4)) (gho S d) = some (r1, S1) ∧ f_M_via (x (1)) (x (2)) (x (3)) (x (4)) S1 = some (r2, S2) ∧ Bs (k + 1) (g + d) S2 ∧ WR S1 ∧ F1 [77, 99, 100, 101, 102] [(62, 2), (62, 3), (62, 4), (62, 5), (62, 6), (64, 6), (64, 7)] S S1 ∧ Fr [1, 12, 13, 14, 15] [(0, 0), (0, 1), (0, 2), (0, 3), (0, 5), (0, 60), (0, 61)] S1 S2 := by
  have h0 := h.gh 0
  obtain ⟨r1, S1, e1, w1, f1, -⟩ := t_Yard_via (a1 := (x (1))) (a2 := (x (2))) (a3 := (x (3))) (a4 := (x (4))) h0.1
  have h1 : Bs k g S1 := h0.sc w1 f1 rfl
  obtain ⟨r2, S2, e2, w2, f2, -⟩ := t_M_via (a1 := (x (1))) (a2 := (x (2))) (a3 := (x (3))) (a4 := (x (4))) h1.1
  exact ⟨0, r1, r2, S1, S2, e1, e2, h1.st w2 f2 rfl (nn_fr f2.f1 rfl rfl) (by omega) (by omega), w1, (f1.f1), f2⟩
theorem sc_10 {k g : Nat} {S : SS} {x : Nat → Int32} (h : Bs k g S) (hk : k < 512) : ∃ (d : Nat) (r1 r2 : Int32) (S1 S2 : SS), f_Yard_load (x (1)) (x (2)) (x (3)) (gho S d) = some (r1, S1) ∧ f_M_load (x (1)) (x (2)) (x (3)) S1 = some (r2, S2) ∧ Bs (k + 1) (g + d) S2 ∧ WR S1 ∧ F1 [77, 91, 92] [(62, 2), (62, 3), (62, 4), (62, 5), (62, 6)] S S1 ∧ Fr [1, 35, 36, 37] [(0, 0), (0, 1), (0, 2), (0, 3), (0, 5)] S1 S2 := by
  have h0 := h.gh 0
  obtain ⟨r1, S1, e1, w1, f1, -⟩ := t_Yard_load (a1 := (x (1))) (a2 := (x (2))) (a3 := (x (3))) h0.1
  have h1 : Bs k g S1 := h0.sc w1 f1 rfl
  obtain ⟨r2, S2, e2, w2, f2, -⟩ := t_M_load (a1 := (x (1))) (a2 := (x (2))) (a3 := (x (3))) h1.1
  exact ⟨0, r1, r2, S1, S2, e1, e2, h1.st w2 f2 rfl (nn_fr f2.f1 rfl rfl) (by omega) (by omega), w1, (f1.f1), f2⟩
theorem sc_11 {k g : Nat} {S : SS} {x : Nat → Int32} (h : Bs k g S) (hk : k < 512) : ∃ (d : Nat) (r1 r2 : Int32) (S1 S2 : SS), f_Yard_piece (x (1)) (x (2)) (x (3)) (x (4)) (gho S d) = some (r1, S1) ∧ f_M_piece (x (1)) (x (2)) (x (3)) (x (4)) S1 = some (r2, S2) ∧ Bs (k + 1) (g + d) S2 ∧ WR S1 ∧ F1 [77, 91, 92] [(62, 2), (62, 3), (62, 4), (62, 5), (62, 6)] S S1 ∧ Fr [1, 37] [(0, 0), (0, 1), (0, 2), (0, 3), (0, 5)] S1 S2 := by
  have h0 := h.gh 0
  obtain ⟨r1, S1, e1, w1, f1, -⟩ := t_Yard_piece (a1 := (x (1))) (a2 := (x (2))) (a3 := (x (3))) (a4 := (x (4))) h0.1
  have h1 : Bs k g S1 := h0.sc w1 f1 rfl
  obtain ⟨r2, S2, e2, w2, f2, -⟩ := t_M_piece (a1 := (x (1))) (a2 := (x (2))) (a3 := (x (3))) (a4 := (x (4))) h1.1
  exact ⟨0, r1, r2, S1, S2, e1, e2, h1.st w2 f2 rfl (nn_fr f2.f1 rfl rfl) (by omega) (by omega), w1, (f1.f1), f2⟩
theorem sc_12 {k g : Nat} {S : SS} {x : Nat → Int32} (h : Bs k g S) (hk : k < 512) : ∃ (d : Nat) (r1 r2 : Int32) (S1 S2 : SS), f_Yard_danger (x (1)) (x (2)) (gho S d) = some (r1, S1) ∧ f_M_danger (x (1)) (x (2)) S1 = some (r2, S2) ∧ Bs (k + 1) (g + d) S2 ∧ WR S1 ∧ F1 [77, 79, 81, 82, 83, 84, 85, 86, 87, 88, 89, 90] [(62, 2), (62, 3), (62, 4), (62, 5), (62, 6), (64, 3), (64, 4), (64, 5), (64, 6), (64, 7)] S S1 ∧ Fr [1, 27, 40, 41, 42] [(0, 0), (0, 1), (0, 2), (0, 3), (0, 5), (0, 60), (0, 61), (0, 62)] S1 S2 := by
  have h0 := h.gh 0
  obtain ⟨r1, S1, e1, w1, f1, -⟩ := t_Yard_danger (a1 := (x (1))) (a2 := (x (2))) h0.1
  have h1 : Bs k g S1 := h0.sc w1 f1 rfl
  obtain ⟨r2, S2, e2, w2, f2, -⟩ := t_M_danger (a1 := (x (1))) (a2 := (x (2))) h1.1 (h1.x62 (by omega))
  exact ⟨0, r1, r2, S1, S2, e1, e2, h1.st w2 f2 rfl (k_M_danger e2) (by omega) (by omega), w1, (f1.f1), f2⟩
theorem sc_13 {k g : Nat} {S : SS} {x : Nat → Int32} (h : Bs k g S) (hk : k < 512) : ∃ (d : Nat) (r1 r2 : Int32) (S1 S2 : SS), f_Yard_hold (x (1)) (x (2)) (gho S d) = some (r1, S1) ∧ f_M_hold (x (1)) (x (2)) S1 = some (r2, S2) ∧ Bs (k + 1) (g + d) S2 ∧ WR S1 ∧ F1 [77, 79, 81, 82, 83, 84, 85, 86, 87, 88, 89, 90] [(62, 2), (62, 3), (62, 4), (62, 5), (62, 6), (64, 3), (64, 4), (64, 5), (64, 6), (64, 7)] S S1 ∧ Fr [1, 25, 40, 41, 42] [(0, 0), (0, 1), (0, 2), (0, 3), (0, 5), (0, 60), (0, 61), (0, 62)] S1 S2 := by
  have h0 := h.gh 0
  obtain ⟨r1, S1, e1, w1, f1, -⟩ := t_Yard_hold (a1 := (x (1))) (a2 := (x (2))) h0.1
  have h1 : Bs k g S1 := h0.sc w1 f1 rfl
  obtain ⟨r2, S2, e2, w2, f2, -⟩ := t_M_hold (a1 := (x (1))) (a2 := (x (2))) h1.1 (h1.x62 (by omega))
  exact ⟨0, r1, r2, S1, S2, e1, e2, h1.st w2 f2 rfl (k_M_hold e2) (by omega) (by omega), w1, (f1.f1), f2⟩
theorem sc_14 {k g : Nat} {S : SS} {x : Nat → Int32} (h : Bs k g S) (hk : k < 512) : ∃ (d : Nat) (r1 r2 : Int32) (S1 S2 : SS), f_Yard_jam (x (1)) (x (2)) (gho S d) = some (r1, S1) ∧ f_M_jam (x (1)) (x (2)) S1 = some (r2, S2) ∧ Bs (k + 1) (g + d) S2 ∧ WR S1 ∧ F1 [77, 79, 81, 82, 83, 84, 85, 86, 87, 88, 89, 90] [(62, 2), (62, 3), (62, 4), (62, 5), (62, 6), (64, 3), (64, 4), (64, 5), (64, 6), (64, 7)] S S1 ∧ Fr [1, 26, 40, 41, 42] [(0, 0), (0, 1), (0, 2), (0, 3), (0, 5), (0, 60), (0, 61), (0, 62)] S1 S2 := by
  have h0 := h.gh 0
  obtain ⟨r1, S1, e1, w1, f1, -⟩ := t_Yard_jam (a1 := (x (1))) (a2 := (x (2))) h0.1
  have h1 : Bs k g S1 := h0.sc w1 f1 rfl
  obtain ⟨r2, S2, e2, w2, f2, -⟩ := t_M_jam (a1 := (x (1))) (a2 := (x (2))) h1.1 (h1.x62 (by omega))
  exact ⟨0, r1, r2, S1, S2, e1, e2, h1.st w2 f2 rfl (k_M_jam e2) (by omega) (by omega), w1, (f1.f1), f2⟩
theorem sc_15 {k g : Nat} {S : SS} {x : Nat → Int32} (h : Bs k g S) (hk : k < 512) : ∃ (d : Nat) (r1 r2 : Int32) (S1 S2 : SS), f_Yard_raise (x (1)) (gho S d) = some (r1, S1) ∧ f_M_raise (x (1)) S1 = some (r2, S2) ∧ Bs (k + 1) (g + d) S2 ∧ WR S1 ∧ F1 [77] [(62, 2), (62, 3), (62, 4), (62, 5), (62, 6)] S S1 ∧ Fr [1] [(0, 0), (0, 1), (0, 2), (0, 3), (0, 5)] S1 S2 := by
  have h0 := h.gh 0
  obtain ⟨r1, S1, e1, w1, f1, -⟩ := t_Yard_raise (a1 := (x (1))) h0.1
  have h1 : Bs k g S1 := h0.sc w1 f1 rfl
  obtain ⟨r2, S2, e2, w2, f2, -⟩ := t_M_raise (a1 := (x (1))) h1.1
  exact ⟨0, r1, r2, S1, S2, e1, e2, h1.st w2 f2 rfl (nn_fr f2.f1 rfl rfl) (by omega) (by omega), w1, (f1.f1), f2⟩
theorem sc_16 {k g : Nat} {S : SS} {x : Nat → Int32} (h : Bs k g S) (hk : k < 512) : ∃ (d : Nat) (r1 r2 : Int32) (S1 S2 : SS), f_Yard_turn (x (1)) (x (2)) (gho S d) = some (r1, S1) ∧ f_M_turn (x (1)) (x (2)) S1 = some (r2, S2) ∧ Bs (k + 1) (g + d) S2 ∧ WR S1 ∧ F1 [77, 79, 81, 82, 83, 84, 85, 86, 87, 88, 89, 90] [(62, 2), (62, 3), (62, 4), (62, 5), (62, 6), (64, 3), (64, 4), (64, 5), (64, 6), (64, 7)] S S1 ∧ Fr [1, 10, 40, 41, 42] [(0, 0), (0, 1), (0, 2), (0, 3), (0, 5), (0, 60), (0, 61), (0, 62)] S1 S2 := by
  have h0 := h.gh 0
  obtain ⟨r1, S1, e1, w1, f1, -⟩ := t_Yard_turn (a1 := (x (1))) (a2 := (x (2))) h0.1
  have h1 : Bs k g S1 := h0.sc w1 f1 rfl
  obtain ⟨r2, S2, e2, w2, f2, -⟩ := t_M_turn (a1 := (x (1))) (a2 := (x (2))) h1.1 (h1.x62 (by omega))
  exact ⟨0, r1, r2, S1, S2, e1, e2, h1.st w2 f2 rfl (k_M_turn e2) (by omega) (by omega), w1, (f1.f1), f2⟩
theorem sc_17 {k g : Nat} {S : SS} {x : Nat → Int32} (h : Bs k g S) (hk : k < 512) : ∃ (d : Nat) (r1 r2 : Int32) (S1 S2 : SS), f_Yard_lock (x (1)) (gho S d) = some (r1, S1) ∧ f_M_lock (x (1)) S1 = some (r2, S2) ∧ Bs (k + 1) (g + d) S2 ∧ WR S1 ∧ F1 [77, 79, 81, 82, 83, 84, 85, 86, 87, 88, 89, 90, 103] [(62, 2), (62, 3), (62, 4), (62, 5), (62, 6), (64, 3), (64, 4), (64, 5), (64, 6), (64, 7)] S S1 ∧ Fr [1, 10, 11, 40, 41, 42, 43] [(0, 0), (0, 1), (0, 2), (0, 3), (0, 5), (0, 60), (0, 61), (0, 62)] S1 S2 := by
  have h0 := h.gh 0
  obtain ⟨r1, S1, e1, w1, f1, -⟩ := t_Yard_lock (a1 := (x (1))) h0.1
  have h1 : Bs k g S1 := h0.sc w1 f1 rfl
  obtain ⟨r2, S2, e2, w2, f2, -⟩ := t_M_lock (a1 := (x (1))) h1.1 (h1.x62 (by omega))
  exact ⟨0, r1, r2, S1, S2, e1, e2, h1.st w2 f2 rfl (k_M_lock e2) (by omega) (by omega), w1, (f1.f1), f2⟩
theorem sc_18 {k g : Nat} {S : SS} {x : Nat → Int32} (h : Bs k g S) (hk : k < 512) : ∃ (d : Nat) (r1 r2 : Int32) (S1 S2 : SS), f_Yard_free (x (1)) (gho S d) = some (r1, S1) ∧ f_M_free (x (1)) S1 = some (r2, S2) ∧ Bs (k + 1) (g + d) S2 ∧ WR S1 ∧ F1 [77, 79, 81, 82, 83, 84, 85, 86, 87, 88, 89, 90] [(62, 2), (62, 3), (62, 4), (62, 5), (62, 6), (64, 3), (64, 4), (64, 5), (64, 6), (64, 7)] S S1 ∧ Fr [1, 11, 40, 41, 42] [(0, 0), (0, 1), (0, 2), (0, 3), (0, 5), (0, 60), (0, 61), (0, 62)] S1 S2 := by
  have h0 := h.gh 0
  obtain ⟨r1, S1, e1, w1, f1, -⟩ := t_Yard_free (a1 := (x (1))) h0.1
  have h1 : Bs k g S1 := h0.sc w1 f1 rfl
  obtain ⟨r2, S2, e2, w2, f2, -⟩ := t_M_free (a1 := (x (1))) h1.1 (h1.x62 (by omega))
  exact ⟨0, r1, r2, S1, S2, e1, e2, h1.st w2 f2 rfl (k_M_free e2) (by omega) (by omega), w1, (f1.f1), f2⟩
theorem sc_19 {k g : Nat} {S : SS} {x : Nat → Int32} (h : Bs k g S) (hk : k < 512) : ∃ (d : Nat) (r1 r2 : Int32) (S1 S2 : SS), f_Yard_couple (x (1)) (x (2)) (gho S d) = some (r1, S1) ∧ f_M_couple (x (1)) (x (2)) S1 = some (r2, S2) ∧ Bs (k + 1) (g + d) S2 ∧ WR S1 ∧ F1 [77, 78, 79, 81, 82, 83, 84, 85, 86, 87, 88, 89, 90, 104] [(62, 2), (62, 3), (62, 4), (62, 5), (62, 6), (64, 3), (64, 4), (64, 5), (64, 6), (64, 7), (68, 4), (68, 5)] S S1 ∧ Fr [1, 2, 23, 24, 34, 39, 40, 41, 42] [(0, 0), (0, 1), (0, 2), (0, 3), (0, 5), (0, 26), (0, 27), (0, 28), (0, 49), (0, 56), (0, 57), (0, 58), (0, 60), (0, 61), (0, 62), (0, 66), (0, 67)] S1 S2 := by
  have h0 := h.gh 0
  obtain ⟨r1, S1, e1, w1, f1, -⟩ := t_Yard_couple (a1 := (x (1))) (a2 := (x (2))) h0.1
  have h1 : Bs k g S1 := h0.sc w1 f1 rfl
  obtain ⟨r2, S2, e2, w2, f2, -⟩ := t_M_couple (a1 := (x (1))) (a2 := (x (2))) h1.1 (h1.x62 (by omega))
  exact ⟨0, r1, r2, S1, S2, e1, e2, h1.st w2 f2 rfl (k_M_couple e2) (by omega) (by omega), w1, (f1.f1), f2⟩
theorem sc_20 {k g : Nat} {S : SS} {x : Nat → Int32} (h : Bs k g S) (hk : k < 512) : ∃ (d : Nat) (r1 r2 : Int32) (S1 S2 : SS), f_Yard_part (x (1)) (x (2)) (gho S d) = some (r1, S1) ∧ f_M_part (x (1)) (x (2)) S1 = some (r2, S2) ∧ Bs (k + 1) (g + d) S2 ∧ WR S1 ∧ F1 [77, 79, 81, 82, 83, 84, 85, 86, 87, 88, 89, 90, 104] [(62, 2), (62, 3), (62, 4), (62, 5), (62, 6), (64, 3), (64, 4), (64, 5), (64, 6), (64, 7), (68, 4), (68, 5)] S S1 ∧ Fr [1, 23, 24, 34, 39, 40, 41, 42] [(0, 0), (0, 1), (0, 2), (0, 3), (0, 5), (0, 49), (0, 56), (0, 57), (0, 58), (0, 60), (0, 61), (0, 62)] S1 S2 := by
  have h0 := h.gh 0
  obtain ⟨r1, S1, e1, w1, f1, -⟩ := t_Yard_part (a1 := (x (1))) (a2 := (x (2))) h0.1
  have h1 : Bs k g S1 := h0.sc w1 f1 rfl
  obtain ⟨r2, S2, e2, w2, f2, -⟩ := t_M_part (a1 := (x (1))) (a2 := (x (2))) h1.1 (h1.x62 (by omega))
  exact ⟨0, r1, r2, S1, S2, e1, e2, h1.st w2 f2 rfl (k_M_part e2) (by omega) (by omega), w1, (f1.f1), f2⟩
theorem sc_21 {k g : Nat} {S : SS} {x : Nat → Int32} (h : Bs k g S) (hk : k < 512) : ∃ (d : Nat) (r1 r2 : Int32) (S1 S2 : SS), f_Yard_pull (x (1)) (x (2)) (x (3)) (gho S d) = some (r1, S1) ∧ f_M_pull (x (1)) (x (2)) (x (3)) S1 = some (r2, S2) ∧ Bs (k + 1) (g + d) S2 ∧ WR S1 ∧ F1 [77, 78, 79, 81, 82, 83, 84, 85, 86, 87, 88, 89, 90, 104] [(62, 2), (62, 3), (62, 4), (62, 5), (62, 6), (64, 3), (64, 4), (64, 5), (64, 6), (64, 7), (68, 4)] S S1 ∧ Fr [1, 2, 20, 21, 22, 26, 39, 40, 41, 42, 44, 45] [(0, 0), (0, 1), (0, 2), (0, 3), (0, 5), (0, 26), (0, 27), (0, 28), (0, 56), (0, 57), (0, 58), (0, 60), (0, 61), (0, 62), (0, 70)] S1 S2 := by
  have h0 := h.gh 0
  obtain ⟨r1, S1, e1, w1, f1, -⟩ := t_Yard_pull (a1 := (x (1))) (a2 := (x (2))) (a3 := (x (3))) h0.1
  have h1 : Bs k g S1 := h0.sc w1 f1 rfl
  obtain ⟨r2, S2, e2, w2, f2, -⟩ := t_M_pull (a1 := (x (1))) (a2 := (x (2))) (a3 := (x (3))) h1.1 (h1.x62 (by omega))
  exact ⟨0, r1, r2, S1, S2, e1, e2, h1.st w2 f2 rfl (k_M_pull e2) (by omega) (by omega), w1, (f1.f1), f2⟩
theorem sc_22 {k g : Nat} {S : SS} {x : Nat → Int32} (h : Bs k g S) (hk : k < 512) : ∃ (d : Nat) (r1 r2 : Int32) (S1 S2 : SS), f_Yard_kick (x (1)) (x (2)) (gho S d) = some (r1, S1) ∧ f_M_kick (x (1)) (x (2)) S1 = some (r2, S2) ∧ Bs (k + 1) (g + d) S2 ∧ WR S1 ∧ F1 [77, 78, 79, 81, 82, 83, 84, 85, 86, 87, 88, 89, 90] [(62, 2), (62, 3), (62, 4), (62, 5), (62, 6), (64, 3), (64, 4), (64, 5), (64, 6), (64, 7)] S S1 ∧ Fr [1, 2, 30, 31, 32, 33, 40, 41, 42] [(0, 0), (0, 1), (0, 2), (0, 3), (0, 5), (0, 47), (0, 60), (0, 61), (0, 62)] S1 S2 := by
  have h0 := h.gh 0
  obtain ⟨r1, S1, e1, w1, f1, -⟩ := t_Yard_kick (a1 := (x (1))) (a2 := (x (2))) h0.1
  have h1 : Bs k g S1 := h0.sc w1 f1 rfl
  obtain ⟨r2, S2, e2, w2, f2, -⟩ := t_M_kick (a1 := (x (1))) (a2 := (x (2))) h1.1 (h1.x62 (by omega)) (h1.x47 (by omega))
  exact ⟨0, r1, r2, S1, S2, e1, e2, h1.st w2 f2 rfl (k_M_kick e2) (by omega) (by omega), w1, (f1.f1), f2⟩
theorem sc_23 {k g : Nat} {S : SS} {x : Nat → Int32} (h : Bs k g S) (hk : k < 512) : ∃ (d : Nat) (r1 r2 : Int32) (S1 S2 : SS), f_Yard_step (x (1)) (gho S d) = some (r1, S1) ∧ f_M_step (x (1)) S1 = some (r2, S2) ∧ Bs (k + 1) (g + d) S2 ∧ WR S1 ∧ F1 [79, 81, 82, 83, 84, 85, 86, 87, 88, 89, 90] [(64, 3), (64, 4), (64, 5), (64, 6), (64, 7)] S S1 ∧ Fr [20, 21, 22, 30, 31, 40, 41, 42] [(0, 26), (0, 27), (0, 28), (0, 48), (0, 60), (0, 61), (0, 62)] S1 S2 := by
  have h0 := h.gh 0
  obtain ⟨r1, S1, e1, w1, f1, -⟩ := t_Yard_step (a1 := (x (1))) h0.1
  have h1 : Bs k g S1 := h0.sc w1 f1 rfl
  obtain ⟨r2, S2, e2, w2, f2, -⟩ := t_M_step (a1 := (x (1))) h1.1 (h1.x62 (by omega))
  exact ⟨0, r1, r2, S1, S2, e1, e2, h1.st w2 f2 rfl (k_M_step e2) (by omega) (by omega), w1, (f1.f1), f2⟩
theorem sc_24 {k g : Nat} {S : SS} {x : Nat → Int32} (h : Bs k g S) (hk : k < 512) : ∃ (d : Nat) (r1 r2 : Int32) (S1 S2 : SS), f_Yard_test (x (1)) (gho S d) = some (r1, S1) ∧ f_M_test (x (1)) S1 = some (r2, S2) ∧ Bs (k + 1) (g + d) S2 ∧ WR S1 ∧ F1 [77, 78, 79, 81, 82, 83, 84, 85, 86, 87, 88, 89, 90, 104] [(62, 2), (62, 3), (62, 4), (62, 5), (62, 6), (64, 3), (64, 4), (64, 5), (64, 6), (64, 7), (68, 4)] S S1 ∧ Fr [1, 2, 34, 39, 40, 41, 42] [(0, 0), (0, 1), (0, 2), (0, 3), (0, 5), (0, 54), (0, 56), (0, 57), (0, 58), (0, 60), (0, 61), (0, 62)] S1 S2 := by
  have h0 := h.gh 0
  obtain ⟨r1, S1, e1, w1, f1, -⟩ := t_Yard_test (a1 := (x (1))) h0.1
  have h1 : Bs k g S1 := h0.sc w1 f1 rfl
  obtain ⟨r2, S2, e2, w2, f2, -⟩ := t_M_test (a1 := (x (1))) h1.1 (h1.x62 (by omega))
  exact ⟨0, r1, r2, S1, S2, e1, e2, h1.st w2 f2 rfl (k_M_test e2) (by omega) (by omega), w1, (f1.f1), f2⟩
theorem sc_25 {k g : Nat} {S : SS} {x : Nat → Int32} (h : Bs k g S) (hk : k < 512) : ∃ (d : Nat) (r1 r2 : Int32) (S1 S2 : SS), f_Yard_leave (x (1)) (gho S d) = some (r1, S1) ∧ f_M_leave (x (1)) S1 = some (r2, S2) ∧ Bs (k + 1) (g + d) S2 ∧ WR S1 ∧ F1 [77, 79, 81, 82, 83, 84, 85, 86, 87, 88, 89, 90, 104] [(62, 2), (62, 3), (62, 4), (62, 5), (62, 6), (64, 3), (64, 4), (64, 5), (64, 6), (64, 7), (68, 4)] S S1 ∧ Fr [1, 19, 39, 40, 41, 42] [(0, 0), (0, 1), (0, 2), (0, 3), (0, 5), (0, 56), (0, 57), (0, 58), (0, 60), (0, 61), (0, 62)] S1 S2 := by
  have h0 := h.gh 0
  obtain ⟨r1, S1, e1, w1, f1, -⟩ := t_Yard_leave (a1 := (x (1))) h0.1
  have h1 : Bs k g S1 := h0.sc w1 f1 rfl
  obtain ⟨r2, S2, e2, w2, f2, -⟩ := t_M_leave (a1 := (x (1))) h1.1 (h1.x62 (by omega))
  exact ⟨0, r1, r2, S1, S2, e1, e2, h1.st w2 f2 rfl (k_M_leave e2) (by omega) (by omega), w1, (f1.f1), f2⟩
theorem sc_26 {k g : Nat} {S : SS} {x : Nat → Int32} (h : Bs k g S) (hk : k < 512) : ∃ (d : Nat) (r1 r2 : Int32) (S1 S2 : SS), f_Yard_roll (x (1)) (x (2)) (x (3)) (gho S d) = some (r1, S1) ∧ f_M_roll (x (1)) (x (2)) (x (3)) S1 = some (r2, S2) ∧ Bs (k + 1) (g + d) S2 ∧ WR S1 ∧ F1 [76, 77] [(62, 2), (62, 3), (62, 4), (62, 5), (62, 6)] S S1 ∧ Fr [1, 38] [(0, 0), (0, 1), (0, 2), (0, 3), (0, 5)] S1 S2 := by
  have h0 := h.gh 0
  obtain ⟨r1, S1, e1, w1, f1, -⟩ := t_Yard_roll (a1 := (x (1))) (a2 := (x (2))) (a3 := (x (3))) h0.1
  have h1 : Bs k g S1 := h0.sc w1 f1 rfl
  obtain ⟨r2, S2, e2, w2, f2, -⟩ := t_M_roll (a1 := (x (1))) (a2 := (x (2))) (a3 := (x (3))) h1.1
  exact ⟨0, r1, r2, S1, S2, e1, e2, h1.st w2 f2 rfl (nn_fr f2.f1 rfl rfl) (by omega) (by omega), w1, (f1.f1), f2⟩
theorem sc_27 {k g : Nat} {S : SS} {x : Nat → Int32} (h : Bs k g S) (hk : k < 512) : ∃ (d : Nat) (r1 r2 : Int32) (S1 S2 : SS), f_Yard_store (x (1)) (x (2)) (gho S d) = some (r1, S1) ∧ f_M_store (x (1)) (x (2)) S1 = some (r2, S2) ∧ Bs (k + 1) (g + d) S2 ∧ WR S1 ∧ F1 [76, 77] [(62, 2), (62, 3), (62, 4), (62, 5), (62, 6)] S S1 ∧ Fr [1, 38] [(0, 0), (0, 1), (0, 2), (0, 3), (0, 5)] S1 S2 := by
  have h0 := h.gh 0
  obtain ⟨r1, S1, e1, w1, f1, -⟩ := t_Yard_store (a1 := (x (1))) (a2 := (x (2))) h0.1
  have h1 : Bs k g S1 := h0.sc w1 f1 rfl
  obtain ⟨r2, S2, e2, w2, f2, -⟩ := t_M_store (a1 := (x (1))) (a2 := (x (2))) h1.1
  exact ⟨0, r1, r2, S1, S2, e1, e2, h1.st w2 f2 rfl (nn_fr f2.f1 rfl rfl) (by omega) (by omega), w1, (f1.f1), f2⟩
theorem sc_28 {k g : Nat} {S : SS} {x : Nat → Int32} (h : Bs k g S) (hk : k < 512) : ∃ (d : Nat) (r1 r2 : Int32) (S1 S2 : SS), f_Yard_rolled (x (1)) (gho S d) = some (r1, S1) ∧ f_M_rolled (x (1)) S1 = some (r2, S2) ∧ Bs (k + 1) (g + d) S2 ∧ WR S1 ∧ F1 [77] [(62, 2), (62, 3), (62, 4), (62, 5), (62, 6)] S S1 ∧ Fr [1] [(0, 0), (0, 1), (0, 2), (0, 3), (0, 5)] S1 S2 := by
  have h0 := h.gh 0
  obtain ⟨r1, S1, e1, w1, f1, -⟩ := t_Yard_rolled (a1 := (x (1))) h0.1
  have h1 : Bs k g S1 := h0.sc w1 f1 rfl
  obtain ⟨r2, S2, e2, w2, f2, -⟩ := t_M_rolled (a1 := (x (1))) h1.1
  exact ⟨0, r1, r2, S1, S2, e1, e2, h1.st w2 f2 rfl (nn_fr f2.f1 rfl rfl) (by omega) (by omega), w1, (f1.f1), f2⟩
theorem sc_29 {k g : Nat} {S : SS} {x : Nat → Int32} (h : Bs k g S) (hk : k < 512) : ∃ (d : Nat) (r1 r2 : Int32) (S1 S2 : SS), f_Yard_at (x (1)) (x (2)) (gho S d) = some (r1, S1) ∧ f_M_at (x (1)) (x (2)) S1 = some (r2, S2) ∧ Bs (k + 1) (g + d) S2 ∧ WR S1 ∧ F1 [77] [(62, 2), (62, 3), (62, 4), (62, 5), (62, 6)] S S1 ∧ Fr [1] [(0, 0), (0, 1), (0, 2), (0, 3), (0, 5)] S1 S2 := by
  have h0 := h.gh 0
  obtain ⟨r1, S1, e1, w1, f1, -⟩ := t_Yard_at (a1 := (x (1))) (a2 := (x (2))) h0.1
  have h1 : Bs k g S1 := h0.sc w1 f1 rfl
  obtain ⟨r2, S2, e2, w2, f2, -⟩ := t_M_at (a1 := (x (1))) (a2 := (x (2))) h1.1
  exact ⟨0, r1, r2, S1, S2, e1, e2, h1.st w2 f2 rfl (nn_fr f2.f1 rfl rfl) (by omega) (by omega), w1, (f1.f1), f2⟩
theorem sc_30 {k g : Nat} {S : SS} {x : Nat → Int32} (h : Bs k g S) (hk : k < 512) : ∃ (d : Nat) (r1 r2 : Int32) (S1 S2 : SS), f_Yard_thing (x (1)) (x (2)) (gho S d) = some (r1, S1) ∧ f_M_thing (x (1)) (x (2)) S1 = some (r2, S2) ∧ Bs (k + 1) (g + d) S2 ∧ WR S1 ∧ F1 [77] [(62, 2), (62, 3), (62, 4), (62, 5), (62, 6)] S S1 ∧ Fr [1] [(0, 0), (0, 1), (0, 2), (0, 3), (0, 5)] S1 S2 := by
  have h0 := h.gh 0
  obtain ⟨r1, S1, e1, w1, f1, -⟩ := t_Yard_thing (a1 := (x (1))) (a2 := (x (2))) h0.1
  have h1 : Bs k g S1 := h0.sc w1 f1 rfl
  obtain ⟨r2, S2, e2, w2, f2, -⟩ := t_M_thing (a1 := (x (1))) (a2 := (x (2))) h1.1
  exact ⟨0, r1, r2, S1, S2, e1, e2, h1.st w2 f2 rfl (nn_fr f2.f1 rfl rfl) (by omega) (by omega), w1, (f1.f1), f2⟩
theorem sc_31 {k g : Nat} {S : SS} {x : Nat → Int32} (h : Bs k g S) (hk : k < 512) : ∃ (d : Nat) (r1 r2 : Int32) (S1 S2 : SS), f_Yard_pointed (x (1)) (x (2)) (gho S d) = some (r1, S1) ∧ f_M_pointed (x (1)) (x (2)) S1 = some (r2, S2) ∧ Bs (k + 1) (g + d) S2 ∧ WR S1 ∧ F1 [77] [(62, 2), (62, 3), (62, 4), (62, 5), (62, 6)] S S1 ∧ Fr [1] [(0, 0), (0, 1), (0, 2), (0, 3), (0, 5)] S1 S2 := by
  have h0 := h.gh 0
  obtain ⟨r1, S1, e1, w1, f1, -⟩ := t_Yard_pointed (a1 := (x (1))) (a2 := (x (2))) h0.1
  have h1 : Bs k g S1 := h0.sc w1 f1 rfl
  obtain ⟨r2, S2, e2, w2, f2, -⟩ := t_M_pointed (a1 := (x (1))) (a2 := (x (2))) h1.1
  exact ⟨0, r1, r2, S1, S2, e1, e2, h1.st w2 f2 rfl (nn_fr f2.f1 rfl rfl) (by omega) (by omega), w1, (f1.f1), f2⟩
theorem sc_32 {k g : Nat} {S : SS} {x : Nat → Int32} (h : Bs k g S) (hk : k < 512) : ∃ (d : Nat) (r1 r2 : Int32) (S1 S2 : SS), f_Yard_ask (x (1)) (x (2)) (gho S d) = some (r1, S1) ∧ f_M_ask (x (1)) (x (2)) S1 = some (r2, S2) ∧ Bs (k + 1) (g + d) S2 ∧ WR S1 ∧ F1 [77, 78] [(62, 2), (62, 3), (62, 4), (62, 5), (62, 6)] S S1 ∧ Fr [1, 2] [(0, 0), (0, 1), (0, 2), (0, 3), (0, 5), (0, 54)] S1 S2 := by
  have h0 := h.gh 0
  obtain ⟨r1, S1, e1, w1, f1, -⟩ := t_Yard_ask (a1 := (x (1))) (a2 := (x (2))) h0.1
  have h1 : Bs k g S1 := h0.sc w1 f1 rfl
  obtain ⟨r2, S2, e2, w2, f2, -⟩ := t_M_ask (a1 := (x (1))) (a2 := (x (2))) h1.1
  exact ⟨0, r1, r2, S1, S2, e1, e2, h1.st w2 f2 rfl (nn_fr f2.f1 rfl rfl) (by omega) (by omega), w1, (f1.f1), f2⟩
theorem sc_33 {k g : Nat} {S : SS} {x : Nat → Int32} (h : Bs k g S) (hk : k < 512) : ∃ (d : Nat) (r1 r2 : Int32) (S1 S2 : SS), f_Yard_meet (x (1)) (x (2)) (x (3)) (gho S d) = some (r1, S1) ∧ f_M_meet (x (1)) (x (2)) (x (3)) S1 = some (r2, S2) ∧ Bs (k + 1) (g + d) S2 ∧ WR S1 ∧ F1 [77] [(62, 2), (62, 3), (62, 4), (62, 5), (62, 6)] S S1 ∧ Fr [1] [(0, 0), (0, 1), (0, 2), (0, 3), (0, 5)] S1 S2 := by
  have h0 := h.gh 0
  obtain ⟨r1, S1, e1, w1, f1, -⟩ := t_Yard_meet (a1 := (x (1))) (a2 := (x (2))) (a3 := (x (3))) h0.1
  have h1 : Bs k g S1 := h0.sc w1 f1 rfl
  obtain ⟨r2, S2, e2, w2, f2, -⟩ := t_M_meet (a1 := (x (1))) (a2 := (x (2))) (a3 := (x (3))) h1.1
  exact ⟨0, r1, r2, S1, S2, e1, e2, h1.st w2 f2 rfl (nn_fr f2.f1 rfl rfl) (by omega) (by omega), w1, (f1.f1), f2⟩
theorem sc_34 {k g : Nat} {S : SS} {x : Nat → Int32} (h : Bs k g S) (hk : k < 512) : ∃ (d : Nat) (r1 r2 : Int32) (S1 S2 : SS), f_Yard_weigh (x (1)) (gho S d) = some (r1, S1) ∧ f_M_weigh (x (1)) S1 = some (r2, S2) ∧ Bs (k + 1) (g + d) S2 ∧ WR S1 ∧ F1 [77, 78, 104] [(62, 2), (62, 3), (62, 4), (62, 5), (62, 6), (68, 4)] S S1 ∧ Fr [1, 2, 39] [(0, 0), (0, 1), (0, 2), (0, 3), (0, 5), (0, 56), (0, 57), (0, 58)] S1 S2 := by
  have h0 := h.gh 0
  obtain ⟨r1, S1, e1, w1, f1, -⟩ := t_Yard_weigh (a1 := (x (1))) h0.1
  have h1 : Bs k g S1 := h0.sc w1 f1 rfl
  obtain ⟨r2, S2, e2, w2, f2, -⟩ := t_M_weigh (a1 := (x (1))) h1.1
  exact ⟨0, r1, r2, S1, S2, e1, e2, h1.st w2 f2 rfl (nn_fr f2.f1 rfl rfl) (by omega) (by omega), w1, (f1.f1), f2⟩
theorem sc_35 {k g : Nat} {S : SS} {x : Nat → Int32} (h : Bs k g S) (hk : k < 512) : ∃ (d : Nat) (r1 r2 : Int32) (S1 S2 : SS), f_Yard_share (x (1)) (gho S d) = some (r1, S1) ∧ f_M_share (x (1)) S1 = some (r2, S2) ∧ Bs (k + 1) (g + d) S2 ∧ WR S1 ∧ F1 [77, 78, 104] [(62, 2), (62, 3), (62, 4), (62, 5), (62, 6), (68, 4)] S S1 ∧ Fr [1, 2, 39] [(0, 0), (0, 1), (0, 2), (0, 3), (0, 5), (0, 56), (0, 57), (0, 58)] S1 S2 := by
  have h0 := h.gh 0
  obtain ⟨r1, S1, e1, w1, f1, -⟩ := t_Yard_share (a1 := (x (1))) h0.1
  have h1 : Bs k g S1 := h0.sc w1 f1 rfl
  obtain ⟨r2, S2, e2, w2, f2, -⟩ := t_M_share (a1 := (x (1))) h1.1
  exact ⟨0, r1, r2, S1, S2, e1, e2, h1.st w2 f2 rfl (nn_fr f2.f1 rfl rfl) (by omega) (by omega), w1, (f1.f1), f2⟩
theorem sc_36 {k g : Nat} {S : SS} {x : Nat → Int32} (h : Bs k g S) (hk : k < 512) : ∃ (d : Nat) (r1 r2 : Int32) (S1 S2 : SS), f_Yard_consist (x (1)) (x (2)) (gho S d) = some (r1, S1) ∧ f_M_consist (x (1)) (x (2)) S1 = some (r2, S2) ∧ Bs (k + 1) (g + d) S2 ∧ WR S1 ∧ F1 [77, 104] [(62, 2), (62, 3), (62, 4), (62, 5), (62, 6), (68, 4)] S S1 ∧ Fr [1, 39] [(0, 0), (0, 1), (0, 2), (0, 3), (0, 5), (0, 56), (0, 57), (0, 58)] S1 S2 := by
  have h0 := h.gh 0
  obtain ⟨r1, S1, e1, w1, f1, -⟩ := t_Yard_consist (a1 := (x (1))) (a2 := (x (2))) h0.1
  have h1 : Bs k g S1 := h0.sc w1 f1 rfl
  obtain ⟨r2, S2, e2, w2, f2, -⟩ := t_M_consist (a1 := (x (1))) (a2 := (x (2))) h1.1
  exact ⟨0, r1, r2, S1, S2, e1, e2, h1.st w2 f2 rfl (nn_fr f2.f1 rfl rfl) (by omega) (by omega), w1, (f1.f1), f2⟩
theorem sc_37 {k g : Nat} {S : SS} {x : Nat → Int32} (h : Bs k g S) (hk : k < 512) : ∃ (d : Nat) (r1 r2 : Int32) (S1 S2 : SS), f_Yard_finding (x (1)) (gho S d) = some (r1, S1) ∧ f_M_finding (x (1)) S1 = some (r2, S2) ∧ Bs (k + 1) (g + d) S2 ∧ WR S1 ∧ F1 [] [] S S1 ∧ Fr [] [] S1 S2 := by
  have h0 := h.gh 0
  obtain ⟨r1, S1, e1, w1, f1, -⟩ := t_Yard_finding (a1 := (x (1))) h0.1
  have h1 : Bs k g S1 := h0.sc w1 f1 rfl
  obtain ⟨r2, S2, e2, w2, f2, -⟩ := t_M_finding (a1 := (x (1))) h1.1
  exact ⟨0, r1, r2, S1, S2, e1, e2, h1.st w2 f2 rfl (nn_fr f2.f1 rfl rfl) (by omega) (by omega), w1, (f1.f1), f2⟩
theorem sc_38 {k g : Nat} {S : SS} {x : Nat → Int32} (h : Bs k g S) (hk : k < 512) : ∃ (d : Nat) (r1 r2 : Int32) (S1 S2 : SS), f_Yard_count (x (1)) (gho S d) = some (r1, S1) ∧ f_M_count (x (1)) S1 = some (r2, S2) ∧ Bs (k + 1) (g + d) S2 ∧ WR S1 ∧ F1 [] [] S S1 ∧ Fr [] [] S1 S2 := by
  have h0 := h.gh 0
  obtain ⟨r1, S1, e1, w1, f1, -⟩ := t_Yard_count (a1 := (x (1))) h0.1
  have h1 : Bs k g S1 := h0.sc w1 f1 rfl
  obtain ⟨r2, S2, e2, w2, f2, -⟩ := t_M_count (a1 := (x (1))) h1.1
  exact ⟨0, r1, r2, S1, S2, e1, e2, h1.st w2 f2 rfl (nn_fr f2.f1 rfl rfl) (by omega) (by omega), w1, (f1.f1), f2⟩
theorem sc_39 {k g : Nat} {S : SS} {x : Nat → Int32} (h : Bs k g S) (hk : k < 512) : ∃ (d : Nat) (r1 r2 : Int32) (S1 S2 : SS), f_Yard_trace (x (1)) (gho S d) = some (r1, S1) ∧ f_M_trace (x (1)) S1 = some (r2, S2) ∧ Bs (k + 1) (g + d) S2 ∧ WR S1 ∧ F1 [] [] S S1 ∧ Fr [] [] S1 S2 := by
  have h0 := h.gh 0
  obtain ⟨r1, S1, e1, w1, f1, -⟩ := t_Yard_trace (a1 := (x (1))) h0.1
  have h1 : Bs k g S1 := h0.sc w1 f1 rfl
  obtain ⟨r2, S2, e2, w2, f2, -⟩ := t_M_trace (a1 := (x (1))) h1.1
  exact ⟨0, r1, r2, S1, S2, e1, e2, h1.st w2 f2 rfl (nn_fr f2.f1 rfl rfl) (by omega) (by omega), w1, (f1.f1), f2⟩
theorem sc_40 {k g : Nat} {S : SS} {x : Nat → Int32} (h : Bs k g S) (hk : k < 512) : ∃ (d : Nat) (r1 r2 : Int32) (S1 S2 : SS), f_Yard_undo  (gho S d) = some (r1, S1) ∧ f_M_undo  S1 = some (r2, S2) ∧ Bs (k + 1) (g + d) S2 ∧ WR S1 ∧ F1 [79, 81, 82, 83, 84, 85, 86, 87, 88] [(64, 6), (64, 7)] S S1 ∧ Fr [10, 11, 19, 20, 21, 22, 23, 24, 25, 26, 27, 30, 31, 32, 33, 34, 40] [(0, 48), (0, 60), (0, 61)] S1 S2 := by
  have h0 := h.gh 0
  obtain ⟨r1, S1, e1, w1, f1, -⟩ := t_Yard_undo h0.1
  have h1 : Bs k g S1 := h0.sc w1 f1 rfl
  obtain ⟨r2, S2, e2, w2, f2, -⟩ := t_M_undo h1.1
  exact ⟨0, r1, r2, S1, S2, e1, e2, h1.st w2 f2 rfl (nn_fr f2.f1 rfl rfl) (by omega) (by omega), w1, (f1.f1), f2⟩
theorem sc_41 {k g : Nat} {S : SS} {x : Nat → Int32} (h : Bs k g S) (hk : k < 512) : ∃ (d : Nat) (r1 r2 : Int32) (S1 S2 : SS), f_Yard_back  (gho S d) = some (r1, S1) ∧ f_M_back  S1 = some (r2, S2) ∧ Bs (k + 1) (g + d) S2 ∧ WR S1 ∧ F1 [79, 81, 82, 83, 84, 85, 86, 87, 88] [(64, 6), (64, 7)] S S1 ∧ Fr [10, 11, 19, 20, 21, 22, 23, 24, 25, 26, 27, 30, 31, 32, 33, 34, 40] [(0, 48), (0, 60), (0, 61)] S1 S2 := by
  have h0 := h.gh 0
  obtain ⟨r1, S1, e1, w1, f1, -⟩ := t_Yard_back h0.1
  have h1 : Bs k g S1 := h0.sc w1 f1 rfl
  obtain ⟨r2, S2, e2, w2, f2, -⟩ := t_M_back h1.1
  exact ⟨0, r1, r2, S1, S2, e1, e2, h1.st w2 f2 rfl (nn_fr f2.f1 rfl rfl) (by omega) (by omega), w1, (f1.f1), f2⟩
theorem sc_42 {k g : Nat} {S : SS} {x : Nat → Int32} (h : Bs k g S) (hk : k < 512) : ∃ (d : Nat) (r1 r2 : Int64) (S1 S2 : SS), f_Yard_digest  (gho S d) = some (r1, S1) ∧ f_M_digest  S1 = some (r2, S2) ∧ Bs (k + 1) (g + d) S2 ∧ WR S1 ∧ F1 [] [] S S1 ∧ Fr [] [] S1 S2 := by
  have h0 := h.gh 0
  obtain ⟨r1, S1, e1, w1, f1, -⟩ := t_Yard_digest h0.1
  have h1 : Bs k g S1 := h0.sc w1 f1 rfl
  obtain ⟨r2, S2, e2, w2, f2, -⟩ := t_M_digest h1.1
  exact ⟨0, r1, r2, S1, S2, e1, e2, h1.st w2 f2 rfl (nn_fr f2.f1 rfl rfl) (by omega) (by omega), w1, (f1.f1), f2⟩
theorem sc_43 {k g : Nat} {S : SS} {x : Nat → Int32} (h : Bs k g S) (hk : k < 512) : ∃ (d : Nat) (r1 r2 : Int32) (S1 S2 : SS), f_Yard_log (x (1)) (x (2)) (gho S d) = some (r1, S1) ∧ f_M_log (x (1)) (x (2)) S1 = some (r2, S2) ∧ Bs (k + 1) (g + d) S2 ∧ WR S1 ∧ F1 [] [] S S1 ∧ Fr [] [] S1 S2 := by
  have h0 := h.gh 0
  obtain ⟨r1, S1, e1, w1, f1, -⟩ := t_Yard_log (a1 := (x (1))) (a2 := (x (2))) h0.1
  have h1 : Bs k g S1 := h0.sc w1 f1 rfl
  obtain ⟨r2, S2, e2, w2, f2, -⟩ := t_M_log (a1 := (x (1))) (a2 := (x (2))) h1.1
  exact ⟨0, r1, r2, S1, S2, e1, e2, h1.st w2 f2 rfl (nn_fr f2.f1 rfl rfl) (by omega) (by omega), w1, (f1.f1), f2⟩
theorem sc_44 {k g : Nat} {S : SS} {x : Nat → Int32} (h : Bs k g S) (hk : k < 512) : ∃ (d : Nat) (r1 r2 : Int32) (S1 S2 : SS), f_Yard_room (x (1)) (x (2)) (gho S d) = some (r1, S1) ∧ f_M_room (x (1)) (x (2)) S1 = some (r2, S2) ∧ Bs (k + 1) (g + d) S2 ∧ WR S1 ∧ F1 [106] [] S S1 ∧ Fr [46] [] S1 S2 := by
  have h0 := h.gh 0
  obtain ⟨r1, S1, e1, w1, f1, -⟩ := t_Yard_room (a1 := (x (1))) (a2 := (x (2))) h0.1
  have h1 : Bs k g S1 := h0.sc w1 f1 rfl
  obtain ⟨r2, S2, e2, w2, p2, f2⟩ := r_M_room (a1 := (x (1))) (a2 := (x (2))) h1.1 h1.2.1
  exact ⟨0, r1, r2, S1, S2, e1, e2, h1.sp w2 p2 f2 rfl, w1, (f1.f1), f2⟩
theorem sc_45 {k g : Nat} {S : SS} {x : Nat → Int32} (h : Bs k g S) (hk : k < 512) : ∃ (d : Nat) (r1 r2 : Int32) (S1 S2 : SS), f_Yard_lay ((if x (1) = 0 then (0 : Int32) else 1)) (x (2)) (x (3)) (gho S d) = some (r1, S1) ∧ f_M_lay ((if x (1) = 0 then (0 : Int32) else 1)) (x (2)) (x (3)) S1 = some (r2, S2) ∧ Bs (k + 1) (g + d) S2 ∧ WR S1 ∧ F1 [122, 123, 124, 125] [] S S1 ∧ Fr [47, 48, 49, 50] [] S1 S2 := by
  have h0 := h.gh 0
  obtain ⟨r1, S1, e1, w1, f1, -⟩ := t_Yard_lay (a1 := ((if x (1) = 0 then (0 : Int32) else 1))) (a2 := (x (2))) (a3 := (x (3))) h0.1
  have h1 : Bs k g S1 := h0.sc w1 f1 rfl
  obtain ⟨r2, S2, e2, w2, p2, f2⟩ := r_M_lay (a1 := ((if x (1) = 0 then (0 : Int32) else 1))) (a2 := (x (2))) (a3 := (x (3))) h1.1 h1.2.1
  exact ⟨0, r1, r2, S1, S2, e1, e2, h1.sp w2 p2 f2 rfl, w1, (f1.f1), f2⟩
theorem sc_46 {k g : Nat} {S : SS} {x : Nat → Int32} (h : Bs k g S) (hk : k < 512) : ∃ (d : Nat) (r1 r2 : Int32) (S1 S2 : SS), f_Yard_wipe  (gho S d) = some (r1, S1) ∧ f_M_wipe  S1 = some (r2, S2) ∧ Bs (k + 1) (g + d) S2 ∧ WR S1 ∧ F1 [123, 125] [(70, 7), (70, 8)] S S1 ∧ Fr [47, 49] [(0, 76), (0, 77)] S1 S2 := by
  have h0 := h.gh 0
  obtain ⟨r1, S1, e1, w1, f1, -⟩ := t_Yard_wipe h0.1
  have h1 : Bs k g S1 := h0.sc w1 f1 rfl
  obtain ⟨r2, S2, e2, w2, p2, f2⟩ := r_M_wipe h1.1 h1.2.1
  exact ⟨0, r1, r2, S1, S2, e1, e2, h1.sp w2 p2 f2 rfl, w1, (f1.f1), f2⟩
theorem sc_47 {k g : Nat} {S : SS} {x : Nat → Int32} (h : Bs k g S) (hk : k < 512) : ∃ (d : Nat) (r1 r2 : Int32) (S1 S2 : SS), f_Yard_plan (x (1)) (gho S d) = some (r1, S1) ∧ f_M_plan (x (1)) S1 = some (r2, S2) ∧ Bs (k + 1) (g + d) S2 ∧ WR S1 ∧ F1 YL MFl S S1 ∧ Fr [51, 52, 53, 54, 55, 56, 57, 58, 59, 60] [(0, 76), (0, 77), (0, 81)] S1 S2 := by
  obtain ⟨-, -, ⟨G, hC, hG⟩, -⟩ := id h
  obtain ⟨d, hd, r1, S1, e1, w1, f1, G', c1, hG'⟩ := c_Yard_plan (a := (x (1))) h.1 hC
  have h1 : Bs k (g + d) S1 := h.sq w1 c1 (by omega) f1 rfl
  obtain ⟨r2, S2, e2, w2, p2, f2⟩ := r_M_plan (a1 := (x (1))) h1.1 h1.2.1
  exact ⟨d, r1, r2, S1, S2, e1, e2, h1.sp w2 p2 f2 rfl, w1, f1, f2⟩
theorem sc_48 {k g : Nat} {S : SS} {x : Nat → Int32} (h : Bs k g S) (hk : k < 512) : ∃ (d : Nat) (r1 r2 : Int32) (S1 S2 : SS), f_Yard_move (x (1)) (x (2)) (gho S d) = some (r1, S1) ∧ f_M_move (x (1)) (x (2)) S1 = some (r2, S2) ∧ Bs (k + 1) (g + d) S2 ∧ WR S1 ∧ F1 [] [] S S1 ∧ Fr [] [] S1 S2 := by
  have h0 := h.gh 0
  obtain ⟨r1, S1, e1, w1, f1, -⟩ := t_Yard_move (a1 := (x (1))) (a2 := (x (2))) h0.1
  have h1 : Bs k g S1 := h0.sc w1 f1 rfl
  obtain ⟨r2, S2, e2, w2, f2, -⟩ := t_M_move (a1 := (x (1))) (a2 := (x (2))) h1.1
  exact ⟨0, r1, r2, S1, S2, e1, e2, h1.st w2 f2 rfl (nn_fr f2.f1 rfl rfl) (by omega) (by omega), w1, (f1.f1), f2⟩
theorem sc_49 {k g : Nat} {S : SS} {x : Nat → Int32} (h : Bs k g S) (hk : k < 512) : ∃ (d : Nat) (r1 r2 : Int32) (S1 S2 : SS), f_Yard_bound  (gho S d) = some (r1, S1) ∧ f_M_bound  S1 = some (r2, S2) ∧ Bs (k + 1) (g + d) S2 ∧ WR S1 ∧ F1 [] [] S S1 ∧ Fr [] [] S1 S2 := by
  have h0 := h.gh 0
  obtain ⟨r1, S1, e1, w1, f1, -⟩ := t_Yard_bound h0.1
  have h1 : Bs k g S1 := h0.sc w1 f1 rfl
  obtain ⟨r2, S2, e2, w2, f2, -⟩ := t_M_bound h1.1
  exact ⟨0, r1, r2, S1, S2, e1, e2, h1.st w2 f2 rfl (nn_fr f2.f1 rfl rfl) (by omega) (by omega), w1, (f1.f1), f2⟩
theorem sc_50 {k g : Nat} {S : SS} {x : Nat → Int32} (h : Bs k g S) (hk : k < 512) : ∃ (d : Nat) (r1 r2 : Int32) (S1 S2 : SS), f_Yard_proof (x (1)) (gho S d) = some (r1, S1) ∧ f_M_proof (x (1)) S1 = some (r2, S2) ∧ Bs (k + 1) (g + d) S2 ∧ WR S1 ∧ F1 [] [] S S1 ∧ Fr [] [] S1 S2 := by
  have h0 := h.gh 0
  obtain ⟨-, -, ⟨G, hC, hG⟩, -⟩ := id h0
  obtain ⟨r1, S1, e1, w1, c1, f1⟩ := c_Yard_proof (a := (x (1))) h0.1 hC
  have h1 : Bs k g S1 := h0.sq w1 c1 hG f1.f1 rfl
  obtain ⟨r2, S2, e2, w2, f2, -⟩ := t_M_proof (a1 := (x (1))) h1.1
  exact ⟨0, r1, r2, S1, S2, e1, e2, h1.st w2 f2 rfl (nn_fr f2.f1 rfl rfl) (by omega) (by omega), w1, (f1.f1), f2⟩
theorem sc_51 {k g : Nat} {S : SS} {x : Nat → Int32} (h : Bs k g S) (hk : k < 512) : ∃ (d : Nat) (r1 r2 : Int32) (S1 S2 : SS), f_Yard_spoil (x (1)) (x (2)) (gho S d) = some (r1, S1) ∧ f_M_spoil (x (1)) (x (2)) S1 = some (r2, S2) ∧ Bs (k + 1) (g + d) S2 ∧ WR S1 ∧ F1 [120] [] S S1 ∧ Fr [55] [] S1 S2 := by
  have h0 := h.gh 0
  obtain ⟨-, -, ⟨G, hC, hG⟩, -⟩ := id h0
  obtain ⟨r1, S1, e1, w1, c1, f1⟩ := c_Yard_spoil (a := (x (1))) (v := (x (2))) h0.1 hC
  have h1 : Bs k g S1 := h0.sq w1 c1 hG f1.f1 rfl
  obtain ⟨r2, S2, e2, w2, p2, f2⟩ := r_M_spoil (a1 := (x (1))) (a2 := (x (2))) h1.1 h1.2.1
  exact ⟨0, r1, r2, S1, S2, e1, e2, h1.sp w2 p2 f2 rfl, w1, (f1.f1), f2⟩
theorem sc_52 {k g : Nat} {S : SS} {x : Nat → Int32} (h : Bs k g S) (hk : k < 512) : ∃ (d : Nat) (r1 r2 : Int32) (S1 S2 : SS), f_Yard_check  (gho S d) = some (r1, S1) ∧ f_M_check  S1 = some (r2, S2) ∧ Bs (k + 1) (g + d) S2 ∧ WR S1 ∧ F1 HL [] S S1 ∧ Fr [57, 58, 59] [] S1 S2 := by
  have h0 := h.gh 0
  obtain ⟨-, -, ⟨G, hC, hG⟩, -⟩ := id h0
  obtain ⟨r1, S1, e1, w1, c1, f1⟩ := c_Yard_check h0.1 hC
  have h1 : Bs k g S1 := h0.sq w1 c1 hG f1.f1 rfl
  obtain ⟨r2, S2, e2, w2, p2, f2⟩ := r_M_check h1.1 h1.2.1
  exact ⟨0, r1, r2, S1, S2, e1, e2, h1.sp w2 p2 f2 rfl, w1, (f1.f1), f2⟩
