/-! ===== measure: the ranks ===== -/
def RkI (S T : SS) (x : Nat) : Prop := ∃ (k : Nat) (g : Nat → Nat), k ≤ x ∧ T.1 0 81 = nI k ∧ (∀ j, j < k → g j < x ∧ T.1 54 j = nI (g j) ∧ Bef (S.1 49) (S.1 50) (nI (g j)) 4 0) ∧ (∀ i j, i < j → j < k → g i < g j) ∧ ∀ w, w < x → Bef (S.1 49) (S.1 50) (nI w) 4 0 → ∃ j, j < k ∧ g j = w
theorem me_L7 {S : SS} {P : SS → Prop} (hk : ∀ U N, WR U → Fr [54] [(0, 81)] S U → RkI S U 10 → Ew (f_M_measure_L7 (N + 1) (nI 10) U) P) : ∀ (N x : Nat) (T : SS), WR T → Fr [54] [(0, 81)] S T → RkI S T x → x ≤ 10 → 10 < N + x → Ew (f_M_measure_L7 N (nI x) T) P
  | 0, x, T, hW, hF, hj, hx, hN => by omega
  | N + 1, x, T, hW, hF, hj, hx, hN => by
    by_cases c : x = 10
    · subst c
      exact hk T N hW hF hj
    · refine v_eq (f_M_measure_L7.eq_2 _ _ _) ?_
      refine v_f (nI_ge (a := x) (b := 10) (by omega) (by omega)) ?_
      have e49 : T.1 49 = S.1 49 := funext (fun j => hF.1 49 j rfl)
      have e50 : T.1 50 = S.1 50 := funext (fun j => hF.1 50 j rfl)
      obtain ⟨k, g, h1, h2, h3, h4, h5⟩ := hj
      obtain ⟨r, V, ev, hV, b, hr, hb⟩ := u_has_g (w := nI x) hW
      subst hV
      rw [e49, e50] at hb
      rw [ev]
      show Ew (if r = 0 then _ else _) P
      cases b with
      | false =>
        have hr : r = 0 := hr
        subst hr
        refine v_t rfl ?_
        refine v_eq (f_M_measure_j48.eq_1 _ _ _) ?_
        refine v_nm ?_
        rw [nI_1]
        refine me_L7 hk N (x + 1) V hW hF ⟨k, g, by omega, h2, fun j hj => ⟨by have := (h3 j hj).1; omega, (h3 j hj).2⟩, h4, fun w hw hB => ?_⟩ (by omega) (by omega)
        by_cases d : w = x
        · subst d
          exact absurd (hb.mpr hB) (by decide)
        · exact h5 w (by omega) hB
      | true =>
        have hr : r = 1 := hr
        subst hr
        refine v_f (by decide) ?_
        rw [h2]
        refine v_grd (inb_nI (by omega) (by omega)) ?_
        rw [nI_clamp (n := k) (by omega)]
        refine v_wrA (fun T1 e1 g1 w1 => ?_)
        have W1 := WR.st (k := 54) hW trivial rfl e1
        rw [g1.1 0 81 rfl, h2, nI_1]
        refine v_wrO (fun T2 e2 g2 w2 => ?_)
        have W2 : WR T2 := WR.st (k := 0) (i := 81) W1 (show rg (nI (k + 1)) 0 10 from rg_nI (by omega) (by omega) (by omega)) rfl e2
        refine v_eq (f_M_measure_j48.eq_1 _ _ _) ?_
        refine v_nm ?_
        rw [nI_1]
        refine me_L7 hk N (x + 1) T2 W2 ((hF.tr g1 rfl).tr g2 rfl) ⟨k + 1, fun j => if j = k then x else g j, by omega, w2, fun j hj => ?_, fun i j hij hj => ?_, fun w hw hB => ?_⟩ (by omega) (by omega)
        · show (if j = k then x else g j) < x + 1 ∧ T2.1 54 j = nI (if j = k then x else g j) ∧ Bef (S.1 49) (S.1 50) (nI (if j = k then x else g j)) 4 0
          rw [g2.1 54 j rfl, e1, st_at, if_pos rfl]
          by_cases d : j = k
          · rw [if_pos d, if_pos d]
            exact ⟨by omega, rfl, hb.mp rfl⟩
          · rw [if_neg d, if_neg d]
            have := h3 j (by omega)
            exact ⟨by omega, this.2⟩
        · show (if i = k then x else g i) < (if j = k then x else g j)
          rw [if_neg (by omega)]
          by_cases d : j = k
          · rw [if_pos d]; exact (h3 i (by omega)).1
          · rw [if_neg d]; exact h4 i j hij (by omega)
        · by_cases d : w = x
          · exact ⟨k, by omega, by show (if k = k then x else g k) = w; rw [if_pos rfl, d]⟩
          · obtain ⟨j, q1, q2⟩ := h5 w (by omega) hB
            exact ⟨j, by omega, by show (if j = k then x else g j) = w; rw [if_neg (by omega), q2]⟩
