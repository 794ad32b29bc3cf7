/-! ===== step and plan on the first world; the first call ===== -/
theorem t_run (S : SS) (h : S.1 79 1 = 0) : ∀ (n m k : Nat), k ≤ m → m < n + k → m < 1000 → f_Trains_runAll_L2 n (nI m) (nI k) S = some (0, S)
  | 0, m, k, h1, h2, h3 => by omega
  | n + 1, m, k, h1, h2, h3 => by
    rw [f_Trains_runAll_L2.eq_2]
    have e : f_State_running S = some (0, S) := by
      rw [f_State_running.eq_1, show inb (1 : Int32) 946 = true from rfl, show (1 : Int32).toNatClampNeg = 1 from rfl, h]; rfl
    rw [e]
    rcases Nat.lt_or_ge k m with q | q
    · rw [if_neg (nI_ge q (by omega))]
      show f_Trains_runAll_L18 _ NF (nI m) (nI k) 0 0 S = _
      rw [show NF = 99999 + 1 from rfl, f_Trains_runAll_L18.eq_2, if_pos (by decide)]
      show f_Trains_runAll_L2 n (nI m) (nI k + 1) S = _
      rw [nI_1]
      exact t_run S h n m (k + 1) (by omega) (by omega) h3
    · have e2 : k = m := by omega
      subst e2
      rw [if_pos (nI_le (Nat.le_refl _) (by omega))]
      rfl
theorem m_next (S : SS) (h : S.1 0 29 = 0) (b : Int32) : f_M_nextRunning b S = some (-4, S) := by
  rw [f_M_nextRunning.eq_1, show NF = 99999 + 1 from rfl, f_M_nextRunning_L5.eq_2, h, if_pos (by decide)]
theorem m_step (S : SS) (h : S.1 0 29 = 0) : ∀ (n m k : Nat), k ≤ m → m < n + k → m < 1000 → f_M_step_L19 n (nI m) (nI k) S = bnd (f_M_running S) (fun r3 S2 => bnd (f_M_entered (10 : Int32) r3 S2) (fun r5 S4 => some (r5, S4)))
  | 0, m, k, h1, h2, h3 => by omega
  | n + 1, m, k, h1, h2, h3 => by
    rw [f_M_step_L19.eq_2]
    rcases Nat.lt_or_ge k m with q | q
    · rw [if_neg (nI_ge q (by omega)), m_next S h]
      show f_M_step_L30 _ NF (nI m) (nI k) (-4) S = _
      rw [show NF = 99999 + 1 from rfl, f_M_step_L30.eq_2, if_pos rfl]
      show f_M_step_L19 n (nI m) (nI k + 1) S = _
      rw [nI_1]
      exact m_step S h n m (k + 1) (by omega) (by omega) h3
    · have e2 : k = m := by omega
      subst e2
      rw [if_pos (nI_le (Nat.le_refl _) (by omega))]
theorem m_runs (S : SS) (h : S.1 0 29 = 0) : f_M_running S = some (0, S) := by
  rw [f_M_running.eq_1, show NF = 99999 + 1 from rfl, f_M_running_L4.eq_2, h, if_pos (by decide)]
theorem t_run0 (S : SS) (h : S.1 79 1 = 0) (m : Nat) (hm : m < 1000) : f_Trains_runAll (nI m) S = some (0, S) := by
  rw [f_Trains_runAll.eq_1]
  exact t_run S h NF m 0 (by omega) (by have := NF_gt; omega) hm
theorem m_step0 (S : SS) (h : S.1 0 29 = 0) (m : Nat) (hm : m < 1000) : f_M_step_L19 NF (nI m) 0 S = bnd (f_M_entered (10 : Int32) 0 S) (fun r5 S4 => some (r5, S4)) := by
  have e := m_step S h NF m 0 (by omega) (by have := NF_gt; omega) hm
  rw [m_runs S h] at e
  exact e
set_option maxRecDepth 100000 in
set_option maxHeartbeats 4000000 in
theorem q_23in (m : Nat) (h1 : 1 ≤ m) (h2 : m ≤ 50) : Ex2 (f_Yard_step (nI m) (gh S0 0)) (fun r S => Ex2 (f_M_step (nI m) S) (fun r' _ => r = r')) := by
  have c1 : ¬ nI m < 1 := nI_nlt h1 (by omega)
  have c2 : nI m ≤ 50 := nI_le (b := 50) h2 (by decide)
  repeat' (first
    | with_reducible refine e_eq (m_step0 _ (by simp [gh_1, kb_81, s0_0_29, s0_0_60, s0_0_62, s0_63_1, s0_64_3, s0_64_4, s0_64_5, s0_64_6, s0_79, st_at, cp_row, *]) m (by omega)) ?_
    | with_reducible refine e_eq (t_run0 _ (by simp [gh_1, kb_81, s0_0_29, s0_0_60, s0_0_62, s0_63_1, s0_64_3, s0_64_4, s0_64_5, s0_64_6, s0_79, st_at, cp_row, *]) m (by omega)) ?_
    | with_reducible refine e_bnd ?_
    | with_reducible refine e_bndv ?_
    | with_reducible refine v_bnd ?_
    | with_reducible refine v_bndv ?_
    | with_reducible refine e_nm ?_
    | with_reducible refine v_nm ?_
    | with_reducible refine e_wr ?_
    | with_reducible refine v_wr ?_
    | with_reducible refine v_cpw ?_
    | with_reducible refine e_cpw ?_
    | with_reducible refine e_some ?_
    | with_reducible refine v_some ?_
    | with_reducible refine e_grd (by first | rfl | (simp [inb, cpok, isB, gh_1, kb_81, s0_0_29, s0_0_60, s0_0_62, s0_63_1, s0_64_3, s0_64_4, s0_64_5, s0_64_6, s0_79, st_at, cp_row, *]; done) | (refine inb_i ?_ ?_ <;> grind)) ?_
    | with_reducible refine v_grd (by first | rfl | (simp [inb, cpok, isB, gh_1, kb_81, s0_0_29, s0_0_60, s0_0_62, s0_63_1, s0_64_3, s0_64_4, s0_64_5, s0_64_6, s0_79, st_at, cp_row, *]; done) | (refine inb_i ?_ ?_ <;> grind)) ?_
    | (with_reducible refine e_i (fun h => ?_) (fun h => ?_)) <;> (try simp [gh_1, kb_81, s0_0_29, s0_0_60, s0_0_62, s0_63_1, s0_64_3, s0_64_4, s0_64_5, s0_64_6, s0_79, st_at, cp_row, *] at h) <;> (try (exfalso; grind; done))
    | (with_reducible refine v_i (fun h => ?_) (fun h => ?_)) <;> (try simp [gh_1, kb_81, s0_0_29, s0_0_60, s0_0_62, s0_63_1, s0_64_3, s0_64_4, s0_64_5, s0_64_6, s0_79, st_at, cp_row, *] at h) <;> (try (exfalso; grind; done))
    | with_reducible refine s_save0 _ (by simp [gh_1, kb_81, s0_0_29, s0_0_60, s0_0_62, s0_63_1, s0_64_3, s0_64_4, s0_64_5, s0_64_6, s0_79, st_at, cp_row, *]) (fun S' hS' => ?_)
    | with_reducible refine e_eq (f_Yard_step.eq_1 _ _) ?_
    | with_reducible refine e_eq (f_Yard_isNot.eq_1 _ _ _ _) ?_
    | with_reducible refine v_eq (f_History_keep.eq_1 _) ?_
    | with_reducible refine v_eq (f_History_keep_j33.eq_1 _) ?_
    | with_reducible refine e_eq (f_History_border.eq_1 _) ?_
    | with_reducible refine e_eq (f_State_usedCells.eq_1 _) ?_
    | with_reducible refine e_eq (f_Yard_endAct.eq_1 _ _ _) ?_
    | with_reducible refine v_eq (f_History_write.eq_1 _ _ _) ?_
    | with_reducible refine e_eq (f_Math_min_7cf53.eq_1 _ _ _) ?_
    | with_reducible refine e_eq (f_M_step.eq_1 _ _) ?_
    | with_reducible refine v_eq (f_M_keep.eq_1 _) ?_
    | with_reducible refine v_eq (f_M_keep_j50.eq_1 _) ?_
    | with_reducible refine e_eq (f_M_entered.eq_1 _ _ _) ?_
    | rfl
    | (simp [gh_1, kb_81, s0_0_29, s0_0_60, s0_0_62, s0_63_1, s0_64_3, s0_64_4, s0_64_5, s0_64_6, s0_79, st_at, cp_row, *]; done)
    )
set_option maxRecDepth 100000 in
set_option maxHeartbeats 4000000 in
theorem q_23 (a1 : Int32) : Ex2 (f_Yard_step a1 (gh S0 0)) (fun r S => Ex2 (f_M_step a1 S) (fun r' _ => r = r')) := by
  by_cases c1 : a1 < 1
  · repeat' (first
      | with_reducible refine e_bnd ?_
      | with_reducible refine e_bndv ?_
      | with_reducible refine v_bnd ?_
      | with_reducible refine v_bndv ?_
      | with_reducible refine e_nm ?_
      | with_reducible refine v_nm ?_
      | with_reducible refine e_wr ?_
      | with_reducible refine v_wr ?_
      | with_reducible refine v_cpw ?_
      | with_reducible refine e_cpw ?_
      | with_reducible refine e_some ?_
      | with_reducible refine v_some ?_
      | with_reducible refine e_grd (by first | rfl | (simp [inb, cpok, isB, gh_1, kb_81, st_at, cp_row, *]; done) | (refine inb_i ?_ ?_ <;> grind)) ?_
      | with_reducible refine v_grd (by first | rfl | (simp [inb, cpok, isB, gh_1, kb_81, st_at, cp_row, *]; done) | (refine inb_i ?_ ?_ <;> grind)) ?_
      | (with_reducible refine e_i (fun h => ?_) (fun h => ?_)) <;> (try simp [gh_1, kb_81, st_at, cp_row, *] at h) <;> (try (exfalso; grind; done))
      | (with_reducible refine v_i (fun h => ?_) (fun h => ?_)) <;> (try simp [gh_1, kb_81, st_at, cp_row, *] at h) <;> (try (exfalso; grind; done))
      | with_reducible refine e_eq (f_Yard_step.eq_1 _ _) ?_
      | with_reducible refine e_eq (f_Yard_isNot.eq_1 _ _ _ _) ?_
      | with_reducible refine e_eq (f_M_step.eq_1 _ _) ?_
      | rfl
      | (simp [gh_1, kb_81, st_at, cp_row, *]; done)
      )
  · by_cases c2 : a1 ≤ 50
    · have e0 : (0 : Int32).toInt = 0 := by decide
      have e1 : (1 : Int32).toInt = 1 := by decide
      have e50 : (50 : Int32).toInt = 50 := by decide
      rw [Int32.lt_iff_toInt_lt] at c1
      rw [Int32.le_iff_toInt_le] at c2
      obtain ⟨m, hm, rfl⟩ := nI_of (x := a1) (by rw [Int32.lt_iff_toInt_lt]; omega)
      rw [nI_toInt hm] at c1 c2
      exact q_23in m (by omega) (by omega)
    · repeat' (first
        | with_reducible refine e_bnd ?_
        | with_reducible refine e_bndv ?_
        | with_reducible refine v_bnd ?_
        | with_reducible refine v_bndv ?_
        | with_reducible refine e_nm ?_
        | with_reducible refine v_nm ?_
        | with_reducible refine e_wr ?_
        | with_reducible refine v_wr ?_
        | with_reducible refine v_cpw ?_
        | with_reducible refine e_cpw ?_
        | with_reducible refine e_some ?_
        | with_reducible refine v_some ?_
        | with_reducible refine e_grd (by first | rfl | (simp [inb, cpok, isB, gh_1, kb_81, st_at, cp_row, *]; done) | (refine inb_i ?_ ?_ <;> grind)) ?_
        | with_reducible refine v_grd (by first | rfl | (simp [inb, cpok, isB, gh_1, kb_81, st_at, cp_row, *]; done) | (refine inb_i ?_ ?_ <;> grind)) ?_
        | (with_reducible refine e_i (fun h => ?_) (fun h => ?_)) <;> (try simp [gh_1, kb_81, st_at, cp_row, *] at h) <;> (try (exfalso; grind; done))
        | (with_reducible refine v_i (fun h => ?_) (fun h => ?_)) <;> (try simp [gh_1, kb_81, st_at, cp_row, *] at h) <;> (try (exfalso; grind; done))
        | with_reducible refine e_eq (f_Yard_step.eq_1 _ _) ?_
        | with_reducible refine e_eq (f_Yard_isNot.eq_1 _ _ _ _) ?_
        | with_reducible refine e_eq (f_M_step.eq_1 _ _) ?_
        | rfl
        | (simp [gh_1, kb_81, st_at, cp_row, *]; done)
        )
def fillS (i : Nat) (S : SS) : SS := (fun a => if a = 55 then (fun j => if i ≤ j ∧ j < 25920 then (-1 : Int32) else S.1 55 j) else S.1 a, S.2)
theorem fill_st (i : Nat) (hi : i < 25920) (S : SS) : fillS (i + 1) (st S 55 i (-1)) = fillS i S := by
  unfold fillS
  refine Prod.ext (funext fun a => ?_) rfl
  show (if a = 55 then _ else _) = (if a = 55 then _ else _)
  by_cases ha : a = 55
  · rw [if_pos ha, if_pos ha]
    funext j
    by_cases hj : j = i
    · subst hj
      rw [if_neg (by omega), if_pos (by omega), st_at, if_pos rfl, if_pos rfl]
    · rw [st_at, if_pos rfl, if_neg hj]
      by_cases hc : i ≤ j ∧ j < 25920
      · rw [if_pos hc, if_pos (by omega)]
      · rw [if_neg hc, if_neg (by omega)]
  · rw [if_neg ha, if_neg ha, st_row _ _ _ _ ha]
theorem L56_f : ∀ (n i : Nat) (S : SS), i ≤ 25920 → 25920 < n + i → f_M_measure_L56 n (nI i) S = f_M_measure_L56 1 (nI 25920) (fillS i S)
  | 0, i, S, h1, h2 => by omega
  | n + 1, i, S, h1, h2 => by
    rcases Nat.lt_or_ge i 25920 with q | q
    · rw [f_M_measure_L56.eq_2, if_neg (show ¬ (25920 : Int32) ≤ nI i from nI_ge (b := 25920) q (by decide)), inb_nI q (by decide), nI_clamp (by omega)]
      show f_M_measure_L56 n (nI i + 1) (st S 55 i (-1)) = _
      rw [nI_1, L56_f n (i + 1) _ (by omega) (by omega), fill_st i q]
    · have e : i = 25920 := by omega
      subst e
      have e2 : fillS 25920 S = S := by
        unfold fillS
        refine Prod.ext (funext fun a => ?_) rfl
        show (if a = 55 then _ else _) = _
        by_cases ha : a = 55
        · rw [if_pos ha]
          funext j
          rw [if_neg (by omega), ha]
        · rw [if_neg ha]
      rw [e2, f_M_measure_L56.eq_2, f_M_measure_L56.eq_2, if_pos (by decide), if_pos (by decide)]
def g_M_measure_L7  : Nat → Int32 → SS → Option (SS)
  | 0, _, _ => none
  | n + 1, x1, S =>
    if (10 : Int32) ≤ x1 then
      f_M_measure_L56 1 (nI 25920) (fillS 0 S)
    else
      bnd (f_M_has_M_goalMany_M_goalOn x1 S) (fun r25 S24 =>
      if r25 = 0 then
        f_M_measure_j48 (fun v0 S => g_M_measure_L7 n v0 S) x1 S24
      else
        grd (inb (S24.1 0 81) 10) (wr S24 54 (S24.1 0 81).toNatClampNeg x1 (fun S27 =>
        wr S27 0 81 ((S27.1 0 81) + (1 : Int32)) (fun S28 =>
        f_M_measure_j48 (fun v0 S => g_M_measure_L7 n v0 S) x1 S28))))
theorem L7_eq : ∀ (n : Nat) (x : Int32) (S : SS), f_M_measure_L7 n x S = g_M_measure_L7 n x S
  | 0, x, S => rfl
  | n + 1, x, S => by
    have e : (fun v0 S => f_M_measure_L7 n v0 S) = (fun v0 S => g_M_measure_L7 n v0 S) := funext fun v => funext fun S => L7_eq n v S
    rw [f_M_measure_L7.eq_2, g_M_measure_L7.eq_2, e, show f_M_measure_L56 NF (0 : Int32) S = _ from L56_f NF 0 S (by omega) (by have := NF_gt; omega)]
def g_M_measure (S : SS) : Option SS := wr S 0 81 (0 : Int32) (fun S1 => g_M_measure_L7 NF (0 : Int32) S1)
theorem meas_eq : f_M_measure = g_M_measure := funext fun S => by
  show wr S 0 81 (0 : Int32) (fun S1 => f_M_measure_L7 NF (0 : Int32) S1) = wr S 0 81 (0 : Int32) (fun S1 => g_M_measure_L7 NF (0 : Int32) S1)
  rw [show (fun S1 => f_M_measure_L7 NF (0 : Int32) S1) = (fun S1 => g_M_measure_L7 NF (0 : Int32) S1) from funext fun S1 => L7_eq NF 0 S1]
def g_M_plan_j33 (ms : SS → Option SS) (x1 : Int32) (S : SS) : Option (Int32 × SS) :=
    wr S 0 76 (-4 : Int32) (fun S3 =>
    if x1 = (1 : Int32) then
      bnd (f_M_byRule  S3) (fun r12 S11 =>
      if r12 = 0 then
        f_M_plan_j62 r12 (0 : Int32) S11
      else
        f_M_plan_j62 r12 (S11.1 0 77) S11)
    else
      bndv (ms S3) (fun S4 =>
      bndv (f_M_take (0 : Int32) S4) (fun S5 =>
      bnd (f_M_code  S5) (fun r7 S6 =>
      wr S6 0 77 (0 : Int32) (fun S8 =>
      grd (inb r7 25920) (
      if 0 ≤ (S8.1 55 r7.toNatClampNeg) then
        bndv (f_M_wander r7 S8) (fun S9 =>
        wr S9 0 76 (0 : Int32) (fun S10 =>
        some (S10.1 0 77, S10)))
      else
        some ((-4 : Int32), S8)))))))
def g_M_plan (ms : SS → Option SS) (a1 : Int32) (S : SS) : Option (Int32 × SS) :=
  if a1 < 0 then
    some ((-1 : Int32), S)
  else
    if (1 : Int32) < a1 then
      some ((-1 : Int32), S)
    else
      bnd (f_M_areSame  S) (fun r2 S1 =>
      if r2 = 0 then
        some ((-1 : Int32), S1)
      else
        if a1 = 0 then
          bnd (f_M_sumOf_M_startMany  S1) (fun r16 S15 =>
          if r16 ≤ (5 : Int32) then
            g_M_plan_j33 ms a1 S15
          else
            some ((-1 : Int32), S15))
        else
          g_M_plan_j33 ms a1 S1)
theorem plan_eq (a1 : Int32) : f_M_plan a1 = g_M_plan g_M_measure a1 := by
  rw [← meas_eq]
  rfl
theorem q_47a : Ex2 (f_Yard_plan 0 (gh S0 1)) (fun r S => Ex2 (f_M_plan 0 S) (fun r' _ => r = r')) := by
  rw [plan_eq]
  exact okb_ok (by decide +kernel)
theorem q_47b : Ex2 (f_Yard_plan 1 (gh S0 0)) (fun r S => Ex2 (f_M_plan 1 S) (fun r' _ => r = r')) := okb_ok (by decide +kernel)
theorem q_47c (a1 : Int32) (h0 : ¬ a1 = 0) (h1 : ¬ a1 = 1) : Ex2 (f_Yard_plan a1 (gh S0 0)) (fun r S => Ex2 (f_M_plan a1 S) (fun r' _ => r = r')) := by
  have h01 : a1 < 0 ∨ 1 < a1 := by
    rw [← Int32.toInt_inj] at h0 h1
    rw [Int32.lt_iff_toInt_lt, Int32.lt_iff_toInt_lt]
    have e0 : (0 : Int32).toInt = 0 := by decide
    have e1 : (1 : Int32).toInt = 1 := by decide
    omega
  rcases h01 with h01 | h01
  · repeat' (first
      | with_reducible refine e_bnd ?_
      | with_reducible refine e_bndv ?_
      | with_reducible refine v_bnd ?_
      | with_reducible refine v_bndv ?_
      | with_reducible refine e_nm ?_
      | with_reducible refine v_nm ?_
      | with_reducible refine e_wr ?_
      | with_reducible refine v_wr ?_
      | with_reducible refine v_cpw ?_
      | with_reducible refine e_cpw ?_
      | with_reducible refine e_some ?_
      | with_reducible refine v_some ?_
      | with_reducible refine e_grd (by first | rfl | (simp [inb, cpok, isB, gh_1, kb_81, st_at, cp_row, *]; done) | (refine inb_i ?_ ?_ <;> grind)) ?_
      | with_reducible refine v_grd (by first | rfl | (simp [inb, cpok, isB, gh_1, kb_81, st_at, cp_row, *]; done) | (refine inb_i ?_ ?_ <;> grind)) ?_
      | (with_reducible refine e_i (fun h => ?_) (fun h => ?_)) <;> (try simp [gh_1, kb_81, st_at, cp_row, *] at h) <;> (try (exfalso; grind; done))
      | (with_reducible refine v_i (fun h => ?_) (fun h => ?_)) <;> (try simp [gh_1, kb_81, st_at, cp_row, *] at h) <;> (try (exfalso; grind; done))
      | with_reducible refine e_eq (f_Yard_plan.eq_1 _ _) ?_
      | with_reducible refine e_eq (f_Yard_isNot.eq_1 _ _ _ _) ?_
      | with_reducible refine e_eq (f_M_plan.eq_1 _ _) ?_
      | rfl
      | (simp [gh_1, kb_81, st_at, cp_row, *]; done)
      )
  · repeat' (first
      | with_reducible refine e_bnd ?_
      | with_reducible refine e_bndv ?_
      | with_reducible refine v_bnd ?_
      | with_reducible refine v_bndv ?_
      | with_reducible refine e_nm ?_
      | with_reducible refine v_nm ?_
      | with_reducible refine e_wr ?_
      | with_reducible refine v_wr ?_
      | with_reducible refine v_cpw ?_
      | with_reducible refine e_cpw ?_
      | with_reducible refine e_some ?_
      | with_reducible refine v_some ?_
      | with_reducible refine e_grd (by first | rfl | (simp [inb, cpok, isB, gh_1, kb_81, st_at, cp_row, *]; done) | (refine inb_i ?_ ?_ <;> grind)) ?_
      | with_reducible refine v_grd (by first | rfl | (simp [inb, cpok, isB, gh_1, kb_81, st_at, cp_row, *]; done) | (refine inb_i ?_ ?_ <;> grind)) ?_
      | (with_reducible refine e_i (fun h => ?_) (fun h => ?_)) <;> (try simp [gh_1, kb_81, st_at, cp_row, *] at h) <;> (try (exfalso; grind; done))
      | (with_reducible refine v_i (fun h => ?_) (fun h => ?_)) <;> (try simp [gh_1, kb_81, st_at, cp_row, *] at h) <;> (try (exfalso; grind; done))
      | with_reducible refine e_eq (f_Yard_plan.eq_1 _ _) ?_
      | with_reducible refine e_eq (f_Yard_isNot.eq_1 _ _ _ _) ?_
      | with_reducible refine e_eq (f_M_plan.eq_1 _ _) ?_
      | rfl
      | (simp [gh_1, kb_81, st_at, cp_row, *]; done)
      )

theorem first_call (n : Nat) (x : Nat → Int32) (hn : n < 64) : ∃ (d : Nat) (S2 : SS), d ≤ 1 ∧ cOk n x (gh S0 d) S2 := by
  match n, hn with
  | 0, _ =>
    obtain ⟨S2, r, S1, h1, h2⟩ := OkP.ex (q_0 (x (1)))
    exact ⟨0, S2, by omega, r, S1, h1, h2⟩
  | 1, _ =>
    obtain ⟨S2, r, S1, h1, h2⟩ := OkP.ex (q_1 (x (1)) (x (2)))
    exact ⟨0, S2, by omega, r, S1, h1, h2⟩
  | 2, _ =>
    obtain ⟨S2, r, S1, h1, h2⟩ := OkP.ex (q_2 (x (1)) (x (2)) (x (3)) (x (4)))
    exact ⟨0, S2, by omega, r, S1, h1, h2⟩
  | 3, _ =>
    obtain ⟨S2, r, S1, h1, h2⟩ := OkP.ex (q_3 (x (1)) (x (2)) ((if x (3) = 0 then (0 : Int32) else 1)))
    exact ⟨0, S2, by omega, r, S1, h1, h2⟩
  | 4, _ =>
    obtain ⟨S2, r, S1, h1, h2⟩ := OkP.ex (q_4 (x (1)) (x (2)) (x (3)) (x (4)) (x (5)))
    exact ⟨0, S2, by omega, r, S1, h1, h2⟩
  | 5, _ =>
    obtain ⟨S2, r, S1, h1, h2⟩ := OkP.ex (q_5 ((if x (1) = 0 then (0 : Int32) else 1)) (x (2)) (x (3)) (x (4)))
    exact ⟨0, S2, by omega, r, S1, h1, h2⟩
  | 6, _ =>
    obtain ⟨S2, r, S1, h1, h2⟩ := OkP.ex (q_6 (x (1)) (x (2)) ((if x (3) = 0 then (0 : Int32) else 1)))
    exact ⟨0, S2, by omega, r, S1, h1, h2⟩
  | 7, _ =>
    obtain ⟨S2, r, S1, h1, h2⟩ := OkP.ex (q_7 (x (1)) (x (2)))
    exact ⟨0, S2, by omega, r, S1, h1, h2⟩
  | 8, _ =>
    obtain ⟨S2, r, S1, h1, h2⟩ := OkP.ex (q_8 )
    exact ⟨0, S2, by omega, r, S1, h1, h2⟩
  | 9, _ =>
    obtain ⟨S2, r, S1, h1, h2⟩ := OkP.ex (q_9 (x (1)) (x (2)) (x (3)) (x (4)))
    exact ⟨0, S2, by omega, r, S1, h1, h2⟩
  | 10, _ =>
    obtain ⟨S2, r, S1, h1, h2⟩ := OkP.ex (q_10 (x (1)) (x (2)) (x (3)))
    exact ⟨0, S2, by omega, r, S1, h1, h2⟩
  | 11, _ =>
    obtain ⟨S2, r, S1, h1, h2⟩ := OkP.ex (q_11 (x (1)) (x (2)) (x (3)) (x (4)))
    exact ⟨0, S2, by omega, r, S1, h1, h2⟩
  | 12, _ =>
    obtain ⟨S2, r, S1, h1, h2⟩ := OkP.ex (q_12 (x (1)) (x (2)))
    exact ⟨0, S2, by omega, r, S1, h1, h2⟩
  | 13, _ =>
    obtain ⟨S2, r, S1, h1, h2⟩ := OkP.ex (q_13 (x (1)) (x (2)))
    exact ⟨0, S2, by omega, r, S1, h1, h2⟩
  | 14, _ =>
    obtain ⟨S2, r, S1, h1, h2⟩ := OkP.ex (q_14 (x (1)) (x (2)))
    exact ⟨0, S2, by omega, r, S1, h1, h2⟩
  | 15, _ =>
    obtain ⟨S2, r, S1, h1, h2⟩ := OkP.ex (q_15 (x (1)))
    exact ⟨0, S2, by omega, r, S1, h1, h2⟩
  | 16, _ =>
    obtain ⟨S2, r, S1, h1, h2⟩ := OkP.ex (q_16 (x (1)) (x (2)))
    exact ⟨0, S2, by omega, r, S1, h1, h2⟩
  | 17, _ =>
    obtain ⟨S2, r, S1, h1, h2⟩ := OkP.ex (q_17 (x (1)))
    exact ⟨0, S2, by omega, r, S1, h1, h2⟩
  | 18, _ =>
    obtain ⟨S2, r, S1, h1, h2⟩ := OkP.ex (q_18 (x (1)))
    exact ⟨0, S2, by omega, r, S1, h1, h2⟩
  | 19, _ =>
    obtain ⟨S2, r, S1, h1, h2⟩ := OkP.ex (q_19 (x (1)) (x (2)))
    exact ⟨0, S2, by omega, r, S1, h1, h2⟩
  | 20, _ =>
    obtain ⟨S2, r, S1, h1, h2⟩ := OkP.ex (q_20 (x (1)) (x (2)))
    exact ⟨0, S2, by omega, r, S1, h1, h2⟩
  | 21, _ =>
    obtain ⟨S2, r, S1, h1, h2⟩ := OkP.ex (q_21 (x (1)) (x (2)) (x (3)))
    exact ⟨0, S2, by omega, r, S1, h1, h2⟩
  | 22, _ =>
    obtain ⟨S2, r, S1, h1, h2⟩ := OkP.ex (q_22 (x (1)) (x (2)))
    exact ⟨0, S2, by omega, r, S1, h1, h2⟩
  | 23, _ =>
    obtain ⟨S2, r, S1, h1, h2⟩ := OkP.ex (q_23 (x (1)))
    exact ⟨0, S2, by omega, r, S1, h1, h2⟩
  | 24, _ =>
    obtain ⟨S2, r, S1, h1, h2⟩ := OkP.ex (q_24 (x (1)))
    exact ⟨0, S2, by omega, r, S1, h1, h2⟩
  | 25, _ =>
    obtain ⟨S2, r, S1, h1, h2⟩ := OkP.ex (q_25 (x (1)))
    exact ⟨0, S2, by omega, r, S1, h1, h2⟩
  | 26, _ =>
    obtain ⟨S2, r, S1, h1, h2⟩ := OkP.ex (q_26 (x (1)) (x (2)) (x (3)))
    exact ⟨0, S2, by omega, r, S1, h1, h2⟩
  | 27, _ =>
    obtain ⟨S2, r, S1, h1, h2⟩ := OkP.ex (q_27 (x (1)) (x (2)))
    exact ⟨0, S2, by omega, r, S1, h1, h2⟩
  | 28, _ =>
    obtain ⟨S2, r, S1, h1, h2⟩ := OkP.ex (q_28 (x (1)))
    exact ⟨0, S2, by omega, r, S1, h1, h2⟩
  | 29, _ =>
    obtain ⟨S2, r, S1, h1, h2⟩ := OkP.ex (q_29 (x (1)) (x (2)))
    exact ⟨0, S2, by omega, r, S1, h1, h2⟩
  | 30, _ =>
    obtain ⟨S2, r, S1, h1, h2⟩ := OkP.ex (q_30 (x (1)) (x (2)))
    exact ⟨0, S2, by omega, r, S1, h1, h2⟩
  | 31, _ =>
    obtain ⟨S2, r, S1, h1, h2⟩ := OkP.ex (q_31 (x (1)) (x (2)))
    exact ⟨0, S2, by omega, r, S1, h1, h2⟩
  | 32, _ =>
    obtain ⟨S2, r, S1, h1, h2⟩ := OkP.ex (q_32 (x (1)) (x (2)))
    exact ⟨0, S2, by omega, r, S1, h1, h2⟩
  | 33, _ =>
    obtain ⟨S2, r, S1, h1, h2⟩ := OkP.ex (q_33 (x (1)) (x (2)) (x (3)))
    exact ⟨0, S2, by omega, r, S1, h1, h2⟩
  | 34, _ =>
    obtain ⟨S2, r, S1, h1, h2⟩ := OkP.ex (q_34 (x (1)))
    exact ⟨0, S2, by omega, r, S1, h1, h2⟩
  | 35, _ =>
    obtain ⟨S2, r, S1, h1, h2⟩ := OkP.ex (q_35 (x (1)))
    exact ⟨0, S2, by omega, r, S1, h1, h2⟩
  | 36, _ =>
    obtain ⟨S2, r, S1, h1, h2⟩ := OkP.ex (q_36 (x (1)) (x (2)))
    exact ⟨0, S2, by omega, r, S1, h1, h2⟩
  | 37, _ =>
    obtain ⟨S2, r, S1, h1, h2⟩ := OkP.ex (q_37 (x (1)))
    exact ⟨0, S2, by omega, r, S1, h1, h2⟩
  | 38, _ =>
    obtain ⟨S2, r, S1, h1, h2⟩ := OkP.ex (q_38 (x (1)))
    exact ⟨0, S2, by omega, r, S1, h1, h2⟩
  | 39, _ =>
    obtain ⟨S2, r, S1, h1, h2⟩ := OkP.ex (q_39 (x (1)))
    exact ⟨0, S2, by omega, r, S1, h1, h2⟩
  | 40, _ =>
    obtain ⟨S2, r, S1, h1, h2⟩ := OkP.ex (q_40 )
    exact ⟨0, S2, by omega, r, S1, h1, h2⟩
  | 41, _ =>
    obtain ⟨S2, r, S1, h1, h2⟩ := OkP.ex (q_41 )
    exact ⟨0, S2, by omega, r, S1, h1, h2⟩
  | 42, _ =>
    obtain ⟨S2, r, S1, h1, h2⟩ := OkP.ex (q_42 )
    exact ⟨0, S2, by omega, r, S1, h1, h2⟩
  | 43, _ =>
    obtain ⟨S2, r, S1, h1, h2⟩ := OkP.ex (q_43 (x (1)) (x (2)))
    exact ⟨0, S2, by omega, r, S1, h1, h2⟩
  | 44, _ =>
    obtain ⟨S2, r, S1, h1, h2⟩ := OkP.ex (q_44 (x (1)) (x (2)))
    exact ⟨0, S2, by omega, r, S1, h1, h2⟩
  | 45, _ =>
    obtain ⟨S2, r, S1, h1, h2⟩ := OkP.ex (q_45 ((if x (1) = 0 then (0 : Int32) else 1)) (x (2)) (x (3)) (by split <;> simp))
    exact ⟨0, S2, by omega, r, S1, h1, h2⟩
  | 46, _ =>
    obtain ⟨S2, r, S1, h1, h2⟩ := OkP.ex (q_46 )
    exact ⟨0, S2, by omega, r, S1, h1, h2⟩
  | 47, _ =>
    by_cases h0 : x 1 = 0
    · obtain ⟨S2, r, S1, h1, h2⟩ := OkP.ex q_47a
      exact ⟨1, S2, by omega, r, S1, by rw [h0]; exact h1, by rw [h0]; exact h2⟩
    · by_cases h3 : x 1 = 1
      · obtain ⟨S2, r, S1, h1, h2⟩ := OkP.ex q_47b
        exact ⟨0, S2, by omega, r, S1, by rw [h3]; exact h1, by rw [h3]; exact h2⟩
      · obtain ⟨S2, r, S1, h1, h2⟩ := OkP.ex (q_47c (x 1) h0 h3)
        exact ⟨0, S2, by omega, r, S1, h1, h2⟩
  | 48, _ =>
    obtain ⟨S2, r, S1, h1, h2⟩ := OkP.ex (q_48 (x (1)) (x (2)))
    exact ⟨0, S2, by omega, r, S1, h1, h2⟩
  | 49, _ =>
    obtain ⟨S2, r, S1, h1, h2⟩ := OkP.ex (q_49 )
    exact ⟨0, S2, by omega, r, S1, h1, h2⟩
  | 50, _ =>
    obtain ⟨S2, r, S1, h1, h2⟩ := OkP.ex (q_50 (x (1)))
    exact ⟨0, S2, by omega, r, S1, h1, h2⟩
  | 51, _ =>
    obtain ⟨S2, r, S1, h1, h2⟩ := OkP.ex (q_51 (x (1)) (x (2)))
    exact ⟨0, S2, by omega, r, S1, h1, h2⟩
  | 52, _ =>
    obtain ⟨S2, r, S1, h1, h2⟩ := OkP.ex (q_52 )
    exact ⟨0, S2, by omega, r, S1, h1, h2⟩
  | 53, _ => exact ⟨0, gh S0 0, by omega, rfl⟩
  | 54, _ => exact ⟨0, gh S0 0, by omega, rfl⟩
  | 55, _ => exact ⟨0, gh S0 0, by omega, rfl⟩
  | 56, _ => exact ⟨0, gh S0 0, by omega, rfl⟩
  | 57, _ => exact ⟨0, gh S0 0, by omega, rfl⟩
  | 58, _ => exact ⟨0, gh S0 0, by omega, rfl⟩
  | 59, _ => exact ⟨0, gh S0 0, by omega, rfl⟩
  | 60, _ => exact ⟨0, gh S0 0, by omega, rfl⟩
  | 61, _ => exact ⟨0, gh S0 0, by omega, rfl⟩
  | 62, _ => exact ⟨0, gh S0 0, by omega, rfl⟩
  | 63, _ => exact ⟨0, gh S0 0, by omega, rfl⟩
  | n + 64, hn => exact absurd hn (by omega)
