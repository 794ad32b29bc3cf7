theorem nf_M_count_L88  (b0 : Int32) (b1 : Int32) (b2 : SS) : f_M_count_L88  NF b0 b1 b2 = f_M_count_L88  (99999 + 1) b0 b1 b2 := rfl
theorem nf_M_running_L4  (b0 : Int32) (b1 : Int32) (b2 : SS) : f_M_running_L4  NF b0 b1 b2 = f_M_running_L4  (99999 + 1) b0 b1 b2 := rfl
theorem nf_State_there_L4  (b0 : Int32) (b1 : Int32) (b2 : SS) : f_State_there_L4  NF b0 b1 b2 = f_State_there_L4  (99999 + 1) b0 b1 b2 := rfl
theorem inb_le2 {l x m : Int32} {n : Nat} (h0 : l ≤ x) (h1 : x ≤ m) (hm : 0 ≤ l.toInt ∧ m.toInt < n) : inb x n = true := by
  rw [Int32.le_iff_toInt_le] at h0 h1
  exact inb_i (by omega) (by omega)
set_option maxRecDepth 100000 in
set_option maxHeartbeats 4000000 in
theorem q_34 (a1 : Int32) : Ex2 (f_Yard_weigh a1 (gh S0 0)) (fun r S => Ex2 (f_M_weigh a1 S) (fun r' _ => r = r')) := by
  repeat' (first
    | with_reducible refine e_bnd ?_
    | with_reducible refine e_bndv ?_
    | with_reducible refine v_bnd ?_
    | with_reducible refine v_bndv ?_
    | with_reducible refine e_nm ?_
    | with_reducible refine v_nm ?_
    | with_reducible refine e_wr ?_
    | with_reducible refine v_wr ?_
    | with_reducible refine v_cpw ?_
    | with_reducible refine e_cpw ?_
    | with_reducible refine e_some ?_
    | with_reducible refine v_some ?_
    | with_reducible refine e_grd (by first | rfl | (simp [inb, cpok, isB, gh_1, kb_81, s0_0_29, s0_63_1, st_at, cp_row, *]; done) | exact inb_le (by assumption) (by assumption) (by decide) | exact inb_le2 (by assumption) (by assumption) (by decide) | exact inb_addc (by assumption) (by assumption) (by decide) | (refine inb_i ?_ ?_ <;> grind)) ?_
    | with_reducible refine v_grd (by first | rfl | (simp [inb, cpok, isB, gh_1, kb_81, s0_0_29, s0_63_1, st_at, cp_row, *]; done) | exact inb_le (by assumption) (by assumption) (by decide) | exact inb_le2 (by assumption) (by assumption) (by decide) | exact inb_addc (by assumption) (by assumption) (by decide) | (refine inb_i ?_ ?_ <;> grind)) ?_
    | (with_reducible refine e_i (fun h => ?_) (fun h => ?_)) <;> (try simp [gh_1, kb_81, s0_0_29, s0_63_1, st_at, cp_row, *] at h) <;> (try (exfalso; grind; done))
    | (with_reducible refine v_i (fun h => ?_) (fun h => ?_)) <;> (try simp [gh_1, kb_81, s0_0_29, s0_63_1, st_at, cp_row, *] at h) <;> (try (exfalso; grind; done))
    | with_reducible refine e_eq (f_Yard_weigh.eq_1 _ _) ?_
    | with_reducible refine v_eq (f_Report_begin.eq_1 _) ?_
    | with_reducible refine e_eq (f_Yard_named.eq_1 _ _ _) ?_
    | with_reducible refine e_eq (f_Yard_isNot.eq_1 _ _ _ _) ?_
    | with_reducible refine e_eq (f_Report_found.eq_1 _ _) ?_
    | with_reducible refine e_eq (f_M_weigh.eq_1 _ _) ?_
    | with_reducible refine v_eq (f_M_begin.eq_1 _) ?_
    | with_reducible refine e_eq (f_M_missThing.eq_1 _ _ _) ?_
    | with_reducible refine e_eq (f_M_ends.eq_1 _ _) ?_
    | with_reducible refine e_eq (f_M_found.eq_1 _ _) ?_
    | with_reducible refine e_eq (f_M_ends_j10.eq_1 _ _) ?_
    | rfl
    | (simp [gh_1, kb_81, s0_0_29, s0_63_1, st_at, cp_row, *]; done)
    )
set_option maxRecDepth 100000 in
set_option maxHeartbeats 4000000 in
theorem q_35 (a1 : Int32) : Ex2 (f_Yard_share a1 (gh S0 0)) (fun r S => Ex2 (f_M_share a1 S) (fun r' _ => r = r')) := by
  repeat' (first
    | with_reducible refine e_bnd ?_
    | with_reducible refine e_bndv ?_
    | with_reducible refine v_bnd ?_
    | with_reducible refine v_bndv ?_
    | with_reducible refine e_nm ?_
    | with_reducible refine v_nm ?_
    | with_reducible refine e_wr ?_
    | with_reducible refine v_wr ?_
    | with_reducible refine v_cpw ?_
    | with_reducible refine e_cpw ?_
    | with_reducible refine e_some ?_
    | with_reducible refine v_some ?_
    | with_reducible refine e_grd (by first | rfl | (simp [inb, cpok, isB, gh_1, kb_81, s0_0_29, s0_63_1, st_at, cp_row, *]; done) | exact inb_le (by assumption) (by assumption) (by decide) | exact inb_le2 (by assumption) (by assumption) (by decide) | exact inb_addc (by assumption) (by assumption) (by decide) | (refine inb_i ?_ ?_ <;> grind)) ?_
    | with_reducible refine v_grd (by first | rfl | (simp [inb, cpok, isB, gh_1, kb_81, s0_0_29, s0_63_1, st_at, cp_row, *]; done) | exact inb_le (by assumption) (by assumption) (by decide) | exact inb_le2 (by assumption) (by assumption) (by decide) | exact inb_addc (by assumption) (by assumption) (by decide) | (refine inb_i ?_ ?_ <;> grind)) ?_
    | (with_reducible refine e_i (fun h => ?_) (fun h => ?_)) <;> (try simp [gh_1, kb_81, s0_0_29, s0_63_1, st_at, cp_row, *] at h) <;> (try (exfalso; grind; done))
    | (with_reducible refine v_i (fun h => ?_) (fun h => ?_)) <;> (try simp [gh_1, kb_81, s0_0_29, s0_63_1, st_at, cp_row, *] at h) <;> (try (exfalso; grind; done))
    | with_reducible refine e_eq (f_Yard_share.eq_1 _ _) ?_
    | with_reducible refine v_eq (f_Report_begin.eq_1 _) ?_
    | with_reducible refine e_eq (f_Yard_named.eq_1 _ _ _) ?_
    | with_reducible refine e_eq (f_Yard_isNot.eq_1 _ _ _ _) ?_
    | with_reducible refine e_eq (f_Report_found.eq_1 _ _) ?_
    | with_reducible refine e_eq (f_M_share.eq_1 _ _) ?_
    | with_reducible refine v_eq (f_M_begin.eq_1 _) ?_
    | with_reducible refine e_eq (f_M_missThing.eq_1 _ _ _) ?_
    | with_reducible refine e_eq (f_M_ends.eq_1 _ _) ?_
    | with_reducible refine e_eq (f_M_found.eq_1 _ _) ?_
    | with_reducible refine e_eq (f_M_ends_j10.eq_1 _ _) ?_
    | rfl
    | (simp [gh_1, kb_81, s0_0_29, s0_63_1, st_at, cp_row, *]; done)
    )
set_option maxRecDepth 100000 in
set_option maxHeartbeats 4000000 in
theorem q_36 (a1 a2 : Int32) : Ex2 (f_Yard_consist a1 a2 (gh S0 0)) (fun r S => Ex2 (f_M_consist a1 a2 S) (fun r' _ => r = r')) := by
  repeat' (first
    | with_reducible refine e_bnd ?_
    | with_reducible refine e_bndv ?_
    | with_reducible refine v_bnd ?_
    | with_reducible refine v_bndv ?_
    | with_reducible refine e_nm ?_
    | with_reducible refine v_nm ?_
    | with_reducible refine e_wr ?_
    | with_reducible refine v_wr ?_
    | with_reducible refine v_cpw ?_
    | with_reducible refine e_cpw ?_
    | with_reducible refine e_some ?_
    | with_reducible refine v_some ?_
    | with_reducible refine e_grd (by first | rfl | (simp [inb, cpok, isB, gh_1, kb_81, s0_0_29, s0_0_56, s0_63_1, st_at, cp_row, *]; done) | exact inb_le (by assumption) (by assumption) (by decide) | exact inb_le2 (by assumption) (by assumption) (by decide) | exact inb_addc (by assumption) (by assumption) (by decide) | (refine inb_i ?_ ?_ <;> grind)) ?_
    | with_reducible refine v_grd (by first | rfl | (simp [inb, cpok, isB, gh_1, kb_81, s0_0_29, s0_0_56, s0_63_1, st_at, cp_row, *]; done) | exact inb_le (by assumption) (by assumption) (by decide) | exact inb_le2 (by assumption) (by assumption) (by decide) | exact inb_addc (by assumption) (by assumption) (by decide) | (refine inb_i ?_ ?_ <;> grind)) ?_
    | (with_reducible refine e_i (fun h => ?_) (fun h => ?_)) <;> (try simp [gh_1, kb_81, s0_0_29, s0_0_56, s0_63_1, st_at, cp_row, *] at h) <;> (try (exfalso; grind; done))
    | (with_reducible refine v_i (fun h => ?_) (fun h => ?_)) <;> (try simp [gh_1, kb_81, s0_0_29, s0_0_56, s0_63_1, st_at, cp_row, *] at h) <;> (try (exfalso; grind; done))
    | with_reducible refine e_eq (f_Yard_consist.eq_1 _ _ _) ?_
    | with_reducible refine v_eq (f_Report_begin.eq_1 _) ?_
    | with_reducible refine e_eq (f_Yard_named.eq_1 _ _ _) ?_
    | with_reducible refine e_eq (f_Yard_isNot.eq_1 _ _ _ _) ?_
    | with_reducible refine e_eq (f_Report_found.eq_1 _ _) ?_
    | with_reducible refine e_eq (f_M_consist.eq_1 _ _ _) ?_
    | with_reducible refine v_eq (f_M_begin.eq_1 _) ?_
    | with_reducible refine e_eq (f_M_missThing.eq_1 _ _ _) ?_
    | with_reducible refine e_eq (f_M_ends.eq_1 _ _) ?_
    | with_reducible refine e_eq (f_M_found.eq_1 _ _) ?_
    | with_reducible refine e_eq (f_M_ends_j10.eq_1 _ _) ?_
    | rfl
    | (simp [gh_1, kb_81, s0_0_29, s0_0_56, s0_63_1, st_at, cp_row, *]; done)
    )
set_option maxRecDepth 100000 in
set_option maxHeartbeats 4000000 in
theorem q_37 (a1 : Int32) : Ex2 (f_Yard_finding a1 (gh S0 0)) (fun r S => Ex2 (f_M_finding a1 S) (fun r' _ => r = r')) := by
  repeat' (first
    | with_reducible refine e_bnd ?_
    | with_reducible refine e_bndv ?_
    | with_reducible refine v_bnd ?_
    | with_reducible refine v_bndv ?_
    | with_reducible refine e_nm ?_
    | with_reducible refine v_nm ?_
    | with_reducible refine e_wr ?_
    | with_reducible refine v_wr ?_
    | with_reducible refine v_cpw ?_
    | with_reducible refine e_cpw ?_
    | with_reducible refine e_some ?_
    | with_reducible refine v_some ?_
    | with_reducible refine e_grd (by first | rfl | (simp [inb, cpok, isB, gh_1, kb_81, s0_0_0, s0_0_1, s0_0_2, s0_0_3, s0_62_3, s0_62_4, s0_62_5, s0_62_6, st_at, cp_row, *]; done) | exact inb_le (by assumption) (by assumption) (by decide) | exact inb_le2 (by assumption) (by assumption) (by decide) | exact inb_addc (by assumption) (by assumption) (by decide) | (refine inb_i ?_ ?_ <;> grind)) ?_
    | with_reducible refine v_grd (by first | rfl | (simp [inb, cpok, isB, gh_1, kb_81, s0_0_0, s0_0_1, s0_0_2, s0_0_3, s0_62_3, s0_62_4, s0_62_5, s0_62_6, st_at, cp_row, *]; done) | exact inb_le (by assumption) (by assumption) (by decide) | exact inb_le2 (by assumption) (by assumption) (by decide) | exact inb_addc (by assumption) (by assumption) (by decide) | (refine inb_i ?_ ?_ <;> grind)) ?_
    | (with_reducible refine e_i (fun h => ?_) (fun h => ?_)) <;> (try simp [gh_1, kb_81, s0_0_0, s0_0_1, s0_0_2, s0_0_3, s0_62_3, s0_62_4, s0_62_5, s0_62_6, st_at, cp_row, *] at h) <;> (try (exfalso; grind; done))
    | (with_reducible refine v_i (fun h => ?_) (fun h => ?_)) <;> (try simp [gh_1, kb_81, s0_0_0, s0_0_1, s0_0_2, s0_0_3, s0_62_3, s0_62_4, s0_62_5, s0_62_6, st_at, cp_row, *] at h) <;> (try (exfalso; grind; done))
    | with_reducible refine e_eq (f_Yard_finding.eq_1 _ _) ?_
    | with_reducible refine e_eq (f_M_finding.eq_1 _ _) ?_
    | rfl
    | (simp [gh_1, kb_81, s0_0_0, s0_0_1, s0_0_2, s0_0_3, s0_62_3, s0_62_4, s0_62_5, s0_62_6, st_at, cp_row, *]; done)
    )
set_option maxRecDepth 100000 in
set_option maxHeartbeats 4000000 in
theorem q_38 (a1 : Int32) : Ex2 (f_Yard_count a1 (gh S0 0)) (fun r S => Ex2 (f_M_count a1 S) (fun r' _ => r = r')) := by
  repeat' (first
    | with_reducible refine e_bnd ?_
    | with_reducible refine e_bndv ?_
    | with_reducible refine v_bnd ?_
    | with_reducible refine v_bndv ?_
    | with_reducible refine e_nm ?_
    | with_reducible refine v_nm ?_
    | with_reducible refine e_wr ?_
    | with_reducible refine v_wr ?_
    | with_reducible refine v_cpw ?_
    | with_reducible refine e_cpw ?_
    | with_reducible refine e_some ?_
    | with_reducible refine v_some ?_
    | with_reducible refine e_grd (by first | rfl | (simp [inb, cpok, isB, gh_1, kb_81, s0_0_7, s0_0_15, s0_0_19, s0_0_29, s0_0_48, s0_0_49, s0_0_60, s0_0_61, s0_63_1, s0_64_6, s0_64_7, s0_66_7, s0_66_8, s0_67_8, s0_68_5, s0_79, st_at, cp_row, *]; done) | exact inb_le (by assumption) (by assumption) (by decide) | exact inb_le2 (by assumption) (by assumption) (by decide) | exact inb_addc (by assumption) (by assumption) (by decide) | (refine inb_i ?_ ?_ <;> grind)) ?_
    | with_reducible refine v_grd (by first | rfl | (simp [inb, cpok, isB, gh_1, kb_81, s0_0_7, s0_0_15, s0_0_19, s0_0_29, s0_0_48, s0_0_49, s0_0_60, s0_0_61, s0_63_1, s0_64_6, s0_64_7, s0_66_7, s0_66_8, s0_67_8, s0_68_5, s0_79, st_at, cp_row, *]; done) | exact inb_le (by assumption) (by assumption) (by decide) | exact inb_le2 (by assumption) (by assumption) (by decide) | exact inb_addc (by assumption) (by assumption) (by decide) | (refine inb_i ?_ ?_ <;> grind)) ?_
    | (with_reducible refine e_i (fun h => ?_) (fun h => ?_)) <;> (try simp [gh_1, kb_81, s0_0_7, s0_0_15, s0_0_19, s0_0_29, s0_0_48, s0_0_49, s0_0_60, s0_0_61, s0_63_1, s0_64_6, s0_64_7, s0_66_7, s0_66_8, s0_67_8, s0_68_5, s0_79, st_at, cp_row, *] at h) <;> (try (exfalso; grind; done))
    | (with_reducible refine v_i (fun h => ?_) (fun h => ?_)) <;> (try simp [gh_1, kb_81, s0_0_7, s0_0_15, s0_0_19, s0_0_29, s0_0_48, s0_0_49, s0_0_60, s0_0_61, s0_63_1, s0_64_6, s0_64_7, s0_66_7, s0_66_8, s0_67_8, s0_68_5, s0_79, st_at, cp_row, *] at h) <;> (try (exfalso; grind; done))
    | with_reducible refine e_eq (f_Yard_count.eq_1 _ _) ?_
    | with_reducible refine e_eq (f_Report_ever.eq_1 _ _) ?_
    | with_reducible refine e_eq (f_M_count.eq_1 _ _) ?_
    | with_reducible refine e_eq (f_M_count_j18.eq_1 _ _) ?_
    | with_reducible refine e_eq (f_State_damps.eq_1 _) ?_
    | with_reducible refine e_eq (f_State_running.eq_1 _) ?_
    | with_reducible refine e_eq (f_M_running.eq_1 _) ?_
    | with_reducible refine e_eq (nf_M_running_L4 _ _ _) ?_
    | with_reducible refine e_eq (f_M_running_L4.eq_2 _ _ _ _) ?_
    | with_reducible refine e_eq (f_State_there.eq_1 _) ?_
    | with_reducible refine e_eq (nf_State_there_L4 _ _ _) ?_
    | with_reducible refine e_eq (f_State_there_L4.eq_2 _ _ _ _) ?_
    | with_reducible refine e_eq (nf_M_count_L88 _ _ _) ?_
    | with_reducible refine e_eq (f_M_count_L88.eq_2 _ _ _ _) ?_
    | rfl
    | (simp [gh_1, kb_81, s0_0_7, s0_0_15, s0_0_19, s0_0_29, s0_0_48, s0_0_49, s0_0_60, s0_0_61, s0_63_1, s0_64_6, s0_64_7, s0_66_7, s0_66_8, s0_67_8, s0_68_5, s0_79, st_at, cp_row, *]; done)
    )
set_option maxRecDepth 100000 in
set_option maxHeartbeats 4000000 in
theorem q_39 (a1 : Int32) : Ex2 (f_Yard_trace a1 (gh S0 0)) (fun r S => Ex2 (f_M_trace a1 S) (fun r' _ => r = r')) := by
  repeat' (first
    | with_reducible refine e_bnd ?_
    | with_reducible refine e_bndv ?_
    | with_reducible refine v_bnd ?_
    | with_reducible refine v_bndv ?_
    | with_reducible refine e_nm ?_
    | with_reducible refine v_nm ?_
    | with_reducible refine e_wr ?_
    | with_reducible refine v_wr ?_
    | with_reducible refine v_cpw ?_
    | with_reducible refine e_cpw ?_
    | with_reducible refine e_some ?_
    | with_reducible refine v_some ?_
    | with_reducible refine e_grd (by first | rfl | (simp [inb, cpok, isB, gh_1, kb_81, s0_0_5, s0_62_2, st_at, cp_row, *]; done) | exact inb_le (by assumption) (by assumption) (by decide) | exact inb_le2 (by assumption) (by assumption) (by decide) | exact inb_addc (by assumption) (by assumption) (by decide) | (refine inb_i ?_ ?_ <;> grind)) ?_
    | with_reducible refine v_grd (by first | rfl | (simp [inb, cpok, isB, gh_1, kb_81, s0_0_5, s0_62_2, st_at, cp_row, *]; done) | exact inb_le (by assumption) (by assumption) (by decide) | exact inb_le2 (by assumption) (by assumption) (by decide) | exact inb_addc (by assumption) (by assumption) (by decide) | (refine inb_i ?_ ?_ <;> grind)) ?_
    | (with_reducible refine e_i (fun h => ?_) (fun h => ?_)) <;> (try simp [gh_1, kb_81, s0_0_5, s0_62_2, st_at, cp_row, *] at h) <;> (try (exfalso; grind; done))
    | (with_reducible refine v_i (fun h => ?_) (fun h => ?_)) <;> (try simp [gh_1, kb_81, s0_0_5, s0_62_2, st_at, cp_row, *] at h) <;> (try (exfalso; grind; done))
    | with_reducible refine e_eq (f_Yard_trace.eq_1 _ _) ?_
    | with_reducible refine e_eq (f_M_trace.eq_1 _ _) ?_
    | with_reducible refine e_eq (f_Report_bodyAt.eq_1 _ _) ?_
    | rfl
    | (simp [gh_1, kb_81, s0_0_5, s0_62_2, st_at, cp_row, *]; done)
    )
