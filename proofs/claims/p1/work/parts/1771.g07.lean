set_option maxRecDepth 100000 in
set_option maxHeartbeats 4000000 in
theorem q_28 (a1 : Int32) : Ex2 (f_Yard_rolled a1 (gh S0 0)) (fun r S => Ex2 (f_M_rolled a1 S) (fun r' _ => r = r')) := by
  repeat' (first
    | with_reducible refine e_bnd ?_
    | with_reducible refine e_bndv ?_
    | with_reducible refine v_bnd ?_
    | with_reducible refine v_bndv ?_
    | with_reducible refine e_nm ?_
    | with_reducible refine v_nm ?_
    | with_reducible refine e_wr ?_
    | with_reducible refine v_wr ?_
    | with_reducible refine v_cpw ?_
    | with_reducible refine e_cpw ?_
    | with_reducible refine e_some ?_
    | with_reducible refine v_some ?_
    | with_reducible refine e_grd (by first | rfl | (simp [inb, cpok, isB, gh_1, kb_81, st_at, cp_row, *]; done) | exact inb_le (by assumption) (by assumption) (by decide) | exact inb_addc (by assumption) (by assumption) (by decide) | (refine inb_i ?_ ?_ <;> grind)) ?_
    | with_reducible refine v_grd (by first | rfl | (simp [inb, cpok, isB, gh_1, kb_81, st_at, cp_row, *]; done) | exact inb_le (by assumption) (by assumption) (by decide) | exact inb_addc (by assumption) (by assumption) (by decide) | (refine inb_i ?_ ?_ <;> grind)) ?_
    | (with_reducible refine e_i (fun h => ?_) (fun h => ?_)) <;> (try simp [gh_1, kb_81, st_at, cp_row, *] at h) <;> (try (exfalso; grind; done))
    | (with_reducible refine v_i (fun h => ?_) (fun h => ?_)) <;> (try simp [gh_1, kb_81, st_at, cp_row, *] at h) <;> (try (exfalso; grind; done))
    | with_reducible refine e_eq (f_Yard_rolled.eq_1 _ _) ?_
    | with_reducible refine v_eq (f_Report_begin.eq_1 _) ?_
    | with_reducible refine e_eq (f_Yard_isNot.eq_1 _ _ _ _) ?_
    | with_reducible refine e_eq (f_M_rolled.eq_1 _ _) ?_
    | with_reducible refine v_eq (f_M_begin.eq_1 _) ?_
    | with_reducible refine e_eq (f_Report_found.eq_1 _ _) ?_
    | with_reducible refine e_eq (f_M_rolled_j14.eq_1 _) ?_
    | with_reducible refine e_eq (f_M_found.eq_1 _ _) ?_
    | rfl
    | (simp [gh_1, kb_81, st_at, cp_row, *]; done)
    )
set_option maxRecDepth 100000 in
set_option maxHeartbeats 4000000 in
theorem q_29 (a1 a2 : Int32) : Ex2 (f_Yard_at a1 a2 (gh S0 0)) (fun r S => Ex2 (f_M_at a1 a2 S) (fun r' _ => r = r')) := by
  repeat' (first
    | with_reducible refine e_bnd ?_
    | with_reducible refine e_bndv ?_
    | with_reducible refine v_bnd ?_
    | with_reducible refine v_bndv ?_
    | with_reducible refine e_nm ?_
    | with_reducible refine v_nm ?_
    | with_reducible refine e_wr ?_
    | with_reducible refine v_wr ?_
    | with_reducible refine v_cpw ?_
    | with_reducible refine e_cpw ?_
    | with_reducible refine e_some ?_
    | with_reducible refine v_some ?_
    | with_reducible refine e_grd (by first | rfl | (simp [inb, cpok, isB, gh_1, kb_81, s0_0_7, s0_66_7, st_at, cp_row, *]; done) | exact inb_le (by assumption) (by assumption) (by decide) | exact inb_addc (by assumption) (by assumption) (by decide) | (refine inb_i ?_ ?_ <;> grind)) ?_
    | with_reducible refine v_grd (by first | rfl | (simp [inb, cpok, isB, gh_1, kb_81, s0_0_7, s0_66_7, st_at, cp_row, *]; done) | exact inb_le (by assumption) (by assumption) (by decide) | exact inb_addc (by assumption) (by assumption) (by decide) | (refine inb_i ?_ ?_ <;> grind)) ?_
    | (with_reducible refine e_i (fun h => ?_) (fun h => ?_)) <;> (try simp [gh_1, kb_81, s0_0_7, s0_66_7, st_at, cp_row, *] at h) <;> (try (exfalso; grind; done))
    | (with_reducible refine v_i (fun h => ?_) (fun h => ?_)) <;> (try simp [gh_1, kb_81, s0_0_7, s0_66_7, st_at, cp_row, *] at h) <;> (try (exfalso; grind; done))
    | with_reducible refine e_eq (f_Yard_at.eq_1 _ _ _) ?_
    | with_reducible refine v_eq (f_Report_begin.eq_1 _) ?_
    | with_reducible refine e_eq (f_Layout_placeFinding.eq_1 _ _ _) ?_
    | with_reducible refine e_eq (f_Layout_trackFinding.eq_1 _ _) ?_
    | with_reducible refine e_eq (f_Report_found.eq_1 _ _) ?_
    | with_reducible refine e_eq (f_M_at.eq_1 _ _ _) ?_
    | with_reducible refine v_eq (f_M_begin.eq_1 _) ?_
    | with_reducible refine e_eq (f_M_missPlace.eq_1 _ _ _) ?_
    | with_reducible refine e_eq (f_M_missTrack.eq_1 _ _) ?_
    | with_reducible refine e_eq (f_M_ends.eq_1 _ _) ?_
    | with_reducible refine e_eq (f_M_found.eq_1 _ _) ?_
    | with_reducible refine e_eq (f_M_ends_j10.eq_1 _ _) ?_
    | rfl
    | (simp [gh_1, kb_81, s0_0_7, s0_66_7, st_at, cp_row, *]; done)
    )
set_option maxRecDepth 100000 in
set_option maxHeartbeats 4000000 in
theorem q_30 (a1 a2 : Int32) : Ex2 (f_Yard_thing a1 a2 (gh S0 0)) (fun r S => Ex2 (f_M_thing a1 a2 S) (fun r' _ => r = r')) := by
  repeat' (first
    | with_reducible refine e_bnd ?_
    | with_reducible refine e_bndv ?_
    | with_reducible refine v_bnd ?_
    | with_reducible refine v_bndv ?_
    | with_reducible refine e_nm ?_
    | with_reducible refine v_nm ?_
    | with_reducible refine e_wr ?_
    | with_reducible refine v_wr ?_
    | with_reducible refine v_cpw ?_
    | with_reducible refine e_cpw ?_
    | with_reducible refine e_some ?_
    | with_reducible refine v_some ?_
    | with_reducible refine e_grd (by first | rfl | (simp [inb, cpok, isB, gh_1, kb_81, s0_0_29, s0_23, s0_63_1, st_at, cp_row, *]; done) | exact inb_le (by assumption) (by assumption) (by decide) | exact inb_addc (by assumption) (by assumption) (by decide) | (refine inb_i ?_ ?_ <;> grind)) ?_
    | with_reducible refine v_grd (by first | rfl | (simp [inb, cpok, isB, gh_1, kb_81, s0_0_29, s0_23, s0_63_1, st_at, cp_row, *]; done) | exact inb_le (by assumption) (by assumption) (by decide) | exact inb_addc (by assumption) (by assumption) (by decide) | (refine inb_i ?_ ?_ <;> grind)) ?_
    | (with_reducible refine e_i (fun h => ?_) (fun h => ?_)) <;> (try simp [gh_1, kb_81, s0_0_29, s0_23, s0_63_1, st_at, cp_row, *] at h) <;> (try (exfalso; grind; done))
    | (with_reducible refine v_i (fun h => ?_) (fun h => ?_)) <;> (try simp [gh_1, kb_81, s0_0_29, s0_23, s0_63_1, st_at, cp_row, *] at h) <;> (try (exfalso; grind; done))
    | with_reducible refine e_eq (f_Yard_thing.eq_1 _ _ _) ?_
    | with_reducible refine e_eq (f_Yard_isNot.eq_1 _ _ _ _) ?_
    | with_reducible refine v_eq (f_Report_begin.eq_1 _) ?_
    | with_reducible refine e_eq (f_Yard_named.eq_1 _ _ _) ?_
    | with_reducible refine e_eq (f_Report_found.eq_1 _ _) ?_
    | with_reducible refine e_eq (f_M_thing.eq_1 _ _ _) ?_
    | with_reducible refine v_eq (f_M_begin.eq_1 _) ?_
    | with_reducible refine e_eq (f_M_missThing.eq_1 _ _ _) ?_
    | with_reducible refine e_eq (f_M_ends.eq_1 _ _) ?_
    | with_reducible refine e_eq (f_M_found.eq_1 _ _) ?_
    | with_reducible refine e_eq (f_M_ends_j10.eq_1 _ _) ?_
    | rfl
    | (simp [gh_1, kb_81, s0_0_29, s0_23, s0_63_1, st_at, cp_row, *]; done)
    )
set_option maxRecDepth 100000 in
set_option maxHeartbeats 4000000 in
theorem q_31 (a1 a2 : Int32) : Ex2 (f_Yard_pointed a1 a2 (gh S0 0)) (fun r S => Ex2 (f_M_pointed a1 a2 S) (fun r' _ => r = r')) := by
  repeat' (first
    | with_reducible refine e_bnd ?_
    | with_reducible refine e_bndv ?_
    | with_reducible refine v_bnd ?_
    | with_reducible refine v_bndv ?_
    | with_reducible refine e_nm ?_
    | with_reducible refine v_nm ?_
    | with_reducible refine e_wr ?_
    | with_reducible refine v_wr ?_
    | with_reducible refine v_cpw ?_
    | with_reducible refine e_cpw ?_
    | with_reducible refine e_some ?_
    | with_reducible refine v_some ?_
    | with_reducible refine e_grd (by first | rfl | (simp [inb, cpok, isB, gh_1, kb_81, s0_0_15, s0_6, s0_66_8, st_at, cp_row, *]; done) | exact inb_le (by assumption) (by assumption) (by decide) | exact inb_addc (by assumption) (by assumption) (by decide) | (refine inb_i ?_ ?_ <;> grind)) ?_
    | with_reducible refine v_grd (by first | rfl | (simp [inb, cpok, isB, gh_1, kb_81, s0_0_15, s0_6, s0_66_8, st_at, cp_row, *]; done) | exact inb_le (by assumption) (by assumption) (by decide) | exact inb_addc (by assumption) (by assumption) (by decide) | (refine inb_i ?_ ?_ <;> grind)) ?_
    | (with_reducible refine e_i (fun h => ?_) (fun h => ?_)) <;> (try simp [gh_1, kb_81, s0_0_15, s0_6, s0_66_8, st_at, cp_row, *] at h) <;> (try (exfalso; grind; done))
    | (with_reducible refine v_i (fun h => ?_) (fun h => ?_)) <;> (try simp [gh_1, kb_81, s0_0_15, s0_6, s0_66_8, st_at, cp_row, *] at h) <;> (try (exfalso; grind; done))
    | with_reducible refine e_eq (f_Yard_pointed.eq_1 _ _ _) ?_
    | with_reducible refine e_eq (f_Yard_isNot.eq_1 _ _ _ _) ?_
    | with_reducible refine e_eq (f_M_pointed.eq_1 _ _ _) ?_
    | with_reducible refine v_eq (f_Report_begin.eq_1 _) ?_
    | with_reducible refine e_eq (f_Layout_pointFinding.eq_1 _ _) ?_
    | with_reducible refine e_eq (f_Report_found.eq_1 _ _) ?_
    | with_reducible refine v_eq (f_M_begin.eq_1 _) ?_
    | with_reducible refine e_eq (f_M_missPoint.eq_1 _ _) ?_
    | with_reducible refine e_eq (f_M_ends.eq_1 _ _) ?_
    | with_reducible refine e_eq (f_M_found.eq_1 _ _) ?_
    | with_reducible refine e_eq (f_M_ends_j10.eq_1 _ _) ?_
    | rfl
    | (simp [gh_1, kb_81, s0_0_15, s0_6, s0_66_8, st_at, cp_row, *]; done)
    )
set_option maxRecDepth 100000 in
set_option maxHeartbeats 4000000 in
theorem q_32 (a1 a2 : Int32) : Ex2 (f_Yard_ask a1 a2 (gh S0 0)) (fun r S => Ex2 (f_M_ask a1 a2 S) (fun r' _ => r = r')) := by
  repeat' (first
    | with_reducible refine e_bnd ?_
    | with_reducible refine e_bndv ?_
    | with_reducible refine v_bnd ?_
    | with_reducible refine v_bndv ?_
    | with_reducible refine e_nm ?_
    | with_reducible refine v_nm ?_
    | with_reducible refine e_wr ?_
    | with_reducible refine v_wr ?_
    | with_reducible refine v_cpw ?_
    | with_reducible refine e_cpw ?_
    | with_reducible refine e_some ?_
    | with_reducible refine v_some ?_
    | with_reducible refine e_grd (by first | rfl | (simp [inb, cpok, isB, gh_1, kb_81, s0_0_29, s0_0_54, s0_63_1, st_at, cp_row, *]; done) | exact inb_le (by assumption) (by assumption) (by decide) | exact inb_addc (by assumption) (by assumption) (by decide) | (refine inb_i ?_ ?_ <;> grind)) ?_
    | with_reducible refine v_grd (by first | rfl | (simp [inb, cpok, isB, gh_1, kb_81, s0_0_29, s0_0_54, s0_63_1, st_at, cp_row, *]; done) | exact inb_le (by assumption) (by assumption) (by decide) | exact inb_addc (by assumption) (by assumption) (by decide) | (refine inb_i ?_ ?_ <;> grind)) ?_
    | (with_reducible refine e_i (fun h => ?_) (fun h => ?_)) <;> (try simp [gh_1, kb_81, s0_0_29, s0_0_54, s0_63_1, st_at, cp_row, *] at h) <;> (try (exfalso; grind; done))
    | (with_reducible refine v_i (fun h => ?_) (fun h => ?_)) <;> (try simp [gh_1, kb_81, s0_0_29, s0_0_54, s0_63_1, st_at, cp_row, *] at h) <;> (try (exfalso; grind; done))
    | with_reducible refine e_eq (f_Yard_ask.eq_1 _ _ _) ?_
    | with_reducible refine e_eq (f_Yard_isNot.eq_1 _ _ _ _) ?_
    | with_reducible refine v_eq (f_Report_begin.eq_1 _) ?_
    | with_reducible refine e_eq (f_Yard_wantedFor.eq_1 _ _) ?_
    | with_reducible refine e_eq (f_Yard_named.eq_1 _ _ _) ?_
    | with_reducible refine e_eq (f_Yard_ask_j55.eq_1 _ _ _ _) ?_
    | with_reducible refine e_eq (f_Report_found.eq_1 _ _) ?_
    | with_reducible refine e_eq (f_M_ask.eq_1 _ _ _) ?_
    | with_reducible refine v_eq (f_M_begin.eq_1 _) ?_
    | with_reducible refine e_eq (f_M_ask_j55.eq_1 _ _ _ _) ?_
    | with_reducible refine e_eq (f_M_missThing.eq_1 _ _ _) ?_
    | with_reducible refine e_eq (f_M_ends.eq_1 _ _) ?_
    | with_reducible refine e_eq (f_M_found.eq_1 _ _) ?_
    | with_reducible refine e_eq (f_M_ends_j10.eq_1 _ _) ?_
    | rfl
    | (simp [gh_1, kb_81, s0_0_29, s0_0_54, s0_63_1, st_at, cp_row, *]; done)
    )
set_option maxRecDepth 100000 in
set_option maxHeartbeats 4000000 in
theorem q_33 (a1 a2 a3 : Int32) : Ex2 (f_Yard_meet a1 a2 a3 (gh S0 0)) (fun r S => Ex2 (f_M_meet a1 a2 a3 S) (fun r' _ => r = r')) := by
  repeat' (first
    | with_reducible refine e_bnd ?_
    | with_reducible refine e_bndv ?_
    | with_reducible refine v_bnd ?_
    | with_reducible refine v_bndv ?_
    | with_reducible refine e_nm ?_
    | with_reducible refine v_nm ?_
    | with_reducible refine e_wr ?_
    | with_reducible refine v_wr ?_
    | with_reducible refine v_cpw ?_
    | with_reducible refine e_cpw ?_
    | with_reducible refine e_some ?_
    | with_reducible refine v_some ?_
    | with_reducible refine e_grd (by first | rfl | (simp [inb, cpok, isB, gh_1, kb_81, s0_0_29, s0_63_1, st_at, cp_row, *]; done) | exact inb_le (by assumption) (by assumption) (by decide) | exact inb_addc (by assumption) (by assumption) (by decide) | (refine inb_i ?_ ?_ <;> grind)) ?_
    | with_reducible refine v_grd (by first | rfl | (simp [inb, cpok, isB, gh_1, kb_81, s0_0_29, s0_63_1, st_at, cp_row, *]; done) | exact inb_le (by assumption) (by assumption) (by decide) | exact inb_addc (by assumption) (by assumption) (by decide) | (refine inb_i ?_ ?_ <;> grind)) ?_
    | (with_reducible refine e_i (fun h => ?_) (fun h => ?_)) <;> (try simp [gh_1, kb_81, s0_0_29, s0_63_1, st_at, cp_row, *] at h) <;> (try (exfalso; grind; done))
    | (with_reducible refine v_i (fun h => ?_) (fun h => ?_)) <;> (try simp [gh_1, kb_81, s0_0_29, s0_63_1, st_at, cp_row, *] at h) <;> (try (exfalso; grind; done))
    | with_reducible refine e_eq (f_Yard_meet.eq_1 _ _ _ _) ?_
    | with_reducible refine e_eq (f_Yard_isNot.eq_1 _ _ _ _) ?_
    | with_reducible refine v_eq (f_Report_begin.eq_1 _) ?_
    | with_reducible refine e_eq (f_Yard_namedSide.eq_1 _ _ _ _) ?_
    | with_reducible refine e_eq (f_Yard_named.eq_1 _ _ _) ?_
    | with_reducible refine e_eq (f_Report_found.eq_1 _ _) ?_
    | with_reducible refine e_eq (f_M_meet.eq_1 _ _ _ _) ?_
    | with_reducible refine v_eq (f_M_begin.eq_1 _) ?_
    | with_reducible refine e_eq (f_M_missSide.eq_1 _ _ _ _) ?_
    | with_reducible refine e_eq (f_M_missThing.eq_1 _ _ _) ?_
    | with_reducible refine e_eq (f_M_ends.eq_1 _ _) ?_
    | with_reducible refine e_eq (f_M_found.eq_1 _ _) ?_
    | with_reducible refine e_eq (f_M_ends_j10.eq_1 _ _) ?_
    | rfl
    | (simp [gh_1, kb_81, s0_0_29, s0_63_1, st_at, cp_row, *]; done)
    )
