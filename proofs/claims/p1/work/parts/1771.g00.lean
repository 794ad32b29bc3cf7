set_option maxRecDepth 100000 in
set_option maxHeartbeats 4000000 in
theorem q_0 (a1 : Int32) : Ex2 (f_Yard_track a1 (gh S0 0)) (fun r S => Ex2 (f_M_track a1 S) (fun r' _ => r = r')) := by
  repeat' (first
    | with_reducible refine e_bnd ?_
    | with_reducible refine e_bndv ?_
    | with_reducible refine v_bnd ?_
    | with_reducible refine v_bndv ?_
    | with_reducible refine e_nm ?_
    | with_reducible refine v_nm ?_
    | with_reducible refine e_wr ?_
    | with_reducible refine v_wr ?_
    | with_reducible refine v_cpw ?_
    | with_reducible refine e_cpw ?_
    | with_reducible refine e_some ?_
    | with_reducible refine v_some ?_
    | with_reducible refine e_grd (by first | rfl | (simp [inb, cpok, isB, gh_1, kb_81, s0_0_7, s0_66_7, st_at, cp_row, *]; done) | exact inb_le (by assumption) (by assumption) (by decide) | exact inb_addc (by assumption) (by assumption) (by decide) | (refine inb_i ?_ ?_ <;> grind)) ?_
    | with_reducible refine v_grd (by first | rfl | (simp [inb, cpok, isB, gh_1, kb_81, s0_0_7, s0_66_7, st_at, cp_row, *]; done) | exact inb_le (by assumption) (by assumption) (by decide) | exact inb_addc (by assumption) (by assumption) (by decide) | (refine inb_i ?_ ?_ <;> grind)) ?_
    | (with_reducible refine e_i (fun h => ?_) (fun h => ?_)) <;> (try simp [gh_1, kb_81, s0_0_7, s0_66_7, st_at, cp_row, *] at h) <;> (try (exfalso; grind; done))
    | (with_reducible refine v_i (fun h => ?_) (fun h => ?_)) <;> (try simp [gh_1, kb_81, s0_0_7, s0_66_7, st_at, cp_row, *] at h) <;> (try (exfalso; grind; done))
    | with_reducible refine e_eq (f_Yard_track.eq_1 _ _) ?_
    | with_reducible refine e_eq (f_M_track.eq_1 _ _) ?_
    | with_reducible refine v_eq (f_Report_begin.eq_1 _) ?_
    | with_reducible refine v_eq (f_History_forget.eq_1 _) ?_
    | with_reducible refine e_eq (f_Layout_addTrack.eq_1 _ _) ?_
    | with_reducible refine v_eq (f_M_begin.eq_1 _) ?_
    | with_reducible refine v_eq (f_M_forget.eq_1 _) ?_
    | with_reducible refine e_eq (f_Report_found.eq_1 _ _) ?_
    | with_reducible refine e_eq (f_M_found.eq_1 _ _) ?_
    | rfl
    | (simp [gh_1, kb_81, s0_0_7, s0_66_7, st_at, cp_row, *]; done)
    )
set_option maxRecDepth 100000 in
set_option maxHeartbeats 4000000 in
theorem q_1 (a1 a2 : Int32) : Ex2 (f_Yard_point a1 a2 (gh S0 0)) (fun r S => Ex2 (f_M_point a1 a2 S) (fun r' _ => r = r')) := by
  repeat' (first
    | with_reducible refine e_bnd ?_
    | with_reducible refine e_bndv ?_
    | with_reducible refine v_bnd ?_
    | with_reducible refine v_bndv ?_
    | with_reducible refine e_nm ?_
    | with_reducible refine v_nm ?_
    | with_reducible refine e_wr ?_
    | with_reducible refine v_wr ?_
    | with_reducible refine v_cpw ?_
    | with_reducible refine e_cpw ?_
    | with_reducible refine e_some ?_
    | with_reducible refine v_some ?_
    | with_reducible refine e_grd (by first | rfl | (simp [inb, cpok, isB, gh_1, kb_81, s0_0_7, s0_0_15, s0_5, s0_66_7, s0_66_8, st_at, cp_row, *]; done) | exact inb_le (by assumption) (by assumption) (by decide) | exact inb_addc (by assumption) (by assumption) (by decide) | (refine inb_i ?_ ?_ <;> grind)) ?_
    | with_reducible refine v_grd (by first | rfl | (simp [inb, cpok, isB, gh_1, kb_81, s0_0_7, s0_0_15, s0_5, s0_66_7, s0_66_8, st_at, cp_row, *]; done) | exact inb_le (by assumption) (by assumption) (by decide) | exact inb_addc (by assumption) (by assumption) (by decide) | (refine inb_i ?_ ?_ <;> grind)) ?_
    | (with_reducible refine e_i (fun h => ?_) (fun h => ?_)) <;> (try simp [gh_1, kb_81, s0_0_7, s0_0_15, s0_5, s0_66_7, s0_66_8, st_at, cp_row, *] at h) <;> (try (exfalso; grind; done))
    | (with_reducible refine v_i (fun h => ?_) (fun h => ?_)) <;> (try simp [gh_1, kb_81, s0_0_7, s0_0_15, s0_5, s0_66_7, s0_66_8, st_at, cp_row, *] at h) <;> (try (exfalso; grind; done))
    | with_reducible refine e_eq (f_Yard_point.eq_1 _ _ _) ?_
    | with_reducible refine e_eq (f_Yard_isNot.eq_1 _ _ _ _) ?_
    | with_reducible refine e_eq (f_M_point.eq_1 _ _ _) ?_
    | with_reducible refine e_eq (f_M_isSide.eq_1 _ _) ?_
    | with_reducible refine v_eq (f_Report_begin.eq_1 _) ?_
    | with_reducible refine e_eq (f_Layout_trackFinding.eq_1 _ _) ?_
    | with_reducible refine e_eq (f_Yard_point_j66.eq_1 _ _ _ _) ?_
    | with_reducible refine e_eq (f_Report_found.eq_1 _ _) ?_
    | with_reducible refine v_eq (f_M_begin.eq_1 _) ?_
    | with_reducible refine e_eq (f_M_missTrack.eq_1 _ _) ?_
    | with_reducible refine e_eq (f_M_ends.eq_1 _ _) ?_
    | with_reducible refine e_eq (f_M_found.eq_1 _ _) ?_
    | with_reducible refine e_eq (f_M_ends_j10.eq_1 _ _) ?_
    | rfl
    | (simp [gh_1, kb_81, s0_0_7, s0_0_15, s0_5, s0_66_7, s0_66_8, st_at, cp_row, *]; done)
    )
set_option maxRecDepth 100000 in
set_option maxHeartbeats 4000000 in
theorem q_2 (a1 a2 a3 a4 : Int32) : Ex2 (f_Yard_link a1 a2 a3 a4 (gh S0 0)) (fun r S => Ex2 (f_M_link a1 a2 a3 a4 S) (fun r' _ => r = r')) := by
  repeat' (first
    | with_reducible refine e_bnd ?_
    | with_reducible refine e_bndv ?_
    | with_reducible refine v_bnd ?_
    | with_reducible refine v_bndv ?_
    | with_reducible refine e_nm ?_
    | with_reducible refine v_nm ?_
    | with_reducible refine e_wr ?_
    | with_reducible refine v_wr ?_
    | with_reducible refine v_cpw ?_
    | with_reducible refine e_cpw ?_
    | with_reducible refine e_some ?_
    | with_reducible refine v_some ?_
    | with_reducible refine e_grd (by first | rfl | (simp [inb, cpok, isB, gh_1, kb_81, s0_0_7, s0_66_7, st_at, cp_row, *]; done) | exact inb_le (by assumption) (by assumption) (by decide) | exact inb_addc (by assumption) (by assumption) (by decide) | (refine inb_i ?_ ?_ <;> grind)) ?_
    | with_reducible refine v_grd (by first | rfl | (simp [inb, cpok, isB, gh_1, kb_81, s0_0_7, s0_66_7, st_at, cp_row, *]; done) | exact inb_le (by assumption) (by assumption) (by decide) | exact inb_addc (by assumption) (by assumption) (by decide) | (refine inb_i ?_ ?_ <;> grind)) ?_
    | (with_reducible refine e_i (fun h => ?_) (fun h => ?_)) <;> (try simp [gh_1, kb_81, s0_0_7, s0_66_7, st_at, cp_row, *] at h) <;> (try (exfalso; grind; done))
    | (with_reducible refine v_i (fun h => ?_) (fun h => ?_)) <;> (try simp [gh_1, kb_81, s0_0_7, s0_66_7, st_at, cp_row, *] at h) <;> (try (exfalso; grind; done))
    | with_reducible refine e_eq (f_Yard_link.eq_1 _ _ _ _ _) ?_
    | with_reducible refine e_eq (f_Yard_isNot.eq_1 _ _ _ _) ?_
    | with_reducible refine e_eq (f_M_link.eq_1 _ _ _ _ _) ?_
    | with_reducible refine e_eq (f_M_isSide.eq_1 _ _) ?_
    | with_reducible refine v_eq (f_Report_begin.eq_1 _) ?_
    | with_reducible refine e_eq (f_Layout_trackFinding.eq_1 _ _) ?_
    | with_reducible refine e_eq (f_Yard_link_j53.eq_1 _ _ _ _ _ _) ?_
    | with_reducible refine e_eq (f_Yard_link_j83.eq_1 _ _ _ _ _ _) ?_
    | with_reducible refine e_eq (f_Report_found.eq_1 _ _) ?_
    | with_reducible refine v_eq (f_M_begin.eq_1 _) ?_
    | with_reducible refine e_eq (f_M_missTrack.eq_1 _ _) ?_
    | with_reducible refine e_eq (f_M_ends.eq_1 _ _) ?_
    | with_reducible refine e_eq (f_M_found.eq_1 _ _) ?_
    | with_reducible refine e_eq (f_M_ends_j10.eq_1 _ _) ?_
    | rfl
    | (simp [gh_1, kb_81, s0_0_7, s0_66_7, st_at, cp_row, *]; done)
    )
set_option maxRecDepth 100000 in
set_option maxHeartbeats 4000000 in
theorem q_3 (a1 a2 a3 : Int32) : Ex2 (f_Yard_exit a1 a2 a3 (gh S0 0)) (fun r S => Ex2 (f_M_exit a1 a2 a3 S) (fun r' _ => r = r')) := by
  repeat' (first
    | with_reducible refine e_bnd ?_
    | with_reducible refine e_bndv ?_
    | with_reducible refine v_bnd ?_
    | with_reducible refine v_bndv ?_
    | with_reducible refine e_nm ?_
    | with_reducible refine v_nm ?_
    | with_reducible refine e_wr ?_
    | with_reducible refine v_wr ?_
    | with_reducible refine v_cpw ?_
    | with_reducible refine e_cpw ?_
    | with_reducible refine e_some ?_
    | with_reducible refine v_some ?_
    | with_reducible refine e_grd (by first | rfl | (simp [inb, cpok, isB, gh_1, kb_81, s0_0_7, s0_4, s0_66_7, st_at, cp_row, *]; done) | exact inb_le (by assumption) (by assumption) (by decide) | exact inb_addc (by assumption) (by assumption) (by decide) | (refine inb_i ?_ ?_ <;> grind)) ?_
    | with_reducible refine v_grd (by first | rfl | (simp [inb, cpok, isB, gh_1, kb_81, s0_0_7, s0_4, s0_66_7, st_at, cp_row, *]; done) | exact inb_le (by assumption) (by assumption) (by decide) | exact inb_addc (by assumption) (by assumption) (by decide) | (refine inb_i ?_ ?_ <;> grind)) ?_
    | (with_reducible refine e_i (fun h => ?_) (fun h => ?_)) <;> (try simp [gh_1, kb_81, s0_0_7, s0_4, s0_66_7, st_at, cp_row, *] at h) <;> (try (exfalso; grind; done))
    | (with_reducible refine v_i (fun h => ?_) (fun h => ?_)) <;> (try simp [gh_1, kb_81, s0_0_7, s0_4, s0_66_7, st_at, cp_row, *] at h) <;> (try (exfalso; grind; done))
    | with_reducible refine e_eq (f_Yard_exit.eq_1 _ _ _ _) ?_
    | with_reducible refine e_eq (f_Yard_isNot.eq_1 _ _ _ _) ?_
    | with_reducible refine e_eq (f_M_exit.eq_1 _ _ _ _) ?_
    | with_reducible refine e_eq (f_M_isSide.eq_1 _ _) ?_
    | with_reducible refine v_eq (f_Report_begin.eq_1 _) ?_
    | with_reducible refine e_eq (f_Layout_trackFinding.eq_1 _ _) ?_
    | with_reducible refine e_eq (f_Report_found.eq_1 _ _) ?_
    | with_reducible refine v_eq (f_M_begin.eq_1 _) ?_
    | with_reducible refine e_eq (f_M_missTrack.eq_1 _ _) ?_
    | with_reducible refine e_eq (f_M_ends.eq_1 _ _) ?_
    | with_reducible refine e_eq (f_M_found.eq_1 _ _) ?_
    | with_reducible refine e_eq (f_M_ends_j10.eq_1 _ _) ?_
    | rfl
    | (simp [gh_1, kb_81, s0_0_7, s0_4, s0_66_7, st_at, cp_row, *]; done)
    )
set_option maxRecDepth 100000 in
set_option maxHeartbeats 4000000 in
theorem q_4 (a1 a2 a3 a4 a5 : Int32) : Ex2 (f_Yard_wagon a1 a2 a3 a4 a5 (gh S0 0)) (fun r S => Ex2 (f_M_wagon a1 a2 a3 a4 a5 S) (fun r' _ => r = r')) := by
  repeat' (first
    | with_reducible refine e_bnd ?_
    | with_reducible refine e_bndv ?_
    | with_reducible refine v_bnd ?_
    | with_reducible refine v_bndv ?_
    | with_reducible refine e_nm ?_
    | with_reducible refine v_nm ?_
    | with_reducible refine e_wr ?_
    | with_reducible refine v_wr ?_
    | with_reducible refine v_cpw ?_
    | with_reducible refine e_cpw ?_
    | with_reducible refine e_some ?_
    | with_reducible refine v_some ?_
    | with_reducible refine e_grd (by first | rfl | (simp [inb, cpok, isB, gh_1, kb_81, s0_0_7, s0_0_29, s0_63_1, s0_66_7, st_at, cp_row, *]; done) | exact inb_le (by assumption) (by assumption) (by decide) | exact inb_addc (by assumption) (by assumption) (by decide) | (refine inb_i ?_ ?_ <;> grind)) ?_
    | with_reducible refine v_grd (by first | rfl | (simp [inb, cpok, isB, gh_1, kb_81, s0_0_7, s0_0_29, s0_63_1, s0_66_7, st_at, cp_row, *]; done) | exact inb_le (by assumption) (by assumption) (by decide) | exact inb_addc (by assumption) (by assumption) (by decide) | (refine inb_i ?_ ?_ <;> grind)) ?_
    | (with_reducible refine e_i (fun h => ?_) (fun h => ?_)) <;> (try simp [gh_1, kb_81, s0_0_7, s0_0_29, s0_63_1, s0_66_7, st_at, cp_row, *] at h) <;> (try (exfalso; grind; done))
    | (with_reducible refine v_i (fun h => ?_) (fun h => ?_)) <;> (try simp [gh_1, kb_81, s0_0_7, s0_0_29, s0_63_1, s0_66_7, st_at, cp_row, *] at h) <;> (try (exfalso; grind; done))
    | with_reducible refine e_eq (f_Yard_wagon.eq_1 _ _ _ _ _ _) ?_
    | with_reducible refine e_eq (f_Yard_isNot.eq_1 _ _ _ _) ?_
    | with_reducible refine e_eq (f_Yard_standNew.eq_1 _ _ _ _ _ _) ?_
    | with_reducible refine v_eq (f_Report_begin.eq_1 _) ?_
    | with_reducible refine e_eq (f_Layout_placeFinding.eq_1 _ _ _) ?_
    | with_reducible refine e_eq (f_Layout_trackFinding.eq_1 _ _) ?_
    | with_reducible refine e_eq (f_Yard_standNew_j59.eq_1 _ _ _ _ _ _ _) ?_
    | with_reducible refine e_eq (f_Report_found.eq_1 _ _) ?_
    | with_reducible refine e_eq (f_M_wagon.eq_1 _ _ _ _ _ _) ?_
    | with_reducible refine v_eq (f_M_begin.eq_1 _) ?_
    | with_reducible refine e_eq (f_M_missFree.eq_1 _ _ _) ?_
    | with_reducible refine e_eq (f_M_missPlace.eq_1 _ _ _) ?_
    | with_reducible refine e_eq (f_M_missTrack.eq_1 _ _) ?_
    | with_reducible refine e_eq (f_M_ends.eq_1 _ _) ?_
    | with_reducible refine e_eq (f_M_found.eq_1 _ _) ?_
    | with_reducible refine e_eq (f_M_ends_j10.eq_1 _ _) ?_
    | rfl
    | (simp [gh_1, kb_81, s0_0_7, s0_0_29, s0_63_1, s0_66_7, st_at, cp_row, *]; done)
    )
set_option maxRecDepth 100000 in
set_option maxHeartbeats 4000000 in
theorem q_5 (a1 a2 a3 a4 : Int32) : Ex2 (f_Yard_engine a1 a2 a3 a4 (gh S0 0)) (fun r S => Ex2 (f_M_engine a1 a2 a3 a4 S) (fun r' _ => r = r')) := by
  repeat' (first
    | with_reducible refine e_bnd ?_
    | with_reducible refine e_bndv ?_
    | with_reducible refine v_bnd ?_
    | with_reducible refine v_bndv ?_
    | with_reducible refine e_nm ?_
    | with_reducible refine v_nm ?_
    | with_reducible refine e_wr ?_
    | with_reducible refine v_wr ?_
    | with_reducible refine v_cpw ?_
    | with_reducible refine e_cpw ?_
    | with_reducible refine e_some ?_
    | with_reducible refine v_some ?_
    | with_reducible refine e_grd (by first | rfl | (simp [inb, cpok, isB, gh_1, kb_81, s0_0_7, s0_0_29, s0_63_1, s0_66_7, st_at, cp_row, *]; done) | exact inb_le (by assumption) (by assumption) (by decide) | exact inb_addc (by assumption) (by assumption) (by decide) | (refine inb_i ?_ ?_ <;> grind)) ?_
    | with_reducible refine v_grd (by first | rfl | (simp [inb, cpok, isB, gh_1, kb_81, s0_0_7, s0_0_29, s0_63_1, s0_66_7, st_at, cp_row, *]; done) | exact inb_le (by assumption) (by assumption) (by decide) | exact inb_addc (by assumption) (by assumption) (by decide) | (refine inb_i ?_ ?_ <;> grind)) ?_
    | (with_reducible refine e_i (fun h => ?_) (fun h => ?_)) <;> (try simp [gh_1, kb_81, s0_0_7, s0_0_29, s0_63_1, s0_66_7, st_at, cp_row, *] at h) <;> (try (exfalso; grind; done))
    | (with_reducible refine v_i (fun h => ?_) (fun h => ?_)) <;> (try simp [gh_1, kb_81, s0_0_7, s0_0_29, s0_63_1, s0_66_7, st_at, cp_row, *] at h) <;> (try (exfalso; grind; done))
    | with_reducible refine e_eq (f_Yard_engine.eq_1 _ _ _ _ _) ?_
    | with_reducible refine e_eq (f_Yard_isNot.eq_1 _ _ _ _) ?_
    | with_reducible refine e_eq (f_Yard_engine_j26.eq_1 _ _ _ _ _ _) ?_
    | with_reducible refine e_eq (f_Yard_standNew.eq_1 _ _ _ _ _ _) ?_
    | with_reducible refine v_eq (f_Report_begin.eq_1 _) ?_
    | with_reducible refine e_eq (f_Layout_placeFinding.eq_1 _ _ _) ?_
    | with_reducible refine e_eq (f_Layout_trackFinding.eq_1 _ _) ?_
    | with_reducible refine e_eq (f_Yard_standNew_j59.eq_1 _ _ _ _ _ _ _) ?_
    | with_reducible refine e_eq (f_Report_found.eq_1 _ _) ?_
    | with_reducible refine e_eq (f_M_engine.eq_1 _ _ _ _ _) ?_
    | with_reducible refine v_eq (f_M_begin.eq_1 _) ?_
    | with_reducible refine e_eq (f_M_missFree.eq_1 _ _ _) ?_
    | with_reducible refine e_eq (f_M_missPlace.eq_1 _ _ _) ?_
    | with_reducible refine e_eq (f_M_missTrack.eq_1 _ _) ?_
    | with_reducible refine e_eq (f_M_ends.eq_1 _ _) ?_
    | with_reducible refine e_eq (f_M_found.eq_1 _ _) ?_
    | with_reducible refine e_eq (f_M_ends_j10.eq_1 _ _) ?_
    | rfl
    | (simp [gh_1, kb_81, s0_0_7, s0_0_29, s0_63_1, s0_66_7, st_at, cp_row, *]; done)
    )
set_option maxRecDepth 100000 in
set_option maxHeartbeats 4000000 in
theorem q_6 (a1 a2 a3 : Int32) : Ex2 (f_Yard_bar a1 a2 a3 (gh S0 0)) (fun r S => Ex2 (f_M_bar a1 a2 a3 S) (fun r' _ => r = r')) := by
  repeat' (first
    | with_reducible refine e_bnd ?_
    | with_reducible refine e_bndv ?_
    | with_reducible refine v_bnd ?_
    | with_reducible refine v_bndv ?_
    | with_reducible refine e_nm ?_
    | with_reducible refine v_nm ?_
    | with_reducible refine e_wr ?_
    | with_reducible refine v_wr ?_
    | with_reducible refine v_cpw ?_
    | with_reducible refine e_cpw ?_
    | with_reducible refine e_some ?_
    | with_reducible refine v_some ?_
    | with_reducible refine e_grd (inb10 (by assumption) (by assumption) (by assumption) (by assumption)) ?_
    | with_reducible refine e_grd (by first | rfl | (simp [inb, cpok, isB, gh_1, kb_81, s0_16, s0_105, st_at, cp_row, *]; done) | exact inb_le (by assumption) (by assumption) (by decide) | exact inb_addc (by assumption) (by assumption) (by decide) | (refine inb_i ?_ ?_ <;> grind)) ?_
    | with_reducible refine v_grd (by first | rfl | (simp [inb, cpok, isB, gh_1, kb_81, s0_16, s0_105, st_at, cp_row, *]; done) | exact inb_le (by assumption) (by assumption) (by decide) | exact inb_addc (by assumption) (by assumption) (by decide) | (refine inb_i ?_ ?_ <;> grind)) ?_
    | (with_reducible refine e_i (fun h => ?_) (fun h => ?_)) <;> (try simp [gh_1, kb_81, s0_16, s0_105, st_at, cp_row, *] at h) <;> (try (exfalso; grind; done))
    | (with_reducible refine v_i (fun h => ?_) (fun h => ?_)) <;> (try simp [gh_1, kb_81, s0_16, s0_105, st_at, cp_row, *] at h) <;> (try (exfalso; grind; done))
    | with_reducible refine e_eq (f_Yard_bar.eq_1 _ _ _ _) ?_
    | with_reducible refine e_eq (f_Yard_isNot.eq_1 _ _ _ _) ?_
    | with_reducible refine v_eq (f_History_forget.eq_1 _) ?_
    | with_reducible refine e_eq (f_Bodies_setBarred.eq_1 _ _ _ _) ?_
    | with_reducible refine e_eq (f_Bodies_isBarred.eq_1 _ _ _) ?_
    | with_reducible refine e_eq (f_M_bar.eq_1 _ _ _ _) ?_
    | with_reducible refine e_eq (f_M_bar_j41.eq_1 _ _ _ _ _) ?_
    | with_reducible refine v_eq (f_M_forget.eq_1 _) ?_
    | rfl
    | (simp [gh_1, kb_81, s0_16, s0_105, st_at, cp_row, *]; done)
    )
