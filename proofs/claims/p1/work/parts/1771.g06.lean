set_option maxRecDepth 100000 in
set_option maxHeartbeats 4000000 in
theorem q_24 (a1 : Int32) : Ex2 (f_Yard_test a1 (gh S0 0)) (fun r S => Ex2 (f_M_test a1 S) (fun r' _ => r = r')) := by
  repeat' (first
    | with_reducible refine e_bnd ?_
    | with_reducible refine e_bndv ?_
    | with_reducible refine v_bnd ?_
    | with_reducible refine v_bndv ?_
    | with_reducible refine e_nm ?_
    | with_reducible refine v_nm ?_
    | with_reducible refine e_wr ?_
    | with_reducible refine v_wr ?_
    | with_reducible refine v_cpw ?_
    | with_reducible refine e_cpw ?_
    | with_reducible refine e_some ?_
    | with_reducible refine v_some ?_
    | with_reducible refine e_grd (by first | rfl | (simp [inb, cpok, isB, gh_1, kb_81, s0_0_29, s0_0_48, s0_0_60, s0_0_62, s0_23, s0_63_1, s0_64_3, s0_64_4, s0_64_5, s0_64_6, st_at, cp_row, *]; done) | exact inb_le (by assumption) (by assumption) (by decide) | exact inb_addc (by assumption) (by assumption) (by decide) | (refine inb_i ?_ ?_ <;> grind)) ?_
    | with_reducible refine v_grd (by first | rfl | (simp [inb, cpok, isB, gh_1, kb_81, s0_0_29, s0_0_48, s0_0_60, s0_0_62, s0_23, s0_63_1, s0_64_3, s0_64_4, s0_64_5, s0_64_6, st_at, cp_row, *]; done) | exact inb_le (by assumption) (by assumption) (by decide) | exact inb_addc (by assumption) (by assumption) (by decide) | (refine inb_i ?_ ?_ <;> grind)) ?_
    | (with_reducible refine e_i (fun h => ?_) (fun h => ?_)) <;> (try simp [gh_1, kb_81, s0_0_29, s0_0_48, s0_0_60, s0_0_62, s0_23, s0_63_1, s0_64_3, s0_64_4, s0_64_5, s0_64_6, st_at, cp_row, *] at h) <;> (try (exfalso; grind; done))
    | (with_reducible refine v_i (fun h => ?_) (fun h => ?_)) <;> (try simp [gh_1, kb_81, s0_0_29, s0_0_48, s0_0_60, s0_0_62, s0_23, s0_63_1, s0_64_3, s0_64_4, s0_64_5, s0_64_6, st_at, cp_row, *] at h) <;> (try (exfalso; grind; done))
    | with_reducible refine s_save0 _ (by simp [gh_1, kb_81, s0_0_29, s0_0_48, s0_0_60, s0_0_62, s0_23, s0_63_1, s0_64_3, s0_64_4, s0_64_5, s0_64_6, st_at, cp_row, *]) (fun S' hS' => ?_)
    | with_reducible refine e_eq (f_Yard_test.eq_1 _ _) ?_
    | with_reducible refine v_eq (f_Yard_beginAct.eq_1 _) ?_
    | with_reducible refine v_eq (f_Report_begin.eq_1 _) ?_
    | with_reducible refine v_eq (f_History_keep.eq_1 _) ?_
    | with_reducible refine v_eq (f_History_keep_j33.eq_1 _) ?_
    | with_reducible refine e_eq (f_History_border.eq_1 _) ?_
    | with_reducible refine e_eq (f_State_usedCells.eq_1 _) ?_
    | with_reducible refine e_eq (f_Yard_testAll.eq_1 _ _) ?_
    | with_reducible refine e_eq (f_Yard_named.eq_1 _ _ _) ?_
    | with_reducible refine e_eq (f_Yard_isNot.eq_1 _ _ _ _) ?_
    | with_reducible refine e_eq (f_Report_found.eq_1 _ _) ?_
    | with_reducible refine e_eq (f_Yard_endAct.eq_1 _ _ _) ?_
    | with_reducible refine v_eq (f_History_write.eq_1 _ _ _) ?_
    | with_reducible refine e_eq (f_Math_min_7cf53.eq_1 _ _ _) ?_
    | with_reducible refine e_eq (f_M_test.eq_1 _ _) ?_
    | with_reducible refine v_eq (f_M_begin.eq_1 _) ?_
    | with_reducible refine v_eq (f_M_keep.eq_1 _) ?_
    | with_reducible refine v_eq (f_M_keep_j50.eq_1 _) ?_
    | with_reducible refine e_eq (f_M_missThing.eq_1 _ _ _) ?_
    | with_reducible refine e_eq (f_M_ends.eq_1 _ _) ?_
    | with_reducible refine e_eq (f_M_found.eq_1 _ _) ?_
    | with_reducible refine e_eq (f_M_ends_j10.eq_1 _ _) ?_
    | with_reducible refine e_eq (f_M_entered.eq_1 _ _ _) ?_
    | rfl
    | (simp [gh_1, kb_81, s0_0_29, s0_0_48, s0_0_60, s0_0_62, s0_23, s0_63_1, s0_64_3, s0_64_4, s0_64_5, s0_64_6, st_at, cp_row, *]; done)
    )
set_option maxRecDepth 100000 in
set_option maxHeartbeats 4000000 in
theorem q_25 (a1 : Int32) : Ex2 (f_Yard_leave a1 (gh S0 0)) (fun r S => Ex2 (f_M_leave a1 S) (fun r' _ => r = r')) := by
  repeat' (first
    | with_reducible refine e_bnd ?_
    | with_reducible refine e_bndv ?_
    | with_reducible refine v_bnd ?_
    | with_reducible refine v_bndv ?_
    | with_reducible refine e_nm ?_
    | with_reducible refine v_nm ?_
    | with_reducible refine e_wr ?_
    | with_reducible refine v_wr ?_
    | with_reducible refine v_cpw ?_
    | with_reducible refine e_cpw ?_
    | with_reducible refine e_some ?_
    | with_reducible refine v_some ?_
    | with_reducible refine e_grd (by first | rfl | (simp [inb, cpok, isB, gh_1, kb_81, s0_0_29, s0_0_48, s0_0_60, s0_0_62, s0_23, s0_63_1, s0_64_3, s0_64_4, s0_64_5, s0_64_6, s0_68_4, st_at, cp_row, *]; done) | exact inb_le (by assumption) (by assumption) (by decide) | exact inb_addc (by assumption) (by assumption) (by decide) | (refine inb_i ?_ ?_ <;> grind)) ?_
    | with_reducible refine v_grd (by first | rfl | (simp [inb, cpok, isB, gh_1, kb_81, s0_0_29, s0_0_48, s0_0_60, s0_0_62, s0_23, s0_63_1, s0_64_3, s0_64_4, s0_64_5, s0_64_6, s0_68_4, st_at, cp_row, *]; done) | exact inb_le (by assumption) (by assumption) (by decide) | exact inb_addc (by assumption) (by assumption) (by decide) | (refine inb_i ?_ ?_ <;> grind)) ?_
    | (with_reducible refine e_i (fun h => ?_) (fun h => ?_)) <;> (try simp [gh_1, kb_81, s0_0_29, s0_0_48, s0_0_60, s0_0_62, s0_23, s0_63_1, s0_64_3, s0_64_4, s0_64_5, s0_64_6, s0_68_4, st_at, cp_row, *] at h) <;> (try (exfalso; grind; done))
    | (with_reducible refine v_i (fun h => ?_) (fun h => ?_)) <;> (try simp [gh_1, kb_81, s0_0_29, s0_0_48, s0_0_60, s0_0_62, s0_23, s0_63_1, s0_64_3, s0_64_4, s0_64_5, s0_64_6, s0_68_4, st_at, cp_row, *] at h) <;> (try (exfalso; grind; done))
    | with_reducible refine s_save0 _ (by simp [gh_1, kb_81, s0_0_29, s0_0_48, s0_0_60, s0_0_62, s0_23, s0_63_1, s0_64_3, s0_64_4, s0_64_5, s0_64_6, s0_68_4, st_at, cp_row, *]) (fun S' hS' => ?_)
    | with_reducible refine e_eq (f_Yard_leave.eq_1 _ _) ?_
    | with_reducible refine v_eq (f_Yard_beginAct.eq_1 _) ?_
    | with_reducible refine v_eq (f_Report_begin.eq_1 _) ?_
    | with_reducible refine v_eq (f_History_keep.eq_1 _) ?_
    | with_reducible refine v_eq (f_History_keep_j33.eq_1 _) ?_
    | with_reducible refine e_eq (f_History_border.eq_1 _) ?_
    | with_reducible refine e_eq (f_State_usedCells.eq_1 _) ?_
    | with_reducible refine e_eq (f_Yard_leaveYard.eq_1 _ _) ?_
    | with_reducible refine e_eq (f_Yard_named.eq_1 _ _ _) ?_
    | with_reducible refine e_eq (f_Yard_isNot.eq_1 _ _ _ _) ?_
    | with_reducible refine e_eq (f_Yard_leaveYard_j30.eq_1 _ _) ?_
    | with_reducible refine e_eq (f_Report_found.eq_1 _ _) ?_
    | with_reducible refine e_eq (f_Yard_endAct.eq_1 _ _ _) ?_
    | with_reducible refine v_eq (f_History_write.eq_1 _ _ _) ?_
    | with_reducible refine e_eq (f_Math_min_7cf53.eq_1 _ _ _) ?_
    | with_reducible refine e_eq (f_M_leave.eq_1 _ _) ?_
    | with_reducible refine v_eq (f_M_begin.eq_1 _) ?_
    | with_reducible refine v_eq (f_M_keep.eq_1 _) ?_
    | with_reducible refine v_eq (f_M_keep_j50.eq_1 _) ?_
    | with_reducible refine e_eq (f_M_missLeave.eq_1 _ _) ?_
    | with_reducible refine e_eq (f_M_missThing.eq_1 _ _ _) ?_
    | with_reducible refine e_eq (f_M_ends.eq_1 _ _) ?_
    | with_reducible refine e_eq (f_M_found.eq_1 _ _) ?_
    | with_reducible refine e_eq (f_M_ends_j10.eq_1 _ _) ?_
    | with_reducible refine e_eq (f_M_entered.eq_1 _ _ _) ?_
    | rfl
    | (simp [gh_1, kb_81, s0_0_29, s0_0_48, s0_0_60, s0_0_62, s0_23, s0_63_1, s0_64_3, s0_64_4, s0_64_5, s0_64_6, s0_68_4, st_at, cp_row, *]; done)
    )
set_option maxRecDepth 100000 in
set_option maxHeartbeats 4000000 in
theorem q_26 (a1 a2 a3 : Int32) : Ex2 (f_Yard_roll a1 a2 a3 (gh S0 0)) (fun r S => Ex2 (f_M_roll a1 a2 a3 S) (fun r' _ => r = r')) := by
  repeat' (first
    | with_reducible refine e_bnd ?_
    | with_reducible refine e_bndv ?_
    | with_reducible refine v_bnd ?_
    | with_reducible refine v_bndv ?_
    | with_reducible refine e_nm ?_
    | with_reducible refine v_nm ?_
    | with_reducible refine e_wr ?_
    | with_reducible refine v_wr ?_
    | with_reducible refine v_cpw ?_
    | with_reducible refine e_cpw ?_
    | with_reducible refine e_some ?_
    | with_reducible refine v_some ?_
    | with_reducible refine e_grd (by first | rfl | (simp [inb, cpok, isB, gh_1, kb_81, s0_0_7, s0_66_7, st_at, cp_row, *]; done) | exact inb_le (by assumption) (by assumption) (by decide) | exact inb_addc (by assumption) (by assumption) (by decide) | (refine inb_i ?_ ?_ <;> grind)) ?_
    | with_reducible refine v_grd (by first | rfl | (simp [inb, cpok, isB, gh_1, kb_81, s0_0_7, s0_66_7, st_at, cp_row, *]; done) | exact inb_le (by assumption) (by assumption) (by decide) | exact inb_addc (by assumption) (by assumption) (by decide) | (refine inb_i ?_ ?_ <;> grind)) ?_
    | (with_reducible refine e_i (fun h => ?_) (fun h => ?_)) <;> (try simp [gh_1, kb_81, s0_0_7, s0_66_7, st_at, cp_row, *] at h) <;> (try (exfalso; grind; done))
    | (with_reducible refine v_i (fun h => ?_) (fun h => ?_)) <;> (try simp [gh_1, kb_81, s0_0_7, s0_66_7, st_at, cp_row, *] at h) <;> (try (exfalso; grind; done))
    | with_reducible refine e_eq (f_Yard_roll.eq_1 _ _ _ _) ?_
    | with_reducible refine v_eq (f_Report_begin.eq_1 _) ?_
    | with_reducible refine e_eq (f_Layout_trackFinding.eq_1 _ _) ?_
    | with_reducible refine e_eq (f_Yard_roll_j53.eq_1 _ _ _ _ _) ?_
    | with_reducible refine e_eq (f_Report_found.eq_1 _ _) ?_
    | with_reducible refine e_eq (f_M_roll.eq_1 _ _ _ _) ?_
    | with_reducible refine v_eq (f_M_begin.eq_1 _) ?_
    | with_reducible refine e_eq (f_M_missTrack.eq_1 _ _) ?_
    | with_reducible refine e_eq (f_M_ends.eq_1 _ _) ?_
    | with_reducible refine e_eq (f_M_found.eq_1 _ _) ?_
    | with_reducible refine e_eq (f_M_ends_j10.eq_1 _ _) ?_
    | rfl
    | (simp [gh_1, kb_81, s0_0_7, s0_66_7, st_at, cp_row, *]; done)
    )
set_option maxRecDepth 100000 in
set_option maxHeartbeats 4000000 in
theorem q_27 (a1 a2 : Int32) : Ex2 (f_Yard_store a1 a2 (gh S0 0)) (fun r S => Ex2 (f_M_store a1 a2 S) (fun r' _ => r = r')) := by
  repeat' (first
    | with_reducible refine e_bnd ?_
    | with_reducible refine e_bndv ?_
    | with_reducible refine v_bnd ?_
    | with_reducible refine v_bndv ?_
    | with_reducible refine e_nm ?_
    | with_reducible refine v_nm ?_
    | with_reducible refine e_wr ?_
    | with_reducible refine v_wr ?_
    | with_reducible refine v_cpw ?_
    | with_reducible refine e_cpw ?_
    | with_reducible refine e_some ?_
    | with_reducible refine v_some ?_
    | with_reducible refine e_grd (by first | rfl | (simp [inb, cpok, isB, gh_1, kb_81, s0_0_29, s0_63_1, st_at, cp_row, *]; done) | exact inb_le (by assumption) (by assumption) (by decide) | exact inb_addc (by assumption) (by assumption) (by decide) | (refine inb_i ?_ ?_ <;> grind)) ?_
    | with_reducible refine v_grd (by first | rfl | (simp [inb, cpok, isB, gh_1, kb_81, s0_0_29, s0_63_1, st_at, cp_row, *]; done) | exact inb_le (by assumption) (by assumption) (by decide) | exact inb_addc (by assumption) (by assumption) (by decide) | (refine inb_i ?_ ?_ <;> grind)) ?_
    | (with_reducible refine e_i (fun h => ?_) (fun h => ?_)) <;> (try simp [gh_1, kb_81, s0_0_29, s0_63_1, st_at, cp_row, *] at h) <;> (try (exfalso; grind; done))
    | (with_reducible refine v_i (fun h => ?_) (fun h => ?_)) <;> (try simp [gh_1, kb_81, s0_0_29, s0_63_1, st_at, cp_row, *] at h) <;> (try (exfalso; grind; done))
    | with_reducible refine e_eq (f_Yard_store.eq_1 _ _ _) ?_
    | with_reducible refine v_eq (f_Report_begin.eq_1 _) ?_
    | with_reducible refine e_eq (f_Yard_named.eq_1 _ _ _) ?_
    | with_reducible refine e_eq (f_Yard_isNot.eq_1 _ _ _ _) ?_
    | with_reducible refine e_eq (f_Yard_store_j31.eq_1 _ _ _ _) ?_
    | with_reducible refine e_eq (f_Yard_store_j50.eq_1 _ _ _ _) ?_
    | with_reducible refine e_eq (f_Report_found.eq_1 _ _) ?_
    | with_reducible refine e_eq (f_M_store.eq_1 _ _ _) ?_
    | with_reducible refine v_eq (f_M_begin.eq_1 _) ?_
    | with_reducible refine e_eq (f_M_missThing.eq_1 _ _ _) ?_
    | with_reducible refine e_eq (f_M_ends.eq_1 _ _) ?_
    | with_reducible refine e_eq (f_M_found.eq_1 _ _) ?_
    | with_reducible refine e_eq (f_M_ends_j10.eq_1 _ _) ?_
    | rfl
    | (simp [gh_1, kb_81, s0_0_29, s0_63_1, st_at, cp_row, *]; done)
    )
