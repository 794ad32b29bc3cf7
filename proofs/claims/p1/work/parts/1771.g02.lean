set_option maxRecDepth 100000 in
set_option maxHeartbeats 4000000 in
theorem q_12 (a1 a2 : Int32) : Ex2 (f_Yard_danger a1 a2 (gh S0 0)) (fun r S => Ex2 (f_M_danger a1 a2 S) (fun r' _ => r = r')) := by
  repeat' (first
    | with_reducible refine e_bnd ?_
    | with_reducible refine e_bndv ?_
    | with_reducible refine v_bnd ?_
    | with_reducible refine v_bndv ?_
    | with_reducible refine e_nm ?_
    | with_reducible refine v_nm ?_
    | with_reducible refine e_wr ?_
    | with_reducible refine v_wr ?_
    | with_reducible refine v_cpw ?_
    | with_reducible refine e_cpw ?_
    | with_reducible refine e_some ?_
    | with_reducible refine v_some ?_
    | with_reducible refine e_grd (by first | rfl | (simp [inb, cpok, isB, gh_1, kb_81, s0_0_29, s0_0_48, s0_0_60, s0_0_62, s0_23, s0_63_1, s0_64_3, s0_64_4, s0_64_5, s0_64_6, st_at, cp_row, *]; done) | exact inb_le (by assumption) (by assumption) (by decide) | exact inb_addc (by assumption) (by assumption) (by decide) | (refine inb_i ?_ ?_ <;> grind)) ?_
    | with_reducible refine v_grd (by first | rfl | (simp [inb, cpok, isB, gh_1, kb_81, s0_0_29, s0_0_48, s0_0_60, s0_0_62, s0_23, s0_63_1, s0_64_3, s0_64_4, s0_64_5, s0_64_6, st_at, cp_row, *]; done) | exact inb_le (by assumption) (by assumption) (by decide) | exact inb_addc (by assumption) (by assumption) (by decide) | (refine inb_i ?_ ?_ <;> grind)) ?_
    | (with_reducible refine e_i (fun h => ?_) (fun h => ?_)) <;> (try simp [gh_1, kb_81, s0_0_29, s0_0_48, s0_0_60, s0_0_62, s0_23, s0_63_1, s0_64_3, s0_64_4, s0_64_5, s0_64_6, st_at, cp_row, *] at h) <;> (try (exfalso; grind; done))
    | (with_reducible refine v_i (fun h => ?_) (fun h => ?_)) <;> (try simp [gh_1, kb_81, s0_0_29, s0_0_48, s0_0_60, s0_0_62, s0_23, s0_63_1, s0_64_3, s0_64_4, s0_64_5, s0_64_6, st_at, cp_row, *] at h) <;> (try (exfalso; grind; done))
    | with_reducible refine s_save0 _ (by simp [gh_1, kb_81, s0_0_29, s0_0_48, s0_0_60, s0_0_62, s0_23, s0_63_1, s0_64_3, s0_64_4, s0_64_5, s0_64_6, st_at, cp_row, *]) (fun S' hS' => ?_)
    | with_reducible refine e_eq (f_Yard_danger.eq_1 _ _ _) ?_
    | with_reducible refine e_eq (f_Yard_isNot.eq_1 _ _ _ _) ?_
    | with_reducible refine v_eq (f_Yard_beginAct.eq_1 _) ?_
    | with_reducible refine v_eq (f_Report_begin.eq_1 _) ?_
    | with_reducible refine v_eq (f_History_keep.eq_1 _) ?_
    | with_reducible refine v_eq (f_History_keep_j33.eq_1 _) ?_
    | with_reducible refine e_eq (f_History_border.eq_1 _) ?_
    | with_reducible refine e_eq (f_State_usedCells.eq_1 _) ?_
    | with_reducible refine e_eq (f_Yard_change.eq_1 _ _ _ _ _) ?_
    | with_reducible refine e_eq (f_Yard_named.eq_1 _ _ _) ?_
    | with_reducible refine e_eq (f_Report_found.eq_1 _ _) ?_
    | with_reducible refine e_eq (f_Yard_endAct.eq_1 _ _ _) ?_
    | with_reducible refine v_eq (f_History_write.eq_1 _ _ _) ?_
    | with_reducible refine e_eq (f_Math_min_7cf53.eq_1 _ _ _) ?_
    | with_reducible refine e_eq (f_M_danger.eq_1 _ _ _) ?_
    | with_reducible refine v_eq (f_M_begin.eq_1 _) ?_
    | with_reducible refine v_eq (f_M_keep.eq_1 _) ?_
    | with_reducible refine v_eq (f_M_keep_j50.eq_1 _) ?_
    | with_reducible refine e_eq (f_M_missThing.eq_1 _ _ _) ?_
    | with_reducible refine e_eq (f_M_ends.eq_1 _ _) ?_
    | with_reducible refine e_eq (f_M_found.eq_1 _ _) ?_
    | with_reducible refine e_eq (f_M_ends_j10.eq_1 _ _) ?_
    | with_reducible refine e_eq (f_M_entered.eq_1 _ _ _) ?_
    | rfl
    | (simp [gh_1, kb_81, s0_0_29, s0_0_48, s0_0_60, s0_0_62, s0_23, s0_63_1, s0_64_3, s0_64_4, s0_64_5, s0_64_6, st_at, cp_row, *]; done)
    )
set_option maxRecDepth 100000 in
set_option maxHeartbeats 4000000 in
theorem q_13 (a1 a2 : Int32) : Ex2 (f_Yard_hold a1 a2 (gh S0 0)) (fun r S => Ex2 (f_M_hold a1 a2 S) (fun r' _ => r = r')) := by
  repeat' (first
    | with_reducible refine e_bnd ?_
    | with_reducible refine e_bndv ?_
    | with_reducible refine v_bnd ?_
    | with_reducible refine v_bndv ?_
    | with_reducible refine e_nm ?_
    | with_reducible refine v_nm ?_
    | with_reducible refine e_wr ?_
    | with_reducible refine v_wr ?_
    | with_reducible refine v_cpw ?_
    | with_reducible refine e_cpw ?_
    | with_reducible refine e_some ?_
    | with_reducible refine v_some ?_
    | with_reducible refine e_grd (by first | rfl | (simp [inb, cpok, isB, gh_1, kb_81, s0_0_29, s0_0_48, s0_0_60, s0_0_62, s0_23, s0_63_1, s0_64_3, s0_64_4, s0_64_5, s0_64_6, st_at, cp_row, *]; done) | exact inb_le (by assumption) (by assumption) (by decide) | exact inb_addc (by assumption) (by assumption) (by decide) | (refine inb_i ?_ ?_ <;> grind)) ?_
    | with_reducible refine v_grd (by first | rfl | (simp [inb, cpok, isB, gh_1, kb_81, s0_0_29, s0_0_48, s0_0_60, s0_0_62, s0_23, s0_63_1, s0_64_3, s0_64_4, s0_64_5, s0_64_6, st_at, cp_row, *]; done) | exact inb_le (by assumption) (by assumption) (by decide) | exact inb_addc (by assumption) (by assumption) (by decide) | (refine inb_i ?_ ?_ <;> grind)) ?_
    | (with_reducible refine e_i (fun h => ?_) (fun h => ?_)) <;> (try simp [gh_1, kb_81, s0_0_29, s0_0_48, s0_0_60, s0_0_62, s0_23, s0_63_1, s0_64_3, s0_64_4, s0_64_5, s0_64_6, st_at, cp_row, *] at h) <;> (try (exfalso; grind; done))
    | (with_reducible refine v_i (fun h => ?_) (fun h => ?_)) <;> (try simp [gh_1, kb_81, s0_0_29, s0_0_48, s0_0_60, s0_0_62, s0_23, s0_63_1, s0_64_3, s0_64_4, s0_64_5, s0_64_6, st_at, cp_row, *] at h) <;> (try (exfalso; grind; done))
    | with_reducible refine s_save0 _ (by simp [gh_1, kb_81, s0_0_29, s0_0_48, s0_0_60, s0_0_62, s0_23, s0_63_1, s0_64_3, s0_64_4, s0_64_5, s0_64_6, st_at, cp_row, *]) (fun S' hS' => ?_)
    | with_reducible refine e_eq (f_Yard_hold.eq_1 _ _ _) ?_
    | with_reducible refine e_eq (f_Yard_isNot.eq_1 _ _ _ _) ?_
    | with_reducible refine e_eq (f_Yard_hold_j19.eq_1 _ _ _) ?_
    | with_reducible refine v_eq (f_Yard_beginAct.eq_1 _) ?_
    | with_reducible refine v_eq (f_Report_begin.eq_1 _) ?_
    | with_reducible refine v_eq (f_History_keep.eq_1 _) ?_
    | with_reducible refine v_eq (f_History_keep_j33.eq_1 _) ?_
    | with_reducible refine e_eq (f_History_border.eq_1 _) ?_
    | with_reducible refine e_eq (f_State_usedCells.eq_1 _) ?_
    | with_reducible refine e_eq (f_Yard_change.eq_1 _ _ _ _ _) ?_
    | with_reducible refine e_eq (f_Yard_named.eq_1 _ _ _) ?_
    | with_reducible refine e_eq (f_Report_found.eq_1 _ _) ?_
    | with_reducible refine e_eq (f_Yard_endAct.eq_1 _ _ _) ?_
    | with_reducible refine v_eq (f_History_write.eq_1 _ _ _) ?_
    | with_reducible refine e_eq (f_Math_min_7cf53.eq_1 _ _ _) ?_
    | with_reducible refine e_eq (f_M_hold.eq_1 _ _ _) ?_
    | with_reducible refine e_eq (f_M_hold_j19.eq_1 _ _ _) ?_
    | with_reducible refine v_eq (f_M_begin.eq_1 _) ?_
    | with_reducible refine v_eq (f_M_keep.eq_1 _) ?_
    | with_reducible refine v_eq (f_M_keep_j50.eq_1 _) ?_
    | with_reducible refine e_eq (f_M_missThing.eq_1 _ _ _) ?_
    | with_reducible refine e_eq (f_M_ends.eq_1 _ _) ?_
    | with_reducible refine e_eq (f_M_found.eq_1 _ _) ?_
    | with_reducible refine e_eq (f_M_ends_j10.eq_1 _ _) ?_
    | with_reducible refine e_eq (f_M_entered.eq_1 _ _ _) ?_
    | rfl
    | (simp [gh_1, kb_81, s0_0_29, s0_0_48, s0_0_60, s0_0_62, s0_23, s0_63_1, s0_64_3, s0_64_4, s0_64_5, s0_64_6, st_at, cp_row, *]; done)
    )
set_option maxRecDepth 100000 in
set_option maxHeartbeats 4000000 in
theorem q_14 (a1 a2 : Int32) : Ex2 (f_Yard_jam a1 a2 (gh S0 0)) (fun r S => Ex2 (f_M_jam a1 a2 S) (fun r' _ => r = r')) := by
  repeat' (first
    | with_reducible refine e_bnd ?_
    | with_reducible refine e_bndv ?_
    | with_reducible refine v_bnd ?_
    | with_reducible refine v_bndv ?_
    | with_reducible refine e_nm ?_
    | with_reducible refine v_nm ?_
    | with_reducible refine e_wr ?_
    | with_reducible refine v_wr ?_
    | with_reducible refine v_cpw ?_
    | with_reducible refine e_cpw ?_
    | with_reducible refine e_some ?_
    | with_reducible refine v_some ?_
    | with_reducible refine e_grd (by first | rfl | (simp [inb, cpok, isB, gh_1, kb_81, s0_0_29, s0_0_48, s0_0_60, s0_0_62, s0_23, s0_63_1, s0_64_3, s0_64_4, s0_64_5, s0_64_6, st_at, cp_row, *]; done) | exact inb_le (by assumption) (by assumption) (by decide) | exact inb_addc (by assumption) (by assumption) (by decide) | (refine inb_i ?_ ?_ <;> grind)) ?_
    | with_reducible refine v_grd (by first | rfl | (simp [inb, cpok, isB, gh_1, kb_81, s0_0_29, s0_0_48, s0_0_60, s0_0_62, s0_23, s0_63_1, s0_64_3, s0_64_4, s0_64_5, s0_64_6, st_at, cp_row, *]; done) | exact inb_le (by assumption) (by assumption) (by decide) | exact inb_addc (by assumption) (by assumption) (by decide) | (refine inb_i ?_ ?_ <;> grind)) ?_
    | (with_reducible refine e_i (fun h => ?_) (fun h => ?_)) <;> (try simp [gh_1, kb_81, s0_0_29, s0_0_48, s0_0_60, s0_0_62, s0_23, s0_63_1, s0_64_3, s0_64_4, s0_64_5, s0_64_6, st_at, cp_row, *] at h) <;> (try (exfalso; grind; done))
    | (with_reducible refine v_i (fun h => ?_) (fun h => ?_)) <;> (try simp [gh_1, kb_81, s0_0_29, s0_0_48, s0_0_60, s0_0_62, s0_23, s0_63_1, s0_64_3, s0_64_4, s0_64_5, s0_64_6, st_at, cp_row, *] at h) <;> (try (exfalso; grind; done))
    | with_reducible refine s_save0 _ (by simp [gh_1, kb_81, s0_0_29, s0_0_48, s0_0_60, s0_0_62, s0_23, s0_63_1, s0_64_3, s0_64_4, s0_64_5, s0_64_6, st_at, cp_row, *]) (fun S' hS' => ?_)
    | with_reducible refine e_eq (f_Yard_jam.eq_1 _ _ _) ?_
    | with_reducible refine e_eq (f_Yard_isNot.eq_1 _ _ _ _) ?_
    | with_reducible refine v_eq (f_Yard_beginAct.eq_1 _) ?_
    | with_reducible refine v_eq (f_Report_begin.eq_1 _) ?_
    | with_reducible refine v_eq (f_History_keep.eq_1 _) ?_
    | with_reducible refine v_eq (f_History_keep_j33.eq_1 _) ?_
    | with_reducible refine e_eq (f_History_border.eq_1 _) ?_
    | with_reducible refine e_eq (f_State_usedCells.eq_1 _) ?_
    | with_reducible refine e_eq (f_Yard_change.eq_1 _ _ _ _ _) ?_
    | with_reducible refine e_eq (f_Yard_named.eq_1 _ _ _) ?_
    | with_reducible refine e_eq (f_Report_found.eq_1 _ _) ?_
    | with_reducible refine e_eq (f_Yard_endAct.eq_1 _ _ _) ?_
    | with_reducible refine v_eq (f_History_write.eq_1 _ _ _) ?_
    | with_reducible refine e_eq (f_Math_min_7cf53.eq_1 _ _ _) ?_
    | with_reducible refine e_eq (f_M_jam.eq_1 _ _ _) ?_
    | with_reducible refine v_eq (f_M_begin.eq_1 _) ?_
    | with_reducible refine v_eq (f_M_keep.eq_1 _) ?_
    | with_reducible refine v_eq (f_M_keep_j50.eq_1 _) ?_
    | with_reducible refine e_eq (f_M_missThing.eq_1 _ _ _) ?_
    | with_reducible refine e_eq (f_M_ends.eq_1 _ _) ?_
    | with_reducible refine e_eq (f_M_found.eq_1 _ _) ?_
    | with_reducible refine e_eq (f_M_ends_j10.eq_1 _ _) ?_
    | with_reducible refine e_eq (f_M_entered.eq_1 _ _ _) ?_
    | rfl
    | (simp [gh_1, kb_81, s0_0_29, s0_0_48, s0_0_60, s0_0_62, s0_23, s0_63_1, s0_64_3, s0_64_4, s0_64_5, s0_64_6, st_at, cp_row, *]; done)
    )
