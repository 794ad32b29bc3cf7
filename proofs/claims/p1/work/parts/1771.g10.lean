set_option maxRecDepth 100000 in
set_option maxHeartbeats 4000000 in
theorem q_44 (a1 a2 : Int32) : Ex2 (f_Yard_room a1 a2 (gh S0 0)) (fun r S => Ex2 (f_M_room a1 a2 S) (fun r' _ => r = r')) := by
  repeat' (first
    | with_reducible refine e_bnd ?_
    | with_reducible refine e_bndv ?_
    | with_reducible refine v_bnd ?_
    | with_reducible refine v_bndv ?_
    | with_reducible refine e_nm ?_
    | with_reducible refine v_nm ?_
    | with_reducible refine e_wr ?_
    | with_reducible refine v_wr ?_
    | with_reducible refine v_cpw ?_
    | with_reducible refine e_cpw ?_
    | with_reducible refine e_some ?_
    | with_reducible refine v_some ?_
    | with_reducible refine e_grd (by first | rfl | (simp [inb, cpok, isB, gh_1, kb_81, s0_46, s0_47, s0_49, s0_106, s0_123, s0_125, st_at, cp_row, *]; done) | exact inb_le (by assumption) (by assumption) (by decide) | exact inb_le2 (by assumption) (by assumption) (by decide) | exact inb_addc (by assumption) (by assumption) (by decide) | (refine inb_i ?_ ?_ <;> grind)) ?_
    | with_reducible refine v_grd (by first | rfl | (simp [inb, cpok, isB, gh_1, kb_81, s0_46, s0_47, s0_49, s0_106, s0_123, s0_125, st_at, cp_row, *]; done) | exact inb_le (by assumption) (by assumption) (by decide) | exact inb_le2 (by assumption) (by assumption) (by decide) | exact inb_addc (by assumption) (by assumption) (by decide) | (refine inb_i ?_ ?_ <;> grind)) ?_
    | (with_reducible refine e_i (fun h => ?_) (fun h => ?_)) <;> (try simp [gh_1, kb_81, s0_46, s0_47, s0_49, s0_106, s0_123, s0_125, st_at, cp_row, *] at h) <;> (try (exfalso; grind; done))
    | (with_reducible refine v_i (fun h => ?_) (fun h => ?_)) <;> (try simp [gh_1, kb_81, s0_46, s0_47, s0_49, s0_106, s0_123, s0_125, st_at, cp_row, *] at h) <;> (try (exfalso; grind; done))
    | with_reducible refine e_eq (f_Yard_room.eq_1 _ _ _) ?_
    | with_reducible refine e_eq (f_Yard_isNot.eq_1 _ _ _ _) ?_
    | with_reducible refine e_eq (f_Plans_setRoom.eq_1 _ _ _) ?_
    | with_reducible refine e_eq (f_Stacks_height_start.eq_1 _ _) ?_
    | with_reducible refine e_eq (f_Stacks_height_goal.eq_1 _ _) ?_
    | with_reducible refine e_eq (f_M_room.eq_1 _ _ _) ?_
    | rfl
    | (simp [gh_1, kb_81, s0_46, s0_47, s0_49, s0_106, s0_123, s0_125, st_at, cp_row, *]; done)
    )
theorem q_46 : Ex2 (f_Yard_wipe (gh S0 0)) (fun r S => Ex2 (f_M_wipe S) (fun r' _ => r = r')) := okb_ok (by decide +kernel)
