theorem q_40 : Ex2 (f_Yard_undo (gh S0 0)) (fun r S => Ex2 (f_M_undo S) (fun r' _ => r = r')) := okb_ok (by decide +kernel)
theorem q_41 : Ex2 (f_Yard_back (gh S0 0)) (fun r S => Ex2 (f_M_back S) (fun r' _ => r = r')) := okb_ok (by decide +kernel)
theorem q_42 : Ex2 (f_Yard_digest (gh S0 0)) (fun r S => Ex2 (f_M_digest S) (fun r' _ => r = r')) := okl_ok (by decide +kernel)
set_option maxRecDepth 100000 in
set_option maxHeartbeats 4000000 in
theorem q_43 (a1 a2 : Int32) : Ex2 (f_Yard_log a1 a2 (gh S0 0)) (fun r S => Ex2 (f_M_log a1 a2 S) (fun r' _ => r = r')) := by
  repeat' (first
    | with_reducible refine e_bnd ?_
    | with_reducible refine e_bndv ?_
    | with_reducible refine v_bnd ?_
    | with_reducible refine v_bndv ?_
    | with_reducible refine e_nm ?_
    | with_reducible refine v_nm ?_
    | with_reducible refine e_wr ?_
    | with_reducible refine v_wr ?_
    | with_reducible refine v_cpw ?_
    | with_reducible refine e_cpw ?_
    | with_reducible refine e_some ?_
    | with_reducible refine v_some ?_
    | with_reducible refine e_grd (by first | rfl | (simp [inb, cpok, isB, gh_1, kb_81, s0_0_62, s0_64_4, s0_64_5, st_at, cp_row, *]; done) | exact inb_le (by assumption) (by assumption) (by decide) | exact inb_le2 (by assumption) (by assumption) (by decide) | exact inb_addc (by assumption) (by assumption) (by decide) | (refine inb_i ?_ ?_ <;> grind)) ?_
    | with_reducible refine v_grd (by first | rfl | (simp [inb, cpok, isB, gh_1, kb_81, s0_0_62, s0_64_4, s0_64_5, st_at, cp_row, *]; done) | exact inb_le (by assumption) (by assumption) (by decide) | exact inb_le2 (by assumption) (by assumption) (by decide) | exact inb_addc (by assumption) (by assumption) (by decide) | (refine inb_i ?_ ?_ <;> grind)) ?_
    | (with_reducible refine e_i (fun h => ?_) (fun h => ?_)) <;> (try simp [gh_1, kb_81, s0_0_62, s0_64_4, s0_64_5, st_at, cp_row, *] at h) <;> (try (exfalso; grind; done))
    | (with_reducible refine v_i (fun h => ?_) (fun h => ?_)) <;> (try simp [gh_1, kb_81, s0_0_62, s0_64_4, s0_64_5, st_at, cp_row, *] at h) <;> (try (exfalso; grind; done))
    | with_reducible refine e_eq (f_Yard_log.eq_1 _ _ _) ?_
    | with_reducible refine e_eq (f_Yard_isNot.eq_1 _ _ _ _) ?_
    | with_reducible refine e_eq (f_M_log.eq_1 _ _ _) ?_
    | with_reducible refine e_eq (f_History_written.eq_1 _ _ _) ?_
    | rfl
    | (simp [gh_1, kb_81, s0_0_62, s0_64_4, s0_64_5, st_at, cp_row, *]; done)
    )
