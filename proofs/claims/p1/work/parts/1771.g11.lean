set_option maxRecDepth 100000 in
set_option maxHeartbeats 4000000 in
theorem q_48 (a1 a2 : Int32) : Ex2 (f_Yard_move a1 a2 (gh S0 0)) (fun r S => Ex2 (f_M_move a1 a2 S) (fun r' _ => r = r')) := by
  repeat' (first
    | with_reducible refine e_bnd ?_
    | with_reducible refine e_bndv ?_
    | with_reducible refine v_bnd ?_
    | with_reducible refine v_bndv ?_
    | with_reducible refine e_nm ?_
    | with_reducible refine v_nm ?_
    | with_reducible refine e_wr ?_
    | with_reducible refine v_wr ?_
    | with_reducible refine v_cpw ?_
    | with_reducible refine e_cpw ?_
    | with_reducible refine e_some ?_
    | with_reducible refine v_some ?_
    | with_reducible refine e_grd (by first | rfl | (simp [inb, cpok, isB, gh_1, kb_81, s0_0_76, s0_0_77, s0_51, s0_52, s0_53, s0_70_7, s0_107, st_at, cp_row, *]; done) | exact inb_le (by assumption) (by assumption) (by decide) | exact inb_le2 (by assumption) (by assumption) (by decide) | exact inb_addc (by assumption) (by assumption) (by decide) | (refine inb_i ?_ ?_ <;> grind)) ?_
    | with_reducible refine v_grd (by first | rfl | (simp [inb, cpok, isB, gh_1, kb_81, s0_0_76, s0_0_77, s0_51, s0_52, s0_53, s0_70_7, s0_107, st_at, cp_row, *]; done) | exact inb_le (by assumption) (by assumption) (by decide) | exact inb_le2 (by assumption) (by assumption) (by decide) | exact inb_addc (by assumption) (by assumption) (by decide) | (refine inb_i ?_ ?_ <;> grind)) ?_
    | (with_reducible refine e_i (fun h => ?_) (fun h => ?_)) <;> (try simp [gh_1, kb_81, s0_0_76, s0_0_77, s0_51, s0_52, s0_53, s0_70_7, s0_107, st_at, cp_row, *] at h) <;> (try (exfalso; grind; done))
    | (with_reducible refine v_i (fun h => ?_) (fun h => ?_)) <;> (try simp [gh_1, kb_81, s0_0_76, s0_0_77, s0_51, s0_52, s0_53, s0_70_7, s0_107, st_at, cp_row, *] at h) <;> (try (exfalso; grind; done))
    | with_reducible refine e_eq (f_Yard_move.eq_1 _ _ _) ?_
    | with_reducible refine e_eq (f_Yard_isNot.eq_1 _ _ _ _) ?_
    | with_reducible refine e_eq (f_M_move.eq_1 _ _ _) ?_
    | with_reducible refine e_eq (f_Plans_moveAt.eq_1 _ _ _) ?_
    | rfl
    | (simp [gh_1, kb_81, s0_0_76, s0_0_77, s0_51, s0_52, s0_53, s0_70_7, s0_107, st_at, cp_row, *]; done)
    )
theorem q_49 : Ex2 (f_Yard_bound (gh S0 0)) (fun r S => Ex2 (f_M_bound S) (fun r' _ => r = r')) := okb_ok (by decide +kernel)
set_option maxRecDepth 100000 in
set_option maxHeartbeats 4000000 in
theorem q_50 (a1 : Int32) : Ex2 (f_Yard_proof a1 (gh S0 0)) (fun r S => Ex2 (f_M_proof a1 S) (fun r' _ => r = r')) := by
  repeat' (first
    | with_reducible refine e_bnd ?_
    | with_reducible refine e_bndv ?_
    | with_reducible refine v_bnd ?_
    | with_reducible refine v_bndv ?_
    | with_reducible refine e_nm ?_
    | with_reducible refine v_nm ?_
    | with_reducible refine e_wr ?_
    | with_reducible refine v_wr ?_
    | with_reducible refine v_cpw ?_
    | with_reducible refine e_cpw ?_
    | with_reducible refine e_some ?_
    | with_reducible refine v_some ?_
    | with_reducible refine e_grd (by first | rfl | (simp [inb, cpok, isB, gh_1, kb_81, s0_0_76, s0_0_77, s0_55, s0_56, s0_70_7, s0_70_8, s0_108, st_at, cp_row, *]; done) | exact inb_le (by assumption) (by assumption) (by decide) | exact inb_le2 (by assumption) (by assumption) (by decide) | exact inb_addc (by assumption) (by assumption) (by decide) | (refine inb_i ?_ ?_ <;> grind)) ?_
    | with_reducible refine v_grd (by first | rfl | (simp [inb, cpok, isB, gh_1, kb_81, s0_0_76, s0_0_77, s0_55, s0_56, s0_70_7, s0_70_8, s0_108, st_at, cp_row, *]; done) | exact inb_le (by assumption) (by assumption) (by decide) | exact inb_le2 (by assumption) (by assumption) (by decide) | exact inb_addc (by assumption) (by assumption) (by decide) | (refine inb_i ?_ ?_ <;> grind)) ?_
    | (with_reducible refine e_i (fun h => ?_) (fun h => ?_)) <;> (try simp [gh_1, kb_81, s0_0_76, s0_0_77, s0_55, s0_56, s0_70_7, s0_70_8, s0_108, st_at, cp_row, *] at h) <;> (try (exfalso; grind; done))
    | (with_reducible refine v_i (fun h => ?_) (fun h => ?_)) <;> (try simp [gh_1, kb_81, s0_0_76, s0_0_77, s0_55, s0_56, s0_70_7, s0_70_8, s0_108, st_at, cp_row, *] at h) <;> (try (exfalso; grind; done))
    | with_reducible refine e_eq (f_Yard_proof.eq_1 _ _) ?_
    | with_reducible refine e_eq (f_M_proof.eq_1 _ _) ?_
    | with_reducible refine e_eq (f_Plans_potentialAt.eq_1 _ _) ?_
    | with_reducible refine e_eq (f_Plans_hasPotential.eq_1 _ _) ?_
    | rfl
    | (simp [gh_1, kb_81, s0_0_76, s0_0_77, s0_55, s0_56, s0_70_7, s0_70_8, s0_108, st_at, cp_row, *]; done)
    )
set_option maxRecDepth 100000 in
set_option maxHeartbeats 4000000 in
theorem q_51 (a1 a2 : Int32) : Ex2 (f_Yard_spoil a1 a2 (gh S0 0)) (fun r S => Ex2 (f_M_spoil a1 a2 S) (fun r' _ => r = r')) := by
  repeat' (first
    | with_reducible refine e_bnd ?_
    | with_reducible refine e_bndv ?_
    | with_reducible refine v_bnd ?_
    | with_reducible refine v_bndv ?_
    | with_reducible refine e_nm ?_
    | with_reducible refine v_nm ?_
    | with_reducible refine e_wr ?_
    | with_reducible refine v_wr ?_
    | with_reducible refine v_cpw ?_
    | with_reducible refine e_cpw ?_
    | with_reducible refine e_some ?_
    | with_reducible refine v_some ?_
    | with_reducible refine e_grd (by first | rfl | (simp [inb, cpok, isB, gh_1, kb_81, s0_0_76, s0_0_77, s0_55, s0_56, s0_70_7, s0_70_8, s0_108, st_at, cp_row, *]; done) | exact inb_le (by assumption) (by assumption) (by decide) | exact inb_le2 (by assumption) (by assumption) (by decide) | exact inb_addc (by assumption) (by assumption) (by decide) | (refine inb_i ?_ ?_ <;> grind)) ?_
    | with_reducible refine v_grd (by first | rfl | (simp [inb, cpok, isB, gh_1, kb_81, s0_0_76, s0_0_77, s0_55, s0_56, s0_70_7, s0_70_8, s0_108, st_at, cp_row, *]; done) | exact inb_le (by assumption) (by assumption) (by decide) | exact inb_le2 (by assumption) (by assumption) (by decide) | exact inb_addc (by assumption) (by assumption) (by decide) | (refine inb_i ?_ ?_ <;> grind)) ?_
    | (with_reducible refine e_i (fun h => ?_) (fun h => ?_)) <;> (try simp [gh_1, kb_81, s0_0_76, s0_0_77, s0_55, s0_56, s0_70_7, s0_70_8, s0_108, st_at, cp_row, *] at h) <;> (try (exfalso; grind; done))
    | (with_reducible refine v_i (fun h => ?_) (fun h => ?_)) <;> (try simp [gh_1, kb_81, s0_0_76, s0_0_77, s0_55, s0_56, s0_70_7, s0_70_8, s0_108, st_at, cp_row, *] at h) <;> (try (exfalso; grind; done))
    | with_reducible refine e_eq (f_Yard_spoil.eq_1 _ _ _) ?_
    | with_reducible refine e_eq (f_Yard_isNot.eq_1 _ _ _ _) ?_
    | with_reducible refine e_eq (f_Plans_setPotential.eq_1 _ _ _) ?_
    | with_reducible refine e_eq (f_Plans_potentialAt.eq_1 _ _) ?_
    | with_reducible refine e_eq (f_Plans_hasPotential.eq_1 _ _) ?_
    | with_reducible refine e_eq (f_M_spoil.eq_1 _ _ _) ?_
    | rfl
    | (simp [gh_1, kb_81, s0_0_76, s0_0_77, s0_55, s0_56, s0_70_7, s0_70_8, s0_108, st_at, cp_row, *]; done)
    )
theorem q_52 : Ex2 (f_Yard_check (gh S0 0)) (fun r S => Ex2 (f_M_check S) (fun r' _ => r = r')) := okb_ok (by decide +kernel)
