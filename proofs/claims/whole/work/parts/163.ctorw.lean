/-! ===== the words that these need beside ===== -/
theorem klo_X5 : Cond.methodLink RX5 3 Lib.objectInit ∈ lw_gt := lw_i1 31 (by decide +kernel) rfl
theorem kio : Cond.instanceMethod Lib.objectInit ∈ lw_gt := lw_i1 24 (by decide +kernel) rfl
theorem kco : Cond.code Lib.objectInit ⟨#[0xb1]⟩ 1 none ∈ lw_gt := lw_i1 25 (by decide +kernel) rfl
theorem klo_X8 : Cond.methodLink RX8 7 Lib.objectInit ∈ lw_gt := lw_i1 66 (by decide +kernel) rfl
theorem klo_X9 : Cond.methodLink RX9 3 Lib.objectInit ∈ lw_gt := lw_i1 116 (by decide +kernel) rfl
theorem klo_X7 : Cond.methodLink RX7 3 Lib.objectInit ∈ lw_gt := lw_i2 17 (by decide +kernel) rfl
theorem klo_X4 : Cond.methodLink RX4 3 Lib.objectInit ∈ lw_gt := lw_i2 30 (by decide +kernel) rfl
theorem klo_X2 : Cond.methodLink RX2 5 Lib.objectInit ∈ lw_gt := lw_i1 129 (by decide +kernel) rfl
theorem kx_arz : Cond.arrayClass .boolean ∈ lw_gt := lw_i1 164 (by decide +kernel) rfl
theorem kl_X2_42 : Cond.methodLink RX2 42 yJ7_fill_53178 ∈ lw_gt := lw_i1 130 (by decide +kernel) rfl
theorem klo_X6 : Cond.methodLink RX6 3 Lib.objectInit ∈ lw_gt := lw_i1 170 (by decide +kernel) rfl
theorem klo_X10 : Cond.methodLink RX10 3 Lib.objectInit ∈ lw_gt := lw_i1 205 (by decide +kernel) rfl
theorem klo_X0 : Cond.methodLink RX0 3 Lib.objectInit ∈ lw_gt := lw_i1 232 (by decide +kernel) rfl
theorem klo_X1 : Cond.methodLink RX1 3 Lib.objectInit ∈ lw_gt := lw_i1 81 (by decide +kernel) rfl
theorem kcl_X1_13 : Cond.classLink RX1 13 "[[I" ∈ lw_gt := lw_i1 82 (by decide +kernel) rfl
