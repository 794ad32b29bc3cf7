section
/-! ===== the law: its cases ===== -/
theorem kl_L_13 : Cond.methodLink RL 13 yX11_track ∈ lw_gt := lw_i2 144 rfl rfl
theorem kc_X11_track : Cond.code yX11_track cX11_track 2 (some .int) ∈ lw_gt := lw_i2 147 rfl rfl
theorem ki_X11_track : Cond.instanceMethod yX11_track ∈ lw_gt := lw_i2 145 rfl rfl
theorem kv_X11_track : Cond.selects RX11 yX11_track yX11_track ∈ lw_gt := lw_i2 146 rfl rfl
theorem kl_L_17 : Cond.methodLink RL 17 yX12_track ∈ lw_gt := lw_i8 33 rfl rfl
theorem kc_X12_track : Cond.code yX12_track cX12_track 2 (some .int) ∈ lw_gt := lw_i8 36 rfl rfl
theorem ki_X12_track : Cond.instanceMethod yX12_track ∈ lw_gt := lw_i8 34 rfl rfl
theorem kv_X12_track : Cond.selects RX12 yX12_track yX12_track ∈ lw_gt := lw_i8 35 rfl rfl
theorem kl_L_18 : Cond.methodLink RL 18 yX11_point ∈ lw_gt := lw_i2 164 rfl rfl
theorem kc_X11_point : Cond.code yX11_point cX11_point 4 (some .int) ∈ lw_gt := lw_i2 167 rfl rfl
theorem ki_X11_point : Cond.instanceMethod yX11_point ∈ lw_gt := lw_i2 165 rfl rfl
theorem kv_X11_point : Cond.selects RX11 yX11_point yX11_point ∈ lw_gt := lw_i2 166 rfl rfl
theorem kl_L_22 : Cond.methodLink RL 22 yX12_point ∈ lw_gt := lw_i8 49 rfl rfl
theorem kc_X12_point : Cond.code yX12_point cX12_point 3 (some .int) ∈ lw_gt := lw_i8 52 rfl rfl
theorem ki_X12_point : Cond.instanceMethod yX12_point ∈ lw_gt := lw_i8 50 rfl rfl
theorem kv_X12_point : Cond.selects RX12 yX12_point yX12_point ∈ lw_gt := lw_i8 51 rfl rfl
theorem kl_L_23 : Cond.methodLink RL 23 yX11_link ∈ lw_gt := lw_i2 190 rfl rfl
theorem kc_X11_link : Cond.code yX11_link cX11_link 6 (some .int) ∈ lw_gt := lw_i2 193 rfl rfl
theorem ki_X11_link : Cond.instanceMethod yX11_link ∈ lw_gt := lw_i2 191 rfl rfl
theorem kv_X11_link : Cond.selects RX11 yX11_link yX11_link ∈ lw_gt := lw_i2 192 rfl rfl
theorem kl_L_27 : Cond.methodLink RL 27 yX12_link ∈ lw_gt := lw_i8 64 rfl rfl
theorem kc_X12_link : Cond.code yX12_link cX12_link 9 (some .int) ∈ lw_gt := lw_i8 67 rfl rfl
theorem ki_X12_link : Cond.instanceMethod yX12_link ∈ lw_gt := lw_i8 65 rfl rfl
theorem kv_X12_link : Cond.selects RX12 yX12_link yX12_link ∈ lw_gt := lw_i8 66 rfl rfl
theorem kl_L_28 : Cond.methodLink RL 28 yX11_exit ∈ lw_gt := lw_i2 219 rfl rfl
theorem kc_X11_exit : Cond.code yX11_exit cX11_exit 5 (some .int) ∈ lw_gt := lw_i2 222 rfl rfl
theorem ki_X11_exit : Cond.instanceMethod yX11_exit ∈ lw_gt := lw_i2 220 rfl rfl
theorem kv_X11_exit : Cond.selects RX11 yX11_exit yX11_exit ∈ lw_gt := lw_i2 221 rfl rfl
theorem kl_L_32 : Cond.methodLink RL 32 yX12_exit ∈ lw_gt := lw_i8 72 rfl rfl
theorem kc_X12_exit : Cond.code yX12_exit cX12_exit 5 (some .int) ∈ lw_gt := lw_i8 75 rfl rfl
theorem ki_X12_exit : Cond.instanceMethod yX12_exit ∈ lw_gt := lw_i8 73 rfl rfl
theorem kv_X12_exit : Cond.selects RX12 yX12_exit yX12_exit ∈ lw_gt := lw_i8 74 rfl rfl
theorem kl_L_33 : Cond.methodLink RL 33 yX11_wagon ∈ lw_gt := lw_i2 227 rfl rfl
theorem kc_X11_wagon : Cond.code yX11_wagon cX11_wagon 6 (some .int) ∈ lw_gt := lw_i2 230 rfl rfl
theorem ki_X11_wagon : Cond.instanceMethod yX11_wagon ∈ lw_gt := lw_i2 228 rfl rfl
theorem kv_X11_wagon : Cond.selects RX11 yX11_wagon yX11_wagon ∈ lw_gt := lw_i2 229 rfl rfl
theorem kl_L_37 : Cond.methodLink RL 37 yX12_wagon ∈ lw_gt := lw_i8 104 rfl rfl
theorem kc_X12_wagon : Cond.code yX12_wagon cX12_wagon 6 (some .int) ∈ lw_gt := lw_i8 107 rfl rfl
theorem ki_X12_wagon : Cond.instanceMethod yX12_wagon ∈ lw_gt := lw_i8 105 rfl rfl
theorem kv_X12_wagon : Cond.selects RX12 yX12_wagon yX12_wagon ∈ lw_gt := lw_i8 106 rfl rfl
theorem kl_L_38 : Cond.methodLink RL 38 yX11_engine ∈ lw_gt := lw_i3 41 rfl rfl
theorem kc_X11_engine : Cond.code yX11_engine cX11_engine 5 (some .int) ∈ lw_gt := lw_i3 44 rfl rfl
theorem ki_X11_engine : Cond.instanceMethod yX11_engine ∈ lw_gt := lw_i3 42 rfl rfl
theorem kv_X11_engine : Cond.selects RX11 yX11_engine yX11_engine ∈ lw_gt := lw_i3 43 rfl rfl
theorem kl_L_42 : Cond.methodLink RL 42 yX12_engine ∈ lw_gt := lw_i8 124 rfl rfl
theorem kc_X12_engine : Cond.code yX12_engine cX12_engine 5 (some .int) ∈ lw_gt := lw_i8 127 rfl rfl
theorem ki_X12_engine : Cond.instanceMethod yX12_engine ∈ lw_gt := lw_i8 125 rfl rfl
theorem kv_X12_engine : Cond.selects RX12 yX12_engine yX12_engine ∈ lw_gt := lw_i8 126 rfl rfl
theorem kl_L_43 : Cond.methodLink RL 43 yX11_bar ∈ lw_gt := lw_i3 45 rfl rfl
theorem kc_X11_bar : Cond.code yX11_bar cX11_bar 4 (some .int) ∈ lw_gt := lw_i3 48 rfl rfl
theorem ki_X11_bar : Cond.instanceMethod yX11_bar ∈ lw_gt := lw_i3 46 rfl rfl
theorem kv_X11_bar : Cond.selects RX11 yX11_bar yX11_bar ∈ lw_gt := lw_i3 47 rfl rfl
theorem kl_L_46 : Cond.methodLink RL 46 yX12_bar ∈ lw_gt := lw_i8 76 rfl rfl
theorem kc_X12_bar : Cond.code yX12_bar cX12_bar 5 (some .int) ∈ lw_gt := lw_i8 79 rfl rfl
theorem ki_X12_bar : Cond.instanceMethod yX12_bar ∈ lw_gt := lw_i8 77 rfl rfl
theorem kv_X12_bar : Cond.selects RX12 yX12_bar yX12_bar ∈ lw_gt := lw_i8 78 rfl rfl
theorem kl_L_47 : Cond.methodLink RL 47 yX11_table ∈ lw_gt := lw_i3 58 rfl rfl
theorem kc_X11_table : Cond.code yX11_table cX11_table 4 (some .int) ∈ lw_gt := lw_i3 61 rfl rfl
theorem ki_X11_table : Cond.instanceMethod yX11_table ∈ lw_gt := lw_i3 59 rfl rfl
theorem kv_X11_table : Cond.selects RX11 yX11_table yX11_table ∈ lw_gt := lw_i3 60 rfl rfl
theorem kl_L_50 : Cond.methodLink RL 50 yX12_table ∈ lw_gt := lw_i8 80 rfl rfl
theorem kc_X12_table : Cond.code yX12_table cX12_table 4 (some .int) ∈ lw_gt := lw_i8 83 rfl rfl
theorem ki_X12_table : Cond.instanceMethod yX12_table ∈ lw_gt := lw_i8 81 rfl rfl
theorem kv_X12_table : Cond.selects RX12 yX12_table yX12_table ∈ lw_gt := lw_i8 82 rfl rfl
theorem kl_L_51 : Cond.methodLink RL 51 yX11_route ∈ lw_gt := lw_i3 62 rfl rfl
theorem kc_X11_route : Cond.code yX11_route cX11_route 1 (some .int) ∈ lw_gt := lw_i3 65 rfl rfl
theorem ki_X11_route : Cond.instanceMethod yX11_route ∈ lw_gt := lw_i3 63 rfl rfl
theorem kv_X11_route : Cond.selects RX11 yX11_route yX11_route ∈ lw_gt := lw_i3 64 rfl rfl
theorem kl_L_55 : Cond.methodLink RL 55 yX12_route ∈ lw_gt := lw_i8 84 rfl rfl
theorem kc_X12_route : Cond.code yX12_route cX12_route 1 (some .int) ∈ lw_gt := lw_i8 87 rfl rfl
theorem ki_X12_route : Cond.instanceMethod yX12_route ∈ lw_gt := lw_i8 85 rfl rfl
theorem kv_X12_route : Cond.selects RX12 yX12_route yX12_route ∈ lw_gt := lw_i8 86 rfl rfl
theorem kl_L_56 : Cond.methodLink RL 56 yX11_via ∈ lw_gt := lw_i3 70 rfl rfl
theorem kc_X11_via : Cond.code yX11_via cX11_via 6 (some .int) ∈ lw_gt := lw_i3 73 rfl rfl
theorem ki_X11_via : Cond.instanceMethod yX11_via ∈ lw_gt := lw_i3 71 rfl rfl
theorem kv_X11_via : Cond.selects RX11 yX11_via yX11_via ∈ lw_gt := lw_i3 72 rfl rfl
theorem kl_L_59 : Cond.methodLink RL 59 yX12_via ∈ lw_gt := lw_i8 88 rfl rfl
theorem kc_X12_via : Cond.code yX12_via cX12_via 8 (some .int) ∈ lw_gt := lw_i8 91 rfl rfl
theorem ki_X12_via : Cond.instanceMethod yX12_via ∈ lw_gt := lw_i8 89 rfl rfl
theorem kv_X12_via : Cond.selects RX12 yX12_via yX12_via ∈ lw_gt := lw_i8 90 rfl rfl
theorem kl_L_60 : Cond.methodLink RL 60 yX11_load ∈ lw_gt := lw_i3 114 rfl rfl
theorem kc_X11_load : Cond.code yX11_load cX11_load 5 (some .int) ∈ lw_gt := lw_i3 117 rfl rfl
theorem ki_X11_load : Cond.instanceMethod yX11_load ∈ lw_gt := lw_i3 115 rfl rfl
theorem kv_X11_load : Cond.selects RX11 yX11_load yX11_load ∈ lw_gt := lw_i3 116 rfl rfl
theorem kl_L_64 : Cond.methodLink RL 64 yX12_load ∈ lw_gt := lw_i8 128 rfl rfl
theorem kc_X12_load : Cond.code yX12_load cX12_load 5 (some .int) ∈ lw_gt := lw_i8 131 rfl rfl
theorem ki_X12_load : Cond.instanceMethod yX12_load ∈ lw_gt := lw_i8 129 rfl rfl
theorem kv_X12_load : Cond.selects RX12 yX12_load yX12_load ∈ lw_gt := lw_i8 130 rfl rfl
theorem kl_L_65 : Cond.methodLink RL 65 yX11_piece ∈ lw_gt := lw_i3 142 rfl rfl
theorem kc_X11_piece : Cond.code yX11_piece cX11_piece 6 (some .int) ∈ lw_gt := lw_i3 145 rfl rfl
theorem ki_X11_piece : Cond.instanceMethod yX11_piece ∈ lw_gt := lw_i3 143 rfl rfl
theorem kv_X11_piece : Cond.selects RX11 yX11_piece yX11_piece ∈ lw_gt := lw_i3 144 rfl rfl
theorem kl_L_68 : Cond.methodLink RL 68 yX12_piece ∈ lw_gt := lw_i8 140 rfl rfl
theorem kc_X12_piece : Cond.code yX12_piece cX12_piece 5 (some .int) ∈ lw_gt := lw_i8 143 rfl rfl
theorem ki_X12_piece : Cond.instanceMethod yX12_piece ∈ lw_gt := lw_i8 141 rfl rfl
theorem kv_X12_piece : Cond.selects RX12 yX12_piece yX12_piece ∈ lw_gt := lw_i8 142 rfl rfl
theorem kl_L_69 : Cond.methodLink RL 69 yX11_danger ∈ lw_gt := lw_i3 154 rfl rfl
theorem kc_X11_danger : Cond.code yX11_danger cX11_danger 3 (some .int) ∈ lw_gt := lw_i3 157 rfl rfl
theorem ki_X11_danger : Cond.instanceMethod yX11_danger ∈ lw_gt := lw_i3 155 rfl rfl
theorem kv_X11_danger : Cond.selects RX11 yX11_danger yX11_danger ∈ lw_gt := lw_i3 156 rfl rfl
theorem kl_L_72 : Cond.methodLink RL 72 yX12_danger ∈ lw_gt := lw_i8 164 rfl rfl
theorem kc_X12_danger : Cond.code yX12_danger cX12_danger 4 (some .int) ∈ lw_gt := lw_i8 167 rfl rfl
theorem ki_X12_danger : Cond.instanceMethod yX12_danger ∈ lw_gt := lw_i8 165 rfl rfl
theorem kv_X12_danger : Cond.selects RX12 yX12_danger yX12_danger ∈ lw_gt := lw_i8 166 rfl rfl
theorem kl_L_73 : Cond.methodLink RL 73 yX11_hold ∈ lw_gt := lw_i3 194 rfl rfl
theorem kc_X11_hold : Cond.code yX11_hold cX11_hold 3 (some .int) ∈ lw_gt := lw_i3 197 rfl rfl
theorem ki_X11_hold : Cond.instanceMethod yX11_hold ∈ lw_gt := lw_i3 195 rfl rfl
theorem kv_X11_hold : Cond.selects RX11 yX11_hold yX11_hold ∈ lw_gt := lw_i3 196 rfl rfl
theorem kl_L_76 : Cond.methodLink RL 76 yX12_hold ∈ lw_gt := lw_i8 176 rfl rfl
theorem kc_X12_hold : Cond.code yX12_hold cX12_hold 4 (some .int) ∈ lw_gt := lw_i8 179 rfl rfl
theorem ki_X12_hold : Cond.instanceMethod yX12_hold ∈ lw_gt := lw_i8 177 rfl rfl
theorem kv_X12_hold : Cond.selects RX12 yX12_hold yX12_hold ∈ lw_gt := lw_i8 178 rfl rfl
theorem kl_L_77 : Cond.methodLink RL 77 yX11_jam ∈ lw_gt := lw_i3 198 rfl rfl
theorem kc_X11_jam : Cond.code yX11_jam cX11_jam 3 (some .int) ∈ lw_gt := lw_i3 201 rfl rfl
theorem ki_X11_jam : Cond.instanceMethod yX11_jam ∈ lw_gt := lw_i3 199 rfl rfl
theorem kv_X11_jam : Cond.selects RX11 yX11_jam yX11_jam ∈ lw_gt := lw_i3 200 rfl rfl
theorem kl_L_80 : Cond.methodLink RL 80 yX12_jam ∈ lw_gt := lw_i8 180 rfl rfl
theorem kc_X12_jam : Cond.code yX12_jam cX12_jam 4 (some .int) ∈ lw_gt := lw_i8 183 rfl rfl
theorem ki_X12_jam : Cond.instanceMethod yX12_jam ∈ lw_gt := lw_i8 181 rfl rfl
theorem kv_X12_jam : Cond.selects RX12 yX12_jam yX12_jam ∈ lw_gt := lw_i8 182 rfl rfl
theorem kl_L_81 : Cond.methodLink RL 81 yX11_raise ∈ lw_gt := lw_i3 202 rfl rfl
theorem kc_X11_raise : Cond.code yX11_raise cX11_raise 3 (some .int) ∈ lw_gt := lw_i3 205 rfl rfl
theorem ki_X11_raise : Cond.instanceMethod yX11_raise ∈ lw_gt := lw_i3 203 rfl rfl
theorem kv_X11_raise : Cond.selects RX11 yX11_raise yX11_raise ∈ lw_gt := lw_i3 204 rfl rfl
theorem kl_L_84 : Cond.methodLink RL 84 yX12_raise ∈ lw_gt := lw_i8 184 rfl rfl
theorem kc_X12_raise : Cond.code yX12_raise cX12_raise 3 (some .int) ∈ lw_gt := lw_i8 187 rfl rfl
theorem ki_X12_raise : Cond.instanceMethod yX12_raise ∈ lw_gt := lw_i8 185 rfl rfl
theorem kv_X12_raise : Cond.selects RX12 yX12_raise yX12_raise ∈ lw_gt := lw_i8 186 rfl rfl
theorem kl_L_85 : Cond.methodLink RL 85 yX11_turn ∈ lw_gt := lw_i3 211 rfl rfl
theorem kc_X11_turn : Cond.code yX11_turn cX11_turn 3 (some .int) ∈ lw_gt := lw_i3 214 rfl rfl
theorem ki_X11_turn : Cond.instanceMethod yX11_turn ∈ lw_gt := lw_i3 212 rfl rfl
theorem kv_X11_turn : Cond.selects RX11 yX11_turn yX11_turn ∈ lw_gt := lw_i3 213 rfl rfl
theorem kl_L_88 : Cond.methodLink RL 88 yX12_turn ∈ lw_gt := lw_i8 192 rfl rfl
theorem kc_X12_turn : Cond.code yX12_turn cX12_turn 4 (some .int) ∈ lw_gt := lw_i8 195 rfl rfl
theorem ki_X12_turn : Cond.instanceMethod yX12_turn ∈ lw_gt := lw_i8 193 rfl rfl
theorem kv_X12_turn : Cond.selects RX12 yX12_turn yX12_turn ∈ lw_gt := lw_i8 194 rfl rfl
theorem kl_L_89 : Cond.methodLink RL 89 yX11_lock ∈ lw_gt := lw_i4 9 rfl rfl
theorem kc_X11_lock : Cond.code yX11_lock cX11_lock 2 (some .int) ∈ lw_gt := lw_i4 12 rfl rfl
theorem ki_X11_lock : Cond.instanceMethod yX11_lock ∈ lw_gt := lw_i4 10 rfl rfl
theorem kv_X11_lock : Cond.selects RX11 yX11_lock yX11_lock ∈ lw_gt := lw_i4 11 rfl rfl
theorem kl_L_92 : Cond.methodLink RL 92 yX12_lock ∈ lw_gt := lw_i8 208 rfl rfl
theorem kc_X12_lock : Cond.code yX12_lock cX12_lock 6 (some .int) ∈ lw_gt := lw_i8 211 rfl rfl
theorem ki_X12_lock : Cond.instanceMethod yX12_lock ∈ lw_gt := lw_i8 209 rfl rfl
theorem kv_X12_lock : Cond.selects RX12 yX12_lock yX12_lock ∈ lw_gt := lw_i8 210 rfl rfl
theorem kl_L_93 : Cond.methodLink RL 93 yX11_free ∈ lw_gt := lw_i4 26 rfl rfl
theorem kc_X11_free : Cond.code yX11_free cX11_free 2 (some .int) ∈ lw_gt := lw_i4 29 rfl rfl
theorem ki_X11_free : Cond.instanceMethod yX11_free ∈ lw_gt := lw_i4 27 rfl rfl
theorem kv_X11_free : Cond.selects RX11 yX11_free yX11_free ∈ lw_gt := lw_i4 28 rfl rfl
theorem kl_L_96 : Cond.methodLink RL 96 yX12_free ∈ lw_gt := lw_i8 216 rfl rfl
theorem kc_X12_free : Cond.code yX12_free cX12_free 4 (some .int) ∈ lw_gt := lw_i8 219 rfl rfl
theorem ki_X12_free : Cond.instanceMethod yX12_free ∈ lw_gt := lw_i8 217 rfl rfl
theorem kv_X12_free : Cond.selects RX12 yX12_free yX12_free ∈ lw_gt := lw_i8 218 rfl rfl
theorem kl_L_97 : Cond.methodLink RL 97 yX11_couple ∈ lw_gt := lw_i4 34 rfl rfl
theorem kc_X11_couple : Cond.code yX11_couple cX11_couple 3 (some .int) ∈ lw_gt := lw_i4 37 rfl rfl
theorem ki_X11_couple : Cond.instanceMethod yX11_couple ∈ lw_gt := lw_i4 35 rfl rfl
theorem kv_X11_couple : Cond.selects RX11 yX11_couple yX11_couple ∈ lw_gt := lw_i4 36 rfl rfl
theorem kl_L_100 : Cond.methodLink RL 100 yX12_couple ∈ lw_gt := lw_i8 220 rfl rfl
theorem kc_X12_couple : Cond.code yX12_couple cX12_couple 3 (some .int) ∈ lw_gt := lw_i8 223 rfl rfl
theorem ki_X12_couple : Cond.instanceMethod yX12_couple ∈ lw_gt := lw_i8 221 rfl rfl
theorem kv_X12_couple : Cond.selects RX12 yX12_couple yX12_couple ∈ lw_gt := lw_i8 222 rfl rfl
theorem kl_L_101 : Cond.methodLink RL 101 yX11_part ∈ lw_gt := lw_i4 145 rfl rfl
theorem kc_X11_part : Cond.code yX11_part cX11_part 3 (some .int) ∈ lw_gt := lw_i4 148 rfl rfl
theorem ki_X11_part : Cond.instanceMethod yX11_part ∈ lw_gt := lw_i4 146 rfl rfl
theorem kv_X11_part : Cond.selects RX11 yX11_part yX11_part ∈ lw_gt := lw_i4 147 rfl rfl
theorem kl_L_104 : Cond.methodLink RL 104 yX12_part ∈ lw_gt := lw_i9 28 rfl rfl
theorem kc_X12_part : Cond.code yX12_part cX12_part 5 (some .int) ∈ lw_gt := lw_i9 31 rfl rfl
theorem ki_X12_part : Cond.instanceMethod yX12_part ∈ lw_gt := lw_i9 29 rfl rfl
theorem kv_X12_part : Cond.selects RX12 yX12_part yX12_part ∈ lw_gt := lw_i9 30 rfl rfl
theorem kl_L_105 : Cond.methodLink RL 105 yX11_pull ∈ lw_gt := lw_i4 157 rfl rfl
theorem kc_X11_pull : Cond.code yX11_pull cX11_pull 4 (some .int) ∈ lw_gt := lw_i4 160 rfl rfl
theorem ki_X11_pull : Cond.instanceMethod yX11_pull ∈ lw_gt := lw_i4 158 rfl rfl
theorem kv_X11_pull : Cond.selects RX11 yX11_pull yX11_pull ∈ lw_gt := lw_i4 159 rfl rfl
theorem kl_L_108 : Cond.methodLink RL 108 yX12_pull ∈ lw_gt := lw_i9 32 rfl rfl
theorem kc_X12_pull : Cond.code yX12_pull cX12_pull 5 (some .int) ∈ lw_gt := lw_i9 35 rfl rfl
theorem ki_X12_pull : Cond.instanceMethod yX12_pull ∈ lw_gt := lw_i9 33 rfl rfl
theorem kv_X12_pull : Cond.selects RX12 yX12_pull yX12_pull ∈ lw_gt := lw_i9 34 rfl rfl
theorem kl_L_109 : Cond.methodLink RL 109 yX11_kick ∈ lw_gt := lw_i4 216 rfl rfl
theorem kc_X11_kick : Cond.code yX11_kick cX11_kick 3 (some .int) ∈ lw_gt := lw_i4 219 rfl rfl
theorem ki_X11_kick : Cond.instanceMethod yX11_kick ∈ lw_gt := lw_i4 217 rfl rfl
theorem kv_X11_kick : Cond.selects RX11 yX11_kick yX11_kick ∈ lw_gt := lw_i4 218 rfl rfl
theorem kl_L_112 : Cond.methodLink RL 112 yX12_kick ∈ lw_gt := lw_i9 72 rfl rfl
theorem kc_X12_kick : Cond.code yX12_kick cX12_kick 6 (some .int) ∈ lw_gt := lw_i9 75 rfl rfl
theorem ki_X12_kick : Cond.instanceMethod yX12_kick ∈ lw_gt := lw_i9 73 rfl rfl
theorem kv_X12_kick : Cond.selects RX12 yX12_kick yX12_kick ∈ lw_gt := lw_i9 74 rfl rfl
theorem kl_L_113 : Cond.methodLink RL 113 yX11_step ∈ lw_gt := lw_i4 235 rfl rfl
theorem kc_X11_step : Cond.code yX11_step cX11_step 2 (some .int) ∈ lw_gt := lw_i4 238 rfl rfl
theorem ki_X11_step : Cond.instanceMethod yX11_step ∈ lw_gt := lw_i4 236 rfl rfl
theorem kv_X11_step : Cond.selects RX11 yX11_step yX11_step ∈ lw_gt := lw_i4 237 rfl rfl
theorem kl_L_116 : Cond.methodLink RL 116 yX12_step ∈ lw_gt := lw_i9 80 rfl rfl
theorem kc_X12_step : Cond.code yX12_step cX12_step 5 (some .int) ∈ lw_gt := lw_i9 83 rfl rfl
theorem ki_X12_step : Cond.instanceMethod yX12_step ∈ lw_gt := lw_i9 81 rfl rfl
theorem kv_X12_step : Cond.selects RX12 yX12_step yX12_step ∈ lw_gt := lw_i9 82 rfl rfl
theorem kl_L_117 : Cond.methodLink RL 117 yX11_test ∈ lw_gt := lw_i5 24 rfl rfl
theorem kc_X11_test : Cond.code yX11_test cX11_test 2 (some .int) ∈ lw_gt := lw_i5 27 rfl rfl
theorem ki_X11_test : Cond.instanceMethod yX11_test ∈ lw_gt := lw_i5 25 rfl rfl
theorem kv_X11_test : Cond.selects RX11 yX11_test yX11_test ∈ lw_gt := lw_i5 26 rfl rfl
theorem kl_L_120 : Cond.methodLink RL 120 yX12_test ∈ lw_gt := lw_i9 100 rfl rfl
theorem kc_X12_test : Cond.code yX12_test cX12_test 6 (some .int) ∈ lw_gt := lw_i9 103 rfl rfl
theorem ki_X12_test : Cond.instanceMethod yX12_test ∈ lw_gt := lw_i9 101 rfl rfl
theorem kv_X12_test : Cond.selects RX12 yX12_test yX12_test ∈ lw_gt := lw_i9 102 rfl rfl
theorem kl_L_121 : Cond.methodLink RL 121 yX11_leave ∈ lw_gt := lw_i5 49 rfl rfl
theorem kc_X11_leave : Cond.code yX11_leave cX11_leave 2 (some .int) ∈ lw_gt := lw_i5 52 rfl rfl
theorem ki_X11_leave : Cond.instanceMethod yX11_leave ∈ lw_gt := lw_i5 50 rfl rfl
theorem kv_X11_leave : Cond.selects RX11 yX11_leave yX11_leave ∈ lw_gt := lw_i5 51 rfl rfl
theorem kl_L_124 : Cond.methodLink RL 124 yX12_leave ∈ lw_gt := lw_i9 112 rfl rfl
theorem kc_X12_leave : Cond.code yX12_leave cX12_leave 3 (some .int) ∈ lw_gt := lw_i9 115 rfl rfl
theorem ki_X12_leave : Cond.instanceMethod yX12_leave ∈ lw_gt := lw_i9 113 rfl rfl
theorem kv_X12_leave : Cond.selects RX12 yX12_leave yX12_leave ∈ lw_gt := lw_i9 114 rfl rfl
theorem kl_L_125 : Cond.methodLink RL 125 yX11_roll ∈ lw_gt := lw_i5 69 rfl rfl
theorem kc_X11_roll : Cond.code yX11_roll cX11_roll 7 (some .int) ∈ lw_gt := lw_i5 72 rfl rfl
theorem ki_X11_roll : Cond.instanceMethod yX11_roll ∈ lw_gt := lw_i5 70 rfl rfl
theorem kv_X11_roll : Cond.selects RX11 yX11_roll yX11_roll ∈ lw_gt := lw_i5 71 rfl rfl
theorem kl_L_128 : Cond.methodLink RL 128 yX12_roll ∈ lw_gt := lw_i9 124 rfl rfl
theorem kc_X12_roll : Cond.code yX12_roll cX12_roll 6 (some .int) ∈ lw_gt := lw_i9 127 rfl rfl
theorem ki_X12_roll : Cond.instanceMethod yX12_roll ∈ lw_gt := lw_i9 125 rfl rfl
theorem kv_X12_roll : Cond.selects RX12 yX12_roll yX12_roll ∈ lw_gt := lw_i9 126 rfl rfl
theorem kl_L_129 : Cond.methodLink RL 129 yX11_store ∈ lw_gt := lw_i5 74 rfl rfl
theorem kc_X11_store : Cond.code yX11_store cX11_store 4 (some .int) ∈ lw_gt := lw_i5 77 rfl rfl
theorem ki_X11_store : Cond.instanceMethod yX11_store ∈ lw_gt := lw_i5 75 rfl rfl
theorem kv_X11_store : Cond.selects RX11 yX11_store yX11_store ∈ lw_gt := lw_i5 76 rfl rfl
theorem kl_L_132 : Cond.methodLink RL 132 yX12_store ∈ lw_gt := lw_i9 128 rfl rfl
theorem kc_X12_store : Cond.code yX12_store cX12_store 3 (some .int) ∈ lw_gt := lw_i9 131 rfl rfl
theorem ki_X12_store : Cond.instanceMethod yX12_store ∈ lw_gt := lw_i9 129 rfl rfl
theorem kv_X12_store : Cond.selects RX12 yX12_store yX12_store ∈ lw_gt := lw_i9 130 rfl rfl
theorem kl_L_133 : Cond.methodLink RL 133 yX11_rolled ∈ lw_gt := lw_i5 78 rfl rfl
theorem kc_X11_rolled : Cond.code yX11_rolled cX11_rolled 2 (some .int) ∈ lw_gt := lw_i5 81 rfl rfl
theorem ki_X11_rolled : Cond.instanceMethod yX11_rolled ∈ lw_gt := lw_i5 79 rfl rfl
theorem kv_X11_rolled : Cond.selects RX11 yX11_rolled yX11_rolled ∈ lw_gt := lw_i5 80 rfl rfl
theorem kl_L_136 : Cond.methodLink RL 136 yX12_rolled ∈ lw_gt := lw_i9 132 rfl rfl
theorem kc_X12_rolled : Cond.code yX12_rolled cX12_rolled 2 (some .int) ∈ lw_gt := lw_i9 135 rfl rfl
theorem ki_X12_rolled : Cond.instanceMethod yX12_rolled ∈ lw_gt := lw_i9 133 rfl rfl
theorem kv_X12_rolled : Cond.selects RX12 yX12_rolled yX12_rolled ∈ lw_gt := lw_i9 134 rfl rfl
theorem kl_L_137 : Cond.methodLink RL 137 yX11_at ∈ lw_gt := lw_i5 82 rfl rfl
theorem kc_X11_at : Cond.code yX11_at cX11_at 4 (some .int) ∈ lw_gt := lw_i5 85 rfl rfl
theorem ki_X11_at : Cond.instanceMethod yX11_at ∈ lw_gt := lw_i5 83 rfl rfl
theorem kv_X11_at : Cond.selects RX11 yX11_at yX11_at ∈ lw_gt := lw_i5 84 rfl rfl
theorem kl_L_140 : Cond.methodLink RL 140 yX12_at ∈ lw_gt := lw_i9 136 rfl rfl
theorem kc_X12_at : Cond.code yX12_at cX12_at 3 (some .int) ∈ lw_gt := lw_i9 139 rfl rfl
theorem ki_X12_at : Cond.instanceMethod yX12_at ∈ lw_gt := lw_i9 137 rfl rfl
theorem kv_X12_at : Cond.selects RX12 yX12_at yX12_at ∈ lw_gt := lw_i9 138 rfl rfl
theorem kl_L_141 : Cond.methodLink RL 141 yX11_thing ∈ lw_gt := lw_i5 86 rfl rfl
theorem kc_X11_thing : Cond.code yX11_thing cX11_thing 4 (some .int) ∈ lw_gt := lw_i5 89 rfl rfl
theorem ki_X11_thing : Cond.instanceMethod yX11_thing ∈ lw_gt := lw_i5 87 rfl rfl
theorem kv_X11_thing : Cond.selects RX11 yX11_thing yX11_thing ∈ lw_gt := lw_i5 88 rfl rfl
theorem kl_L_144 : Cond.methodLink RL 144 yX12_thing ∈ lw_gt := lw_i9 140 rfl rfl
theorem kc_X12_thing : Cond.code yX12_thing cX12_thing 3 (some .int) ∈ lw_gt := lw_i9 143 rfl rfl
theorem ki_X12_thing : Cond.instanceMethod yX12_thing ∈ lw_gt := lw_i9 141 rfl rfl
theorem kv_X12_thing : Cond.selects RX12 yX12_thing yX12_thing ∈ lw_gt := lw_i9 142 rfl rfl
theorem kl_L_145 : Cond.methodLink RL 145 yX11_pointed ∈ lw_gt := lw_i5 93 rfl rfl
theorem kc_X11_pointed : Cond.code yX11_pointed cX11_pointed 5 (some .int) ∈ lw_gt := lw_i5 96 rfl rfl
theorem ki_X11_pointed : Cond.instanceMethod yX11_pointed ∈ lw_gt := lw_i5 94 rfl rfl
theorem kv_X11_pointed : Cond.selects RX11 yX11_pointed yX11_pointed ∈ lw_gt := lw_i5 95 rfl rfl
theorem kl_L_148 : Cond.methodLink RL 148 yX12_pointed ∈ lw_gt := lw_i9 144 rfl rfl
theorem kc_X12_pointed : Cond.code yX12_pointed cX12_pointed 3 (some .int) ∈ lw_gt := lw_i9 147 rfl rfl
theorem ki_X12_pointed : Cond.instanceMethod yX12_pointed ∈ lw_gt := lw_i9 145 rfl rfl
theorem kv_X12_pointed : Cond.selects RX12 yX12_pointed yX12_pointed ∈ lw_gt := lw_i9 146 rfl rfl
theorem kl_L_149 : Cond.methodLink RL 149 yX11_ask ∈ lw_gt := lw_i5 101 rfl rfl
theorem kc_X11_ask : Cond.code yX11_ask cX11_ask 4 (some .int) ∈ lw_gt := lw_i5 104 rfl rfl
theorem ki_X11_ask : Cond.instanceMethod yX11_ask ∈ lw_gt := lw_i5 102 rfl rfl
theorem kv_X11_ask : Cond.selects RX11 yX11_ask yX11_ask ∈ lw_gt := lw_i5 103 rfl rfl
theorem kl_L_152 : Cond.methodLink RL 152 yX12_ask ∈ lw_gt := lw_i9 148 rfl rfl
theorem kc_X12_ask : Cond.code yX12_ask cX12_ask 5 (some .int) ∈ lw_gt := lw_i9 151 rfl rfl
theorem ki_X12_ask : Cond.instanceMethod yX12_ask ∈ lw_gt := lw_i9 149 rfl rfl
theorem kv_X12_ask : Cond.selects RX12 yX12_ask yX12_ask ∈ lw_gt := lw_i9 150 rfl rfl
theorem kl_L_153 : Cond.methodLink RL 153 yX11_meet ∈ lw_gt := lw_i5 112 rfl rfl
theorem kc_X11_meet : Cond.code yX11_meet cX11_meet 7 (some .int) ∈ lw_gt := lw_i5 115 rfl rfl
theorem ki_X11_meet : Cond.instanceMethod yX11_meet ∈ lw_gt := lw_i5 113 rfl rfl
theorem kv_X11_meet : Cond.selects RX11 yX11_meet yX11_meet ∈ lw_gt := lw_i5 114 rfl rfl
theorem kl_L_156 : Cond.methodLink RL 156 yX12_meet ∈ lw_gt := lw_i9 152 rfl rfl
theorem kc_X12_meet : Cond.code yX12_meet cX12_meet 8 (some .int) ∈ lw_gt := lw_i9 155 rfl rfl
theorem ki_X12_meet : Cond.instanceMethod yX12_meet ∈ lw_gt := lw_i9 153 rfl rfl
theorem kv_X12_meet : Cond.selects RX12 yX12_meet yX12_meet ∈ lw_gt := lw_i9 154 rfl rfl
theorem kl_L_157 : Cond.methodLink RL 157 yX11_weigh ∈ lw_gt := lw_i5 117 rfl rfl
theorem kc_X11_weigh : Cond.code yX11_weigh cX11_weigh 3 (some .int) ∈ lw_gt := lw_i5 120 rfl rfl
theorem ki_X11_weigh : Cond.instanceMethod yX11_weigh ∈ lw_gt := lw_i5 118 rfl rfl
theorem kv_X11_weigh : Cond.selects RX11 yX11_weigh yX11_weigh ∈ lw_gt := lw_i5 119 rfl rfl
theorem kl_L_160 : Cond.methodLink RL 160 yX12_weigh ∈ lw_gt := lw_i9 156 rfl rfl
theorem kc_X12_weigh : Cond.code yX12_weigh cX12_weigh 4 (some .int) ∈ lw_gt := lw_i9 159 rfl rfl
theorem ki_X12_weigh : Cond.instanceMethod yX12_weigh ∈ lw_gt := lw_i9 157 rfl rfl
theorem kv_X12_weigh : Cond.selects RX12 yX12_weigh yX12_weigh ∈ lw_gt := lw_i9 158 rfl rfl
theorem kl_L_161 : Cond.methodLink RL 161 yX11_share ∈ lw_gt := lw_i5 121 rfl rfl
theorem kc_X11_share : Cond.code yX11_share cX11_share 6 (some .int) ∈ lw_gt := lw_i5 124 rfl rfl
theorem ki_X11_share : Cond.instanceMethod yX11_share ∈ lw_gt := lw_i5 122 rfl rfl
theorem kv_X11_share : Cond.selects RX11 yX11_share yX11_share ∈ lw_gt := lw_i5 123 rfl rfl
theorem kl_L_164 : Cond.methodLink RL 164 yX12_share ∈ lw_gt := lw_i9 160 rfl rfl
theorem kc_X12_share : Cond.code yX12_share cX12_share 5 (some .int) ∈ lw_gt := lw_i9 163 rfl rfl
theorem ki_X12_share : Cond.instanceMethod yX12_share ∈ lw_gt := lw_i9 161 rfl rfl
theorem kv_X12_share : Cond.selects RX12 yX12_share yX12_share ∈ lw_gt := lw_i9 162 rfl rfl
theorem kl_L_165 : Cond.methodLink RL 165 yX11_consist ∈ lw_gt := lw_i5 125 rfl rfl
theorem kc_X11_consist : Cond.code yX11_consist cX11_consist 4 (some .int) ∈ lw_gt := lw_i5 128 rfl rfl
theorem ki_X11_consist : Cond.instanceMethod yX11_consist ∈ lw_gt := lw_i5 126 rfl rfl
theorem kv_X11_consist : Cond.selects RX11 yX11_consist yX11_consist ∈ lw_gt := lw_i5 127 rfl rfl
theorem kl_L_168 : Cond.methodLink RL 168 yX12_consist ∈ lw_gt := lw_i9 164 rfl rfl
theorem kc_X12_consist : Cond.code yX12_consist cX12_consist 3 (some .int) ∈ lw_gt := lw_i9 167 rfl rfl
theorem ki_X12_consist : Cond.instanceMethod yX12_consist ∈ lw_gt := lw_i9 165 rfl rfl
theorem kv_X12_consist : Cond.selects RX12 yX12_consist yX12_consist ∈ lw_gt := lw_i9 166 rfl rfl
theorem kl_L_169 : Cond.methodLink RL 169 yX11_finding ∈ lw_gt := lw_i5 129 rfl rfl
theorem kc_X11_finding : Cond.code yX11_finding cX11_finding 2 (some .int) ∈ lw_gt := lw_i5 132 rfl rfl
theorem ki_X11_finding : Cond.instanceMethod yX11_finding ∈ lw_gt := lw_i5 130 rfl rfl
theorem kv_X11_finding : Cond.selects RX11 yX11_finding yX11_finding ∈ lw_gt := lw_i5 131 rfl rfl
theorem kl_L_172 : Cond.methodLink RL 172 yX12_finding ∈ lw_gt := lw_i8 25 rfl rfl
theorem kc_X12_finding : Cond.code yX12_finding cX12_finding 2 (some .int) ∈ lw_gt := lw_i8 28 rfl rfl
theorem ki_X12_finding : Cond.instanceMethod yX12_finding ∈ lw_gt := lw_i8 26 rfl rfl
theorem kv_X12_finding : Cond.selects RX12 yX12_finding yX12_finding ∈ lw_gt := lw_i8 27 rfl rfl
theorem kl_L_173 : Cond.methodLink RL 173 yX11_count ∈ lw_gt := lw_i5 133 rfl rfl
theorem kc_X11_count : Cond.code yX11_count cX11_count 2 (some .int) ∈ lw_gt := lw_i5 136 rfl rfl
theorem ki_X11_count : Cond.instanceMethod yX11_count ∈ lw_gt := lw_i5 134 rfl rfl
theorem kv_X11_count : Cond.selects RX11 yX11_count yX11_count ∈ lw_gt := lw_i5 135 rfl rfl
theorem kl_L_176 : Cond.methodLink RL 176 yX12_count ∈ lw_gt := lw_i9 168 rfl rfl
theorem kc_X12_count : Cond.code yX12_count cX12_count 4 (some .int) ∈ lw_gt := lw_i9 171 rfl rfl
theorem ki_X12_count : Cond.instanceMethod yX12_count ∈ lw_gt := lw_i9 169 rfl rfl
theorem kv_X12_count : Cond.selects RX12 yX12_count yX12_count ∈ lw_gt := lw_i9 170 rfl rfl
theorem kl_L_177 : Cond.methodLink RL 177 yX11_trace ∈ lw_gt := lw_i5 151 rfl rfl
theorem kc_X11_trace : Cond.code yX11_trace cX11_trace 2 (some .int) ∈ lw_gt := lw_i5 154 rfl rfl
theorem ki_X11_trace : Cond.instanceMethod yX11_trace ∈ lw_gt := lw_i5 152 rfl rfl
theorem kv_X11_trace : Cond.selects RX11 yX11_trace yX11_trace ∈ lw_gt := lw_i5 153 rfl rfl
theorem kl_L_180 : Cond.methodLink RL 180 yX12_trace ∈ lw_gt := lw_i8 29 rfl rfl
theorem kc_X12_trace : Cond.code yX12_trace cX12_trace 2 (some .int) ∈ lw_gt := lw_i8 32 rfl rfl
theorem ki_X12_trace : Cond.instanceMethod yX12_trace ∈ lw_gt := lw_i8 30 rfl rfl
theorem kv_X12_trace : Cond.selects RX12 yX12_trace yX12_trace ∈ lw_gt := lw_i8 31 rfl rfl
theorem kl_L_189 : Cond.methodLink RL 189 yX11_digest ∈ lw_gt := lw_i5 179 rfl rfl
theorem kc_X11_digest : Cond.code yX11_digest cX11_digest 4 (some .long) ∈ lw_gt := lw_i5 182 rfl rfl
theorem ki_X11_digest : Cond.instanceMethod yX11_digest ∈ lw_gt := lw_i5 180 rfl rfl
theorem kv_X11_digest : Cond.selects RX11 yX11_digest yX11_digest ∈ lw_gt := lw_i5 181 rfl rfl
theorem kl_L_194 : Cond.methodLink RL 194 yX11_log ∈ lw_gt := lw_i5 189 rfl rfl
theorem kc_X11_log : Cond.code yX11_log cX11_log 3 (some .int) ∈ lw_gt := lw_i5 192 rfl rfl
theorem ki_X11_log : Cond.instanceMethod yX11_log ∈ lw_gt := lw_i5 190 rfl rfl
theorem kv_X11_log : Cond.selects RX11 yX11_log yX11_log ∈ lw_gt := lw_i5 191 rfl rfl
theorem kl_L_197 : Cond.methodLink RL 197 yX12_log ∈ lw_gt := lw_i8 160 rfl rfl
theorem kc_X12_log : Cond.code yX12_log cX12_log 4 (some .int) ∈ lw_gt := lw_i8 163 rfl rfl
theorem ki_X12_log : Cond.instanceMethod yX12_log ∈ lw_gt := lw_i8 161 rfl rfl
theorem kv_X12_log : Cond.selects RX12 yX12_log yX12_log ∈ lw_gt := lw_i8 162 rfl rfl
theorem kl_L_198 : Cond.methodLink RL 198 yX11_room ∈ lw_gt := lw_i5 197 rfl rfl
theorem kc_X11_room : Cond.code yX11_room cX11_room 3 (some .int) ∈ lw_gt := lw_i5 200 rfl rfl
theorem ki_X11_room : Cond.instanceMethod yX11_room ∈ lw_gt := lw_i5 198 rfl rfl
theorem kv_X11_room : Cond.selects RX11 yX11_room yX11_room ∈ lw_gt := lw_i5 199 rfl rfl
theorem kl_L_201 : Cond.methodLink RL 201 yX12_room ∈ lw_gt := lw_i9 178 rfl rfl
theorem kc_X12_room : Cond.code yX12_room cX12_room 4 (some .int) ∈ lw_gt := lw_i9 181 rfl rfl
theorem ki_X12_room : Cond.instanceMethod yX12_room ∈ lw_gt := lw_i9 179 rfl rfl
theorem kv_X12_room : Cond.selects RX12 yX12_room yX12_room ∈ lw_gt := lw_i9 180 rfl rfl
theorem kl_L_202 : Cond.methodLink RL 202 yX11_lay ∈ lw_gt := lw_i5 209 rfl rfl
theorem kc_X11_lay : Cond.code yX11_lay cX11_lay 4 (some .int) ∈ lw_gt := lw_i5 212 rfl rfl
theorem ki_X11_lay : Cond.instanceMethod yX11_lay ∈ lw_gt := lw_i5 210 rfl rfl
theorem kv_X11_lay : Cond.selects RX11 yX11_lay yX11_lay ∈ lw_gt := lw_i5 211 rfl rfl
theorem kl_L_206 : Cond.methodLink RL 206 yX12_lay ∈ lw_gt := lw_i9 182 rfl rfl
theorem kc_X12_lay : Cond.code yX12_lay cX12_lay 4 (some .int) ∈ lw_gt := lw_i9 185 rfl rfl
theorem ki_X12_lay : Cond.instanceMethod yX12_lay ∈ lw_gt := lw_i9 183 rfl rfl
theorem kv_X12_lay : Cond.selects RX12 yX12_lay yX12_lay ∈ lw_gt := lw_i9 184 rfl rfl
theorem kl_L_207 : Cond.methodLink RL 207 yX11_wipe ∈ lw_gt := lw_i5 234 rfl rfl
theorem kc_X11_wipe : Cond.code yX11_wipe cX11_wipe 1 (some .int) ∈ lw_gt := lw_i5 237 rfl rfl
theorem ki_X11_wipe : Cond.instanceMethod yX11_wipe ∈ lw_gt := lw_i5 235 rfl rfl
theorem kv_X11_wipe : Cond.selects RX11 yX11_wipe yX11_wipe ∈ lw_gt := lw_i5 236 rfl rfl
theorem kl_L_210 : Cond.methodLink RL 210 yX12_wipe ∈ lw_gt := lw_i9 193 rfl rfl
theorem kc_X12_wipe : Cond.code yX12_wipe cX12_wipe 3 (some .int) ∈ lw_gt := lw_i9 196 rfl rfl
theorem ki_X12_wipe : Cond.instanceMethod yX12_wipe ∈ lw_gt := lw_i9 194 rfl rfl
theorem kv_X12_wipe : Cond.selects RX12 yX12_wipe yX12_wipe ∈ lw_gt := lw_i9 195 rfl rfl
theorem kl_L_215 : Cond.methodLink RL 215 yX11_move ∈ lw_gt := lw_i6 160 rfl rfl
theorem kc_X11_move : Cond.code yX11_move cX11_move 3 (some .int) ∈ lw_gt := lw_i6 163 rfl rfl
theorem ki_X11_move : Cond.instanceMethod yX11_move ∈ lw_gt := lw_i6 161 rfl rfl
theorem kv_X11_move : Cond.selects RX11 yX11_move yX11_move ∈ lw_gt := lw_i6 162 rfl rfl
theorem kl_L_218 : Cond.methodLink RL 218 yX12_move ∈ lw_gt := lw_i10 20 rfl rfl
theorem kc_X12_move : Cond.code yX12_move cX12_move 3 (some .int) ∈ lw_gt := lw_i10 23 rfl rfl
theorem ki_X12_move : Cond.instanceMethod yX12_move ∈ lw_gt := lw_i10 21 rfl rfl
theorem kv_X12_move : Cond.selects RX12 yX12_move yX12_move ∈ lw_gt := lw_i10 22 rfl rfl
theorem kl_L_219 : Cond.methodLink RL 219 yX11_bound ∈ lw_gt := lw_i6 168 rfl rfl
theorem kc_X11_bound : Cond.code yX11_bound cX11_bound 1 (some .int) ∈ lw_gt := lw_i6 171 rfl rfl
theorem ki_X11_bound : Cond.instanceMethod yX11_bound ∈ lw_gt := lw_i6 169 rfl rfl
theorem kv_X11_bound : Cond.selects RX11 yX11_bound yX11_bound ∈ lw_gt := lw_i6 170 rfl rfl
theorem kl_L_222 : Cond.methodLink RL 222 yX12_bound ∈ lw_gt := lw_i10 24 rfl rfl
theorem kc_X12_bound : Cond.code yX12_bound cX12_bound 3 (some .int) ∈ lw_gt := lw_i10 27 rfl rfl
theorem ki_X12_bound : Cond.instanceMethod yX12_bound ∈ lw_gt := lw_i10 25 rfl rfl
theorem kv_X12_bound : Cond.selects RX12 yX12_bound yX12_bound ∈ lw_gt := lw_i10 26 rfl rfl
theorem kl_L_223 : Cond.methodLink RL 223 yX11_proof ∈ lw_gt := lw_i6 181 rfl rfl
theorem kc_X11_proof : Cond.code yX11_proof cX11_proof 2 (some .int) ∈ lw_gt := lw_i6 184 rfl rfl
theorem ki_X11_proof : Cond.instanceMethod yX11_proof ∈ lw_gt := lw_i6 182 rfl rfl
theorem kv_X11_proof : Cond.selects RX11 yX11_proof yX11_proof ∈ lw_gt := lw_i6 183 rfl rfl
theorem kl_L_226 : Cond.methodLink RL 226 yX12_proof ∈ lw_gt := lw_i10 31 rfl rfl
theorem kc_X12_proof : Cond.code yX12_proof cX12_proof 2 (some .int) ∈ lw_gt := lw_i10 34 rfl rfl
theorem ki_X12_proof : Cond.instanceMethod yX12_proof ∈ lw_gt := lw_i10 32 rfl rfl
theorem kv_X12_proof : Cond.selects RX12 yX12_proof yX12_proof ∈ lw_gt := lw_i10 33 rfl rfl
theorem kl_L_227 : Cond.methodLink RL 227 yX11_spoil ∈ lw_gt := lw_i6 193 rfl rfl
theorem kc_X11_spoil : Cond.code yX11_spoil cX11_spoil 3 (some .int) ∈ lw_gt := lw_i6 196 rfl rfl
theorem ki_X11_spoil : Cond.instanceMethod yX11_spoil ∈ lw_gt := lw_i6 194 rfl rfl
theorem kv_X11_spoil : Cond.selects RX11 yX11_spoil yX11_spoil ∈ lw_gt := lw_i6 195 rfl rfl
theorem kl_L_230 : Cond.methodLink RL 230 yX12_spoil ∈ lw_gt := lw_i10 35 rfl rfl
theorem kc_X12_spoil : Cond.code yX12_spoil cX12_spoil 4 (some .int) ∈ lw_gt := lw_i10 38 rfl rfl
theorem ki_X12_spoil : Cond.instanceMethod yX12_spoil ∈ lw_gt := lw_i10 36 rfl rfl
theorem kv_X12_spoil : Cond.selects RX12 yX12_spoil yX12_spoil ∈ lw_gt := lw_i10 37 rfl rfl
theorem kl_L_231 : Cond.methodLink RL 231 yX11_check ∈ lw_gt := lw_i6 206 rfl rfl
theorem kc_X11_check : Cond.code yX11_check cX11_check 1 (some .int) ∈ lw_gt := lw_i6 209 rfl rfl
theorem ki_X11_check : Cond.instanceMethod yX11_check ∈ lw_gt := lw_i6 207 rfl rfl
theorem kv_X11_check : Cond.selects RX11 yX11_check yX11_check ∈ lw_gt := lw_i6 208 rfl rfl
theorem kl_L_234 : Cond.methodLink RL 234 yX12_check ∈ lw_gt := lw_i10 39 rfl rfl
theorem kc_X12_check : Cond.code yX12_check cX12_check 1 (some .int) ∈ lw_gt := lw_i10 42 rfl rfl
theorem ki_X12_check : Cond.instanceMethod yX12_check ∈ lw_gt := lw_i10 40 rfl rfl
theorem kv_X12_check : Cond.selects RX12 yX12_check yX12_check ∈ lw_gt := lw_i10 41 rfl rfl
theorem ok_X11_track : Ok yX11_track 1 := by decide +kernel
theorem ok_X12_track : Ok yX12_track 1 := by decide +kernel
theorem ok_X11_point : Ok yX11_point 2 := by decide +kernel
theorem ok_X12_point : Ok yX12_point 2 := by decide +kernel
theorem ok_X11_link : Ok yX11_link 4 := by decide +kernel
theorem ok_X12_link : Ok yX12_link 4 := by decide +kernel
theorem ok_X11_exit : Ok yX11_exit 3 := by decide +kernel
theorem ok_X12_exit : Ok yX12_exit 3 := by decide +kernel
theorem ok_X11_wagon : Ok yX11_wagon 5 := by decide +kernel
theorem ok_X12_wagon : Ok yX12_wagon 5 := by decide +kernel
theorem ok_X11_engine : Ok yX11_engine 4 := by decide +kernel
theorem ok_X12_engine : Ok yX12_engine 4 := by decide +kernel
theorem ok_X11_bar : Ok yX11_bar 3 := by decide +kernel
theorem ok_X12_bar : Ok yX12_bar 3 := by decide +kernel
theorem ok_X11_table : Ok yX11_table 2 := by decide +kernel
theorem ok_X12_table : Ok yX12_table 2 := by decide +kernel
theorem ok_X11_route : Ok yX11_route 0 := by decide +kernel
theorem ok_X12_route : Ok yX12_route 0 := by decide +kernel
theorem ok_X11_via : Ok yX11_via 4 := by decide +kernel
theorem ok_X12_via : Ok yX12_via 4 := by decide +kernel
theorem ok_X11_load : Ok yX11_load 3 := by decide +kernel
theorem ok_X12_load : Ok yX12_load 3 := by decide +kernel
theorem ok_X11_piece : Ok yX11_piece 4 := by decide +kernel
theorem ok_X12_piece : Ok yX12_piece 4 := by decide +kernel
theorem ok_X11_danger : Ok yX11_danger 2 := by decide +kernel
theorem ok_X12_danger : Ok yX12_danger 2 := by decide +kernel
theorem ok_X11_hold : Ok yX11_hold 2 := by decide +kernel
theorem ok_X12_hold : Ok yX12_hold 2 := by decide +kernel
theorem ok_X11_jam : Ok yX11_jam 2 := by decide +kernel
theorem ok_X12_jam : Ok yX12_jam 2 := by decide +kernel
theorem ok_X11_raise : Ok yX11_raise 1 := by decide +kernel
theorem ok_X12_raise : Ok yX12_raise 1 := by decide +kernel
theorem ok_X11_turn : Ok yX11_turn 2 := by decide +kernel
theorem ok_X12_turn : Ok yX12_turn 2 := by decide +kernel
theorem ok_X11_lock : Ok yX11_lock 1 := by decide +kernel
theorem ok_X12_lock : Ok yX12_lock 1 := by decide +kernel
theorem ok_X11_free : Ok yX11_free 1 := by decide +kernel
theorem ok_X12_free : Ok yX12_free 1 := by decide +kernel
theorem ok_X11_couple : Ok yX11_couple 2 := by decide +kernel
theorem ok_X12_couple : Ok yX12_couple 2 := by decide +kernel
theorem ok_X11_part : Ok yX11_part 2 := by decide +kernel
theorem ok_X12_part : Ok yX12_part 2 := by decide +kernel
theorem ok_X11_pull : Ok yX11_pull 3 := by decide +kernel
theorem ok_X12_pull : Ok yX12_pull 3 := by decide +kernel
theorem ok_X11_kick : Ok yX11_kick 2 := by decide +kernel
theorem ok_X12_kick : Ok yX12_kick 2 := by decide +kernel
theorem ok_X11_step : Ok yX11_step 1 := by decide +kernel
theorem ok_X12_step : Ok yX12_step 1 := by decide +kernel
theorem ok_X11_test : Ok yX11_test 1 := by decide +kernel
theorem ok_X12_test : Ok yX12_test 1 := by decide +kernel
theorem ok_X11_leave : Ok yX11_leave 1 := by decide +kernel
theorem ok_X12_leave : Ok yX12_leave 1 := by decide +kernel
theorem ok_X11_roll : Ok yX11_roll 3 := by decide +kernel
theorem ok_X12_roll : Ok yX12_roll 3 := by decide +kernel
theorem ok_X11_store : Ok yX11_store 2 := by decide +kernel
theorem ok_X12_store : Ok yX12_store 2 := by decide +kernel
theorem ok_X11_rolled : Ok yX11_rolled 1 := by decide +kernel
theorem ok_X12_rolled : Ok yX12_rolled 1 := by decide +kernel
theorem ok_X11_at : Ok yX11_at 2 := by decide +kernel
theorem ok_X12_at : Ok yX12_at 2 := by decide +kernel
theorem ok_X11_thing : Ok yX11_thing 2 := by decide +kernel
theorem ok_X12_thing : Ok yX12_thing 2 := by decide +kernel
theorem ok_X11_pointed : Ok yX11_pointed 2 := by decide +kernel
theorem ok_X12_pointed : Ok yX12_pointed 2 := by decide +kernel
theorem ok_X11_ask : Ok yX11_ask 2 := by decide +kernel
theorem ok_X12_ask : Ok yX12_ask 2 := by decide +kernel
theorem ok_X11_meet : Ok yX11_meet 3 := by decide +kernel
theorem ok_X12_meet : Ok yX12_meet 3 := by decide +kernel
theorem ok_X11_weigh : Ok yX11_weigh 1 := by decide +kernel
theorem ok_X12_weigh : Ok yX12_weigh 1 := by decide +kernel
theorem ok_X11_share : Ok yX11_share 1 := by decide +kernel
theorem ok_X12_share : Ok yX12_share 1 := by decide +kernel
theorem ok_X11_consist : Ok yX11_consist 2 := by decide +kernel
theorem ok_X12_consist : Ok yX12_consist 2 := by decide +kernel
theorem ok_X11_finding : Ok yX11_finding 1 := by decide +kernel
theorem ok_X12_finding : Ok yX12_finding 1 := by decide +kernel
theorem ok_X11_count : Ok yX11_count 1 := by decide +kernel
theorem ok_X12_count : Ok yX12_count 1 := by decide +kernel
theorem ok_X11_trace : Ok yX11_trace 1 := by decide +kernel
theorem ok_X12_trace : Ok yX12_trace 1 := by decide +kernel
theorem ok_X11_digest : Ok yX11_digest 0 := by decide +kernel
theorem ok_X11_log : Ok yX11_log 2 := by decide +kernel
theorem ok_X12_log : Ok yX12_log 2 := by decide +kernel
theorem ok_X11_room : Ok yX11_room 2 := by decide +kernel
theorem ok_X12_room : Ok yX12_room 2 := by decide +kernel
theorem ok_X11_lay : Ok yX11_lay 3 := by decide +kernel
theorem ok_X12_lay : Ok yX12_lay 3 := by decide +kernel
theorem ok_X11_wipe : Ok yX11_wipe 0 := by decide +kernel
theorem ok_X12_wipe : Ok yX12_wipe 0 := by decide +kernel
theorem ok_X11_move : Ok yX11_move 2 := by decide +kernel
theorem ok_X12_move : Ok yX12_move 2 := by decide +kernel
theorem ok_X11_bound : Ok yX11_bound 0 := by decide +kernel
theorem ok_X12_bound : Ok yX12_bound 0 := by decide +kernel
theorem ok_X11_proof : Ok yX11_proof 1 := by decide +kernel
theorem ok_X12_proof : Ok yX12_proof 1 := by decide +kernel
theorem ok_X11_spoil : Ok yX11_spoil 2 := by decide +kernel
theorem ok_X12_spoil : Ok yX12_spoil 2 := by decide +kernel
theorem ok_X11_check : Ok yX11_check 0 := by decide +kernel
theorem ok_X12_check : Ok yX12_check 0 := by decide +kernel
end
section
theorem dL_law_260 : decode cL_law 260 = .ok (.aload_n 1, 1) := dc_43 (lw_4 (j := 4) rfl (by decide +kernel))
theorem dL_law_261 : decode cL_law 261 = .ok (.aload_n 0, 1) := dc_42 (lw_4 (j := 5) rfl (by decide +kernel))
theorem dL_law_262 : decode cL_law 262 = .ok (.iload_n 3, 1) := dc_29 (lw_4 (j := 6) rfl (by decide +kernel))
theorem dL_law_263 : decode cL_law 263 = .ok (.iconst 1, 1) := dc_4 (lw_4 (j := 7) rfl (by decide +kernel))
theorem dL_law_264 : decode cL_law 264 = .ok (.iadd, 1) := dc_96 (lw_4 (j := 8) rfl (by decide +kernel))
theorem dL_law_265 : decode cL_law 265 = .ok (.iaload, 1) := dc_46 (lw_4 (j := 9) rfl (by decide +kernel))
theorem dL_law_266 : decode cL_law 266 = .ok (.invokevirtual 13, 3) := dc_182 (a := 0) (b := 13) (lw_4 (j := 10) rfl (by decide +kernel))
theorem dL_law_269 : decode cL_law 269 = .ok (.pop, 1) := dc_87 (lw_4 (j := 13) rfl (by decide +kernel))
theorem dL_law_270 : decode cL_law 270 = .ok (.aload_n 2, 1) := dc_44 (lw_4 (j := 14) rfl (by decide +kernel))
theorem dL_law_271 : decode cL_law 271 = .ok (.aload_n 0, 1) := dc_42 (lw_4 (j := 15) rfl (by decide +kernel))
theorem dL_law_272 : decode cL_law 272 = .ok (.iload_n 3, 1) := dc_29 (lw_4 (j := 16) rfl (by decide +kernel))
theorem dL_law_273 : decode cL_law 273 = .ok (.iconst 1, 1) := dc_4 (lw_4 (j := 17) rfl (by decide +kernel))
theorem dL_law_274 : decode cL_law 274 = .ok (.iadd, 1) := dc_96 (lw_4 (j := 18) rfl (by decide +kernel))
theorem dL_law_275 : decode cL_law 275 = .ok (.iaload, 1) := dc_46 (lw_4 (j := 19) rfl (by decide +kernel))
theorem dL_law_276 : decode cL_law 276 = .ok (.invokevirtual 17, 3) := dc_182 (a := 0) (b := 17) (lw_4 (j := 20) rfl (by decide +kernel))
theorem dL_law_279 : decode cL_law 279 = .ok (.pop, 1) := dc_87 (lw_4 (j := 23) rfl (by decide +kernel))
theorem dL_law_280 : decode cL_law 280 = .ok (.goto 1683, 3) := dc_167 (a := 6) (b := 147) (lw_4 (j := 24) rfl (by decide +kernel)) (by decide)
theorem dL_law_283 : decode cL_law 283 = .ok (.aload_n 1, 1) := dc_43 (lw_4 (j := 27) rfl (by decide +kernel))
theorem dL_law_284 : decode cL_law 284 = .ok (.aload_n 0, 1) := dc_42 (lw_4 (j := 28) rfl (by decide +kernel))
theorem dL_law_285 : decode cL_law 285 = .ok (.iload_n 3, 1) := dc_29 (lw_4 (j := 29) rfl (by decide +kernel))
theorem dL_law_286 : decode cL_law 286 = .ok (.iconst 1, 1) := dc_4 (lw_4 (j := 30) rfl (by decide +kernel))
theorem dL_law_287 : decode cL_law 287 = .ok (.iadd, 1) := dc_96 (lw_4 (j := 31) rfl (by decide +kernel))
theorem dL_law_288 : decode cL_law 288 = .ok (.iaload, 1) := dc_46 (lw_4 (j := 32) rfl (by decide +kernel))
theorem dL_law_289 : decode cL_law 289 = .ok (.aload_n 0, 1) := dc_42 (lw_4 (j := 33) rfl (by decide +kernel))
theorem dL_law_290 : decode cL_law 290 = .ok (.iload_n 3, 1) := dc_29 (lw_4 (j := 34) rfl (by decide +kernel))
theorem dL_law_291 : decode cL_law 291 = .ok (.iconst 2, 1) := dc_5 (lw_4 (j := 35) rfl (by decide +kernel))
theorem dL_law_292 : decode cL_law 292 = .ok (.iadd, 1) := dc_96 (lw_4 (j := 36) rfl (by decide +kernel))
theorem dL_law_293 : decode cL_law 293 = .ok (.iaload, 1) := dc_46 (lw_4 (j := 37) rfl (by decide +kernel))
theorem dL_law_294 : decode cL_law 294 = .ok (.invokevirtual 18, 3) := dc_182 (a := 0) (b := 18) (lw_4 (j := 38) rfl (by decide +kernel))
theorem dL_law_297 : decode cL_law 297 = .ok (.pop, 1) := dc_87 (lw_4 (j := 41) rfl (by decide +kernel))
theorem dL_law_298 : decode cL_law 298 = .ok (.aload_n 2, 1) := dc_44 (lw_4 (j := 42) rfl (by decide +kernel))
theorem dL_law_299 : decode cL_law 299 = .ok (.aload_n 0, 1) := dc_42 (lw_4 (j := 43) rfl (by decide +kernel))
theorem dL_law_300 : decode cL_law 300 = .ok (.iload_n 3, 1) := dc_29 (lw_4 (j := 44) rfl (by decide +kernel))
theorem dL_law_301 : decode cL_law 301 = .ok (.iconst 1, 1) := dc_4 (lw_4 (j := 45) rfl (by decide +kernel))
theorem dL_law_302 : decode cL_law 302 = .ok (.iadd, 1) := dc_96 (lw_4 (j := 46) rfl (by decide +kernel))
theorem dL_law_303 : decode cL_law 303 = .ok (.iaload, 1) := dc_46 (lw_4 (j := 47) rfl (by decide +kernel))
theorem dL_law_304 : decode cL_law 304 = .ok (.aload_n 0, 1) := dc_42 (lw_4 (j := 48) rfl (by decide +kernel))
theorem dL_law_305 : decode cL_law 305 = .ok (.iload_n 3, 1) := dc_29 (lw_4 (j := 49) rfl (by decide +kernel))
theorem dL_law_306 : decode cL_law 306 = .ok (.iconst 2, 1) := dc_5 (lw_4 (j := 50) rfl (by decide +kernel))
theorem dL_law_307 : decode cL_law 307 = .ok (.iadd, 1) := dc_96 (lw_4 (j := 51) rfl (by decide +kernel))
theorem dL_law_308 : decode cL_law 308 = .ok (.iaload, 1) := dc_46 (lw_4 (j := 52) rfl (by decide +kernel))
theorem dL_law_309 : decode cL_law 309 = .ok (.invokevirtual 22, 3) := dc_182 (a := 0) (b := 22) (lw_4 (j := 53) rfl (by decide +kernel))
theorem dL_law_312 : decode cL_law 312 = .ok (.pop, 1) := dc_87 (lw_4 (j := 56) rfl (by decide +kernel))
theorem dL_law_313 : decode cL_law 313 = .ok (.goto 1650, 3) := dc_167 (a := 6) (b := 114) (lw_4 (j := 57) rfl (by decide +kernel)) (by decide)
theorem dL_law_316 : decode cL_law 316 = .ok (.aload_n 1, 1) := dc_43 (lw_4 (j := 60) rfl (by decide +kernel))
theorem dL_law_317 : decode cL_law 317 = .ok (.aload_n 0, 1) := dc_42 (lw_4 (j := 61) rfl (by decide +kernel))
theorem dL_law_318 : decode cL_law 318 = .ok (.iload_n 3, 1) := dc_29 (lw_4 (j := 62) rfl (by decide +kernel))
theorem dL_law_319 : decode cL_law 319 = .ok (.iconst 1, 1) := dc_4 (lw_4 (j := 63) rfl (by decide +kernel))
theorem dL_law_320 : decode cL_law 320 = .ok (.iadd, 1) := dc_96 (lw_5 (j := 0) rfl (by decide +kernel))
theorem dL_law_321 : decode cL_law 321 = .ok (.iaload, 1) := dc_46 (lw_5 (j := 1) rfl (by decide +kernel))
theorem dL_law_322 : decode cL_law 322 = .ok (.aload_n 0, 1) := dc_42 (lw_5 (j := 2) rfl (by decide +kernel))
theorem dL_law_323 : decode cL_law 323 = .ok (.iload_n 3, 1) := dc_29 (lw_5 (j := 3) rfl (by decide +kernel))
theorem dL_law_324 : decode cL_law 324 = .ok (.iconst 2, 1) := dc_5 (lw_5 (j := 4) rfl (by decide +kernel))
theorem dL_law_325 : decode cL_law 325 = .ok (.iadd, 1) := dc_96 (lw_5 (j := 5) rfl (by decide +kernel))
theorem dL_law_326 : decode cL_law 326 = .ok (.iaload, 1) := dc_46 (lw_5 (j := 6) rfl (by decide +kernel))
theorem dL_law_327 : decode cL_law 327 = .ok (.aload_n 0, 1) := dc_42 (lw_5 (j := 7) rfl (by decide +kernel))
theorem dL_law_328 : decode cL_law 328 = .ok (.iload_n 3, 1) := dc_29 (lw_5 (j := 8) rfl (by decide +kernel))
theorem dL_law_329 : decode cL_law 329 = .ok (.iconst 3, 1) := dc_6 (lw_5 (j := 9) rfl (by decide +kernel))
theorem dL_law_330 : decode cL_law 330 = .ok (.iadd, 1) := dc_96 (lw_5 (j := 10) rfl (by decide +kernel))
theorem dL_law_331 : decode cL_law 331 = .ok (.iaload, 1) := dc_46 (lw_5 (j := 11) rfl (by decide +kernel))
theorem dL_law_332 : decode cL_law 332 = .ok (.aload_n 0, 1) := dc_42 (lw_5 (j := 12) rfl (by decide +kernel))
theorem dL_law_333 : decode cL_law 333 = .ok (.iload_n 3, 1) := dc_29 (lw_5 (j := 13) rfl (by decide +kernel))
theorem dL_law_334 : decode cL_law 334 = .ok (.iconst 4, 1) := dc_7 (lw_5 (j := 14) rfl (by decide +kernel))
theorem dL_law_335 : decode cL_law 335 = .ok (.iadd, 1) := dc_96 (lw_5 (j := 15) rfl (by decide +kernel))
theorem dL_law_336 : decode cL_law 336 = .ok (.iaload, 1) := dc_46 (lw_5 (j := 16) rfl (by decide +kernel))
theorem dL_law_337 : decode cL_law 337 = .ok (.invokevirtual 23, 3) := dc_182 (a := 0) (b := 23) (lw_5 (j := 17) rfl (by decide +kernel))
theorem dL_law_340 : decode cL_law 340 = .ok (.pop, 1) := dc_87 (lw_5 (j := 20) rfl (by decide +kernel))
theorem dL_law_341 : decode cL_law 341 = .ok (.aload_n 2, 1) := dc_44 (lw_5 (j := 21) rfl (by decide +kernel))
theorem dL_law_342 : decode cL_law 342 = .ok (.aload_n 0, 1) := dc_42 (lw_5 (j := 22) rfl (by decide +kernel))
theorem dL_law_343 : decode cL_law 343 = .ok (.iload_n 3, 1) := dc_29 (lw_5 (j := 23) rfl (by decide +kernel))
theorem dL_law_344 : decode cL_law 344 = .ok (.iconst 1, 1) := dc_4 (lw_5 (j := 24) rfl (by decide +kernel))
theorem dL_law_345 : decode cL_law 345 = .ok (.iadd, 1) := dc_96 (lw_5 (j := 25) rfl (by decide +kernel))
theorem dL_law_346 : decode cL_law 346 = .ok (.iaload, 1) := dc_46 (lw_5 (j := 26) rfl (by decide +kernel))
theorem dL_law_347 : decode cL_law 347 = .ok (.aload_n 0, 1) := dc_42 (lw_5 (j := 27) rfl (by decide +kernel))
theorem dL_law_348 : decode cL_law 348 = .ok (.iload_n 3, 1) := dc_29 (lw_5 (j := 28) rfl (by decide +kernel))
theorem dL_law_349 : decode cL_law 349 = .ok (.iconst 2, 1) := dc_5 (lw_5 (j := 29) rfl (by decide +kernel))
theorem dL_law_350 : decode cL_law 350 = .ok (.iadd, 1) := dc_96 (lw_5 (j := 30) rfl (by decide +kernel))
theorem dL_law_351 : decode cL_law 351 = .ok (.iaload, 1) := dc_46 (lw_5 (j := 31) rfl (by decide +kernel))
theorem dL_law_352 : decode cL_law 352 = .ok (.aload_n 0, 1) := dc_42 (lw_5 (j := 32) rfl (by decide +kernel))
theorem dL_law_353 : decode cL_law 353 = .ok (.iload_n 3, 1) := dc_29 (lw_5 (j := 33) rfl (by decide +kernel))
theorem dL_law_354 : decode cL_law 354 = .ok (.iconst 3, 1) := dc_6 (lw_5 (j := 34) rfl (by decide +kernel))
theorem dL_law_355 : decode cL_law 355 = .ok (.iadd, 1) := dc_96 (lw_5 (j := 35) rfl (by decide +kernel))
theorem dL_law_356 : decode cL_law 356 = .ok (.iaload, 1) := dc_46 (lw_5 (j := 36) rfl (by decide +kernel))
theorem dL_law_357 : decode cL_law 357 = .ok (.aload_n 0, 1) := dc_42 (lw_5 (j := 37) rfl (by decide +kernel))
theorem dL_law_358 : decode cL_law 358 = .ok (.iload_n 3, 1) := dc_29 (lw_5 (j := 38) rfl (by decide +kernel))
theorem dL_law_359 : decode cL_law 359 = .ok (.iconst 4, 1) := dc_7 (lw_5 (j := 39) rfl (by decide +kernel))
theorem dL_law_360 : decode cL_law 360 = .ok (.iadd, 1) := dc_96 (lw_5 (j := 40) rfl (by decide +kernel))
theorem dL_law_361 : decode cL_law 361 = .ok (.iaload, 1) := dc_46 (lw_5 (j := 41) rfl (by decide +kernel))
theorem dL_law_362 : decode cL_law 362 = .ok (.invokevirtual 27, 3) := dc_182 (a := 0) (b := 27) (lw_5 (j := 42) rfl (by decide +kernel))
theorem dL_law_365 : decode cL_law 365 = .ok (.pop, 1) := dc_87 (lw_5 (j := 45) rfl (by decide +kernel))
theorem dL_law_366 : decode cL_law 366 = .ok (.goto 1597, 3) := dc_167 (a := 6) (b := 61) (lw_5 (j := 46) rfl (by decide +kernel)) (by decide)
theorem dL_law_369 : decode cL_law 369 = .ok (.aload_n 1, 1) := dc_43 (lw_5 (j := 49) rfl (by decide +kernel))
theorem dL_law_370 : decode cL_law 370 = .ok (.aload_n 0, 1) := dc_42 (lw_5 (j := 50) rfl (by decide +kernel))
theorem dL_law_371 : decode cL_law 371 = .ok (.iload_n 3, 1) := dc_29 (lw_5 (j := 51) rfl (by decide +kernel))
theorem dL_law_372 : decode cL_law 372 = .ok (.iconst 1, 1) := dc_4 (lw_5 (j := 52) rfl (by decide +kernel))
theorem dL_law_373 : decode cL_law 373 = .ok (.iadd, 1) := dc_96 (lw_5 (j := 53) rfl (by decide +kernel))
theorem dL_law_374 : decode cL_law 374 = .ok (.iaload, 1) := dc_46 (lw_5 (j := 54) rfl (by decide +kernel))
theorem dL_law_375 : decode cL_law 375 = .ok (.aload_n 0, 1) := dc_42 (lw_5 (j := 55) rfl (by decide +kernel))
theorem dL_law_376 : decode cL_law 376 = .ok (.iload_n 3, 1) := dc_29 (lw_5 (j := 56) rfl (by decide +kernel))
theorem dL_law_377 : decode cL_law 377 = .ok (.iconst 2, 1) := dc_5 (lw_5 (j := 57) rfl (by decide +kernel))
theorem dL_law_378 : decode cL_law 378 = .ok (.iadd, 1) := dc_96 (lw_5 (j := 58) rfl (by decide +kernel))
theorem dL_law_379 : decode cL_law 379 = .ok (.iaload, 1) := dc_46 (lw_5 (j := 59) rfl (by decide +kernel))
theorem dL_law_380 : decode cL_law 380 = .ok (.aload_n 0, 1) := dc_42 (lw_5 (j := 60) rfl (by decide +kernel))
theorem dL_law_381 : decode cL_law 381 = .ok (.iload_n 3, 1) := dc_29 (lw_5 (j := 61) rfl (by decide +kernel))
theorem dL_law_382 : decode cL_law 382 = .ok (.iconst 3, 1) := dc_6 (lw_5 (j := 62) rfl (by decide +kernel))
theorem dL_law_383 : decode cL_law 383 = .ok (.iadd, 1) := dc_96 (lw_5 (j := 63) rfl (by decide +kernel))
theorem dL_law_384 : decode cL_law 384 = .ok (.iaload, 1) := dc_46 (lw_6 (j := 0) rfl (by decide +kernel))
theorem dL_law_385 : decode cL_law 385 = .ok (.ifCond .eq 7, 3) := dc_153 (a := 0) (b := 7) (lw_6 (j := 1) rfl (by decide +kernel)) (by decide)
theorem dL_law_388 : decode cL_law 388 = .ok (.iconst 1, 1) := dc_4 (lw_6 (j := 4) rfl (by decide +kernel))
theorem dL_law_389 : decode cL_law 389 = .ok (.goto 4, 3) := dc_167 (a := 0) (b := 4) (lw_6 (j := 5) rfl (by decide +kernel)) (by decide)
theorem dL_law_392 : decode cL_law 392 = .ok (.iconst 0, 1) := dc_3 (lw_6 (j := 8) rfl (by decide +kernel))
theorem dL_law_393 : decode cL_law 393 = .ok (.invokevirtual 28, 3) := dc_182 (a := 0) (b := 28) (lw_6 (j := 9) rfl (by decide +kernel))
theorem dL_law_396 : decode cL_law 396 = .ok (.pop, 1) := dc_87 (lw_6 (j := 12) rfl (by decide +kernel))
theorem dL_law_397 : decode cL_law 397 = .ok (.aload_n 2, 1) := dc_44 (lw_6 (j := 13) rfl (by decide +kernel))
theorem dL_law_398 : decode cL_law 398 = .ok (.aload_n 0, 1) := dc_42 (lw_6 (j := 14) rfl (by decide +kernel))
theorem dL_law_399 : decode cL_law 399 = .ok (.iload_n 3, 1) := dc_29 (lw_6 (j := 15) rfl (by decide +kernel))
theorem dL_law_400 : decode cL_law 400 = .ok (.iconst 1, 1) := dc_4 (lw_6 (j := 16) rfl (by decide +kernel))
theorem dL_law_401 : decode cL_law 401 = .ok (.iadd, 1) := dc_96 (lw_6 (j := 17) rfl (by decide +kernel))
theorem dL_law_402 : decode cL_law 402 = .ok (.iaload, 1) := dc_46 (lw_6 (j := 18) rfl (by decide +kernel))
theorem dL_law_403 : decode cL_law 403 = .ok (.aload_n 0, 1) := dc_42 (lw_6 (j := 19) rfl (by decide +kernel))
theorem dL_law_404 : decode cL_law 404 = .ok (.iload_n 3, 1) := dc_29 (lw_6 (j := 20) rfl (by decide +kernel))
theorem dL_law_405 : decode cL_law 405 = .ok (.iconst 2, 1) := dc_5 (lw_6 (j := 21) rfl (by decide +kernel))
theorem dL_law_406 : decode cL_law 406 = .ok (.iadd, 1) := dc_96 (lw_6 (j := 22) rfl (by decide +kernel))
theorem dL_law_407 : decode cL_law 407 = .ok (.iaload, 1) := dc_46 (lw_6 (j := 23) rfl (by decide +kernel))
theorem dL_law_408 : decode cL_law 408 = .ok (.aload_n 0, 1) := dc_42 (lw_6 (j := 24) rfl (by decide +kernel))
theorem dL_law_409 : decode cL_law 409 = .ok (.iload_n 3, 1) := dc_29 (lw_6 (j := 25) rfl (by decide +kernel))
theorem dL_law_410 : decode cL_law 410 = .ok (.iconst 3, 1) := dc_6 (lw_6 (j := 26) rfl (by decide +kernel))
theorem dL_law_411 : decode cL_law 411 = .ok (.iadd, 1) := dc_96 (lw_6 (j := 27) rfl (by decide +kernel))
theorem dL_law_412 : decode cL_law 412 = .ok (.iaload, 1) := dc_46 (lw_6 (j := 28) rfl (by decide +kernel))
theorem dL_law_413 : decode cL_law 413 = .ok (.ifCond .eq 7, 3) := dc_153 (a := 0) (b := 7) (lw_6 (j := 29) rfl (by decide +kernel)) (by decide)
theorem dL_law_416 : decode cL_law 416 = .ok (.iconst 1, 1) := dc_4 (lw_6 (j := 32) rfl (by decide +kernel))
theorem dL_law_417 : decode cL_law 417 = .ok (.goto 4, 3) := dc_167 (a := 0) (b := 4) (lw_6 (j := 33) rfl (by decide +kernel)) (by decide)
theorem dL_law_420 : decode cL_law 420 = .ok (.iconst 0, 1) := dc_3 (lw_6 (j := 36) rfl (by decide +kernel))
theorem dL_law_421 : decode cL_law 421 = .ok (.invokevirtual 32, 3) := dc_182 (a := 0) (b := 32) (lw_6 (j := 37) rfl (by decide +kernel))
theorem dL_law_424 : decode cL_law 424 = .ok (.pop, 1) := dc_87 (lw_6 (j := 40) rfl (by decide +kernel))
theorem dL_law_425 : decode cL_law 425 = .ok (.goto 1538, 3) := dc_167 (a := 6) (b := 2) (lw_6 (j := 41) rfl (by decide +kernel)) (by decide)
theorem dL_law_428 : decode cL_law 428 = .ok (.aload_n 1, 1) := dc_43 (lw_6 (j := 44) rfl (by decide +kernel))
theorem dL_law_429 : decode cL_law 429 = .ok (.aload_n 0, 1) := dc_42 (lw_6 (j := 45) rfl (by decide +kernel))
theorem dL_law_430 : decode cL_law 430 = .ok (.iload_n 3, 1) := dc_29 (lw_6 (j := 46) rfl (by decide +kernel))
theorem dL_law_431 : decode cL_law 431 = .ok (.iconst 1, 1) := dc_4 (lw_6 (j := 47) rfl (by decide +kernel))
theorem dL_law_432 : decode cL_law 432 = .ok (.iadd, 1) := dc_96 (lw_6 (j := 48) rfl (by decide +kernel))
theorem dL_law_433 : decode cL_law 433 = .ok (.iaload, 1) := dc_46 (lw_6 (j := 49) rfl (by decide +kernel))
theorem dL_law_434 : decode cL_law 434 = .ok (.aload_n 0, 1) := dc_42 (lw_6 (j := 50) rfl (by decide +kernel))
theorem dL_law_435 : decode cL_law 435 = .ok (.iload_n 3, 1) := dc_29 (lw_6 (j := 51) rfl (by decide +kernel))
theorem dL_law_436 : decode cL_law 436 = .ok (.iconst 2, 1) := dc_5 (lw_6 (j := 52) rfl (by decide +kernel))
theorem dL_law_437 : decode cL_law 437 = .ok (.iadd, 1) := dc_96 (lw_6 (j := 53) rfl (by decide +kernel))
theorem dL_law_438 : decode cL_law 438 = .ok (.iaload, 1) := dc_46 (lw_6 (j := 54) rfl (by decide +kernel))
theorem dL_law_439 : decode cL_law 439 = .ok (.aload_n 0, 1) := dc_42 (lw_6 (j := 55) rfl (by decide +kernel))
theorem dL_law_440 : decode cL_law 440 = .ok (.iload_n 3, 1) := dc_29 (lw_6 (j := 56) rfl (by decide +kernel))
theorem dL_law_441 : decode cL_law 441 = .ok (.iconst 3, 1) := dc_6 (lw_6 (j := 57) rfl (by decide +kernel))
theorem dL_law_442 : decode cL_law 442 = .ok (.iadd, 1) := dc_96 (lw_6 (j := 58) rfl (by decide +kernel))
theorem dL_law_443 : decode cL_law 443 = .ok (.iaload, 1) := dc_46 (lw_6 (j := 59) rfl (by decide +kernel))
theorem dL_law_444 : decode cL_law 444 = .ok (.aload_n 0, 1) := dc_42 (lw_6 (j := 60) rfl (by decide +kernel))
theorem dL_law_445 : decode cL_law 445 = .ok (.iload_n 3, 1) := dc_29 (lw_6 (j := 61) rfl (by decide +kernel))
theorem dL_law_446 : decode cL_law 446 = .ok (.iconst 4, 1) := dc_7 (lw_6 (j := 62) rfl (by decide +kernel))
theorem dL_law_447 : decode cL_law 447 = .ok (.iadd, 1) := dc_96 (lw_6 (j := 63) rfl (by decide +kernel))
theorem dL_law_448 : decode cL_law 448 = .ok (.iaload, 1) := dc_46 (lw_7 (j := 0) rfl (by decide +kernel))
theorem dL_law_449 : decode cL_law 449 = .ok (.aload_n 0, 1) := dc_42 (lw_7 (j := 1) rfl (by decide +kernel))
theorem dL_law_450 : decode cL_law 450 = .ok (.iload_n 3, 1) := dc_29 (lw_7 (j := 2) rfl (by decide +kernel))
theorem dL_law_451 : decode cL_law 451 = .ok (.iconst 5, 1) := dc_8 (lw_7 (j := 3) rfl (by decide +kernel))
theorem dL_law_452 : decode cL_law 452 = .ok (.iadd, 1) := dc_96 (lw_7 (j := 4) rfl (by decide +kernel))
theorem dL_law_453 : decode cL_law 453 = .ok (.iaload, 1) := dc_46 (lw_7 (j := 5) rfl (by decide +kernel))
theorem dL_law_454 : decode cL_law 454 = .ok (.invokevirtual 33, 3) := dc_182 (a := 0) (b := 33) (lw_7 (j := 6) rfl (by decide +kernel))
theorem dL_law_457 : decode cL_law 457 = .ok (.pop, 1) := dc_87 (lw_7 (j := 9) rfl (by decide +kernel))
theorem dL_law_458 : decode cL_law 458 = .ok (.aload_n 2, 1) := dc_44 (lw_7 (j := 10) rfl (by decide +kernel))
theorem dL_law_459 : decode cL_law 459 = .ok (.aload_n 0, 1) := dc_42 (lw_7 (j := 11) rfl (by decide +kernel))
theorem dL_law_460 : decode cL_law 460 = .ok (.iload_n 3, 1) := dc_29 (lw_7 (j := 12) rfl (by decide +kernel))
theorem dL_law_461 : decode cL_law 461 = .ok (.iconst 1, 1) := dc_4 (lw_7 (j := 13) rfl (by decide +kernel))
theorem dL_law_462 : decode cL_law 462 = .ok (.iadd, 1) := dc_96 (lw_7 (j := 14) rfl (by decide +kernel))
theorem dL_law_463 : decode cL_law 463 = .ok (.iaload, 1) := dc_46 (lw_7 (j := 15) rfl (by decide +kernel))
theorem dL_law_464 : decode cL_law 464 = .ok (.aload_n 0, 1) := dc_42 (lw_7 (j := 16) rfl (by decide +kernel))
theorem dL_law_465 : decode cL_law 465 = .ok (.iload_n 3, 1) := dc_29 (lw_7 (j := 17) rfl (by decide +kernel))
theorem dL_law_466 : decode cL_law 466 = .ok (.iconst 2, 1) := dc_5 (lw_7 (j := 18) rfl (by decide +kernel))
theorem dL_law_467 : decode cL_law 467 = .ok (.iadd, 1) := dc_96 (lw_7 (j := 19) rfl (by decide +kernel))
theorem dL_law_468 : decode cL_law 468 = .ok (.iaload, 1) := dc_46 (lw_7 (j := 20) rfl (by decide +kernel))
theorem dL_law_469 : decode cL_law 469 = .ok (.aload_n 0, 1) := dc_42 (lw_7 (j := 21) rfl (by decide +kernel))
theorem dL_law_470 : decode cL_law 470 = .ok (.iload_n 3, 1) := dc_29 (lw_7 (j := 22) rfl (by decide +kernel))
theorem dL_law_471 : decode cL_law 471 = .ok (.iconst 3, 1) := dc_6 (lw_7 (j := 23) rfl (by decide +kernel))
theorem dL_law_472 : decode cL_law 472 = .ok (.iadd, 1) := dc_96 (lw_7 (j := 24) rfl (by decide +kernel))
theorem dL_law_473 : decode cL_law 473 = .ok (.iaload, 1) := dc_46 (lw_7 (j := 25) rfl (by decide +kernel))
theorem dL_law_474 : decode cL_law 474 = .ok (.aload_n 0, 1) := dc_42 (lw_7 (j := 26) rfl (by decide +kernel))
theorem dL_law_475 : decode cL_law 475 = .ok (.iload_n 3, 1) := dc_29 (lw_7 (j := 27) rfl (by decide +kernel))
theorem dL_law_476 : decode cL_law 476 = .ok (.iconst 4, 1) := dc_7 (lw_7 (j := 28) rfl (by decide +kernel))
theorem dL_law_477 : decode cL_law 477 = .ok (.iadd, 1) := dc_96 (lw_7 (j := 29) rfl (by decide +kernel))
theorem dL_law_478 : decode cL_law 478 = .ok (.iaload, 1) := dc_46 (lw_7 (j := 30) rfl (by decide +kernel))
theorem dL_law_479 : decode cL_law 479 = .ok (.aload_n 0, 1) := dc_42 (lw_7 (j := 31) rfl (by decide +kernel))
theorem dL_law_480 : decode cL_law 480 = .ok (.iload_n 3, 1) := dc_29 (lw_7 (j := 32) rfl (by decide +kernel))
theorem dL_law_481 : decode cL_law 481 = .ok (.iconst 5, 1) := dc_8 (lw_7 (j := 33) rfl (by decide +kernel))
theorem dL_law_482 : decode cL_law 482 = .ok (.iadd, 1) := dc_96 (lw_7 (j := 34) rfl (by decide +kernel))
theorem dL_law_483 : decode cL_law 483 = .ok (.iaload, 1) := dc_46 (lw_7 (j := 35) rfl (by decide +kernel))
theorem dL_law_484 : decode cL_law 484 = .ok (.invokevirtual 37, 3) := dc_182 (a := 0) (b := 37) (lw_7 (j := 36) rfl (by decide +kernel))
theorem dL_law_487 : decode cL_law 487 = .ok (.pop, 1) := dc_87 (lw_7 (j := 39) rfl (by decide +kernel))
theorem dL_law_488 : decode cL_law 488 = .ok (.goto 1475, 3) := dc_167 (a := 5) (b := 195) (lw_7 (j := 40) rfl (by decide +kernel)) (by decide)
theorem dL_law_491 : decode cL_law 491 = .ok (.aload_n 1, 1) := dc_43 (lw_7 (j := 43) rfl (by decide +kernel))
theorem dL_law_492 : decode cL_law 492 = .ok (.aload_n 0, 1) := dc_42 (lw_7 (j := 44) rfl (by decide +kernel))
theorem dL_law_493 : decode cL_law 493 = .ok (.iload_n 3, 1) := dc_29 (lw_7 (j := 45) rfl (by decide +kernel))
theorem dL_law_494 : decode cL_law 494 = .ok (.iconst 1, 1) := dc_4 (lw_7 (j := 46) rfl (by decide +kernel))
theorem dL_law_495 : decode cL_law 495 = .ok (.iadd, 1) := dc_96 (lw_7 (j := 47) rfl (by decide +kernel))
theorem dL_law_496 : decode cL_law 496 = .ok (.iaload, 1) := dc_46 (lw_7 (j := 48) rfl (by decide +kernel))
theorem dL_law_497 : decode cL_law 497 = .ok (.ifCond .eq 7, 3) := dc_153 (a := 0) (b := 7) (lw_7 (j := 49) rfl (by decide +kernel)) (by decide)
theorem dL_law_500 : decode cL_law 500 = .ok (.iconst 1, 1) := dc_4 (lw_7 (j := 52) rfl (by decide +kernel))
theorem dL_law_501 : decode cL_law 501 = .ok (.goto 4, 3) := dc_167 (a := 0) (b := 4) (lw_7 (j := 53) rfl (by decide +kernel)) (by decide)
theorem dL_law_504 : decode cL_law 504 = .ok (.iconst 0, 1) := dc_3 (lw_7 (j := 56) rfl (by decide +kernel))
theorem dL_law_505 : decode cL_law 505 = .ok (.aload_n 0, 1) := dc_42 (lw_7 (j := 57) rfl (by decide +kernel))
theorem dL_law_506 : decode cL_law 506 = .ok (.iload_n 3, 1) := dc_29 (lw_7 (j := 58) rfl (by decide +kernel))
theorem dL_law_507 : decode cL_law 507 = .ok (.iconst 2, 1) := dc_5 (lw_7 (j := 59) rfl (by decide +kernel))
theorem dL_law_508 : decode cL_law 508 = .ok (.iadd, 1) := dc_96 (lw_7 (j := 60) rfl (by decide +kernel))
theorem dL_law_509 : decode cL_law 509 = .ok (.iaload, 1) := dc_46 (lw_7 (j := 61) rfl (by decide +kernel))
theorem dL_law_510 : decode cL_law 510 = .ok (.aload_n 0, 1) := dc_42 (lw_7 (j := 62) rfl (by decide +kernel))
theorem dL_law_511 : decode cL_law 511 = .ok (.iload_n 3, 1) := dc_29 (lw_7 (j := 63) rfl (by decide +kernel))
theorem dL_law_512 : decode cL_law 512 = .ok (.iconst 3, 1) := dc_6 (lw_8 (j := 0) rfl (by decide +kernel))
theorem dL_law_513 : decode cL_law 513 = .ok (.iadd, 1) := dc_96 (lw_8 (j := 1) rfl (by decide +kernel))
theorem dL_law_514 : decode cL_law 514 = .ok (.iaload, 1) := dc_46 (lw_8 (j := 2) rfl (by decide +kernel))
theorem dL_law_515 : decode cL_law 515 = .ok (.aload_n 0, 1) := dc_42 (lw_8 (j := 3) rfl (by decide +kernel))
theorem dL_law_516 : decode cL_law 516 = .ok (.iload_n 3, 1) := dc_29 (lw_8 (j := 4) rfl (by decide +kernel))
theorem dL_law_517 : decode cL_law 517 = .ok (.iconst 4, 1) := dc_7 (lw_8 (j := 5) rfl (by decide +kernel))
theorem dL_law_518 : decode cL_law 518 = .ok (.iadd, 1) := dc_96 (lw_8 (j := 6) rfl (by decide +kernel))
theorem dL_law_519 : decode cL_law 519 = .ok (.iaload, 1) := dc_46 (lw_8 (j := 7) rfl (by decide +kernel))
theorem dL_law_520 : decode cL_law 520 = .ok (.invokevirtual 38, 3) := dc_182 (a := 0) (b := 38) (lw_8 (j := 8) rfl (by decide +kernel))
theorem dL_law_523 : decode cL_law 523 = .ok (.pop, 1) := dc_87 (lw_8 (j := 11) rfl (by decide +kernel))
theorem dL_law_524 : decode cL_law 524 = .ok (.aload_n 2, 1) := dc_44 (lw_8 (j := 12) rfl (by decide +kernel))
theorem dL_law_525 : decode cL_law 525 = .ok (.aload_n 0, 1) := dc_42 (lw_8 (j := 13) rfl (by decide +kernel))
theorem dL_law_526 : decode cL_law 526 = .ok (.iload_n 3, 1) := dc_29 (lw_8 (j := 14) rfl (by decide +kernel))
theorem dL_law_527 : decode cL_law 527 = .ok (.iconst 1, 1) := dc_4 (lw_8 (j := 15) rfl (by decide +kernel))
theorem dL_law_528 : decode cL_law 528 = .ok (.iadd, 1) := dc_96 (lw_8 (j := 16) rfl (by decide +kernel))
theorem dL_law_529 : decode cL_law 529 = .ok (.iaload, 1) := dc_46 (lw_8 (j := 17) rfl (by decide +kernel))
theorem dL_law_530 : decode cL_law 530 = .ok (.ifCond .eq 7, 3) := dc_153 (a := 0) (b := 7) (lw_8 (j := 18) rfl (by decide +kernel)) (by decide)
theorem dL_law_533 : decode cL_law 533 = .ok (.iconst 1, 1) := dc_4 (lw_8 (j := 21) rfl (by decide +kernel))
theorem dL_law_534 : decode cL_law 534 = .ok (.goto 4, 3) := dc_167 (a := 0) (b := 4) (lw_8 (j := 22) rfl (by decide +kernel)) (by decide)
theorem dL_law_537 : decode cL_law 537 = .ok (.iconst 0, 1) := dc_3 (lw_8 (j := 25) rfl (by decide +kernel))
theorem dL_law_538 : decode cL_law 538 = .ok (.aload_n 0, 1) := dc_42 (lw_8 (j := 26) rfl (by decide +kernel))
theorem dL_law_539 : decode cL_law 539 = .ok (.iload_n 3, 1) := dc_29 (lw_8 (j := 27) rfl (by decide +kernel))
theorem dL_law_540 : decode cL_law 540 = .ok (.iconst 2, 1) := dc_5 (lw_8 (j := 28) rfl (by decide +kernel))
theorem dL_law_541 : decode cL_law 541 = .ok (.iadd, 1) := dc_96 (lw_8 (j := 29) rfl (by decide +kernel))
theorem dL_law_542 : decode cL_law 542 = .ok (.iaload, 1) := dc_46 (lw_8 (j := 30) rfl (by decide +kernel))
theorem dL_law_543 : decode cL_law 543 = .ok (.aload_n 0, 1) := dc_42 (lw_8 (j := 31) rfl (by decide +kernel))
theorem dL_law_544 : decode cL_law 544 = .ok (.iload_n 3, 1) := dc_29 (lw_8 (j := 32) rfl (by decide +kernel))
theorem dL_law_545 : decode cL_law 545 = .ok (.iconst 3, 1) := dc_6 (lw_8 (j := 33) rfl (by decide +kernel))
theorem dL_law_546 : decode cL_law 546 = .ok (.iadd, 1) := dc_96 (lw_8 (j := 34) rfl (by decide +kernel))
theorem dL_law_547 : decode cL_law 547 = .ok (.iaload, 1) := dc_46 (lw_8 (j := 35) rfl (by decide +kernel))
theorem dL_law_548 : decode cL_law 548 = .ok (.aload_n 0, 1) := dc_42 (lw_8 (j := 36) rfl (by decide +kernel))
theorem dL_law_549 : decode cL_law 549 = .ok (.iload_n 3, 1) := dc_29 (lw_8 (j := 37) rfl (by decide +kernel))
theorem dL_law_550 : decode cL_law 550 = .ok (.iconst 4, 1) := dc_7 (lw_8 (j := 38) rfl (by decide +kernel))
theorem dL_law_551 : decode cL_law 551 = .ok (.iadd, 1) := dc_96 (lw_8 (j := 39) rfl (by decide +kernel))
theorem dL_law_552 : decode cL_law 552 = .ok (.iaload, 1) := dc_46 (lw_8 (j := 40) rfl (by decide +kernel))
theorem dL_law_553 : decode cL_law 553 = .ok (.invokevirtual 42, 3) := dc_182 (a := 0) (b := 42) (lw_8 (j := 41) rfl (by decide +kernel))
theorem dL_law_556 : decode cL_law 556 = .ok (.pop, 1) := dc_87 (lw_8 (j := 44) rfl (by decide +kernel))
theorem dL_law_557 : decode cL_law 557 = .ok (.goto 1406, 3) := dc_167 (a := 5) (b := 126) (lw_8 (j := 45) rfl (by decide +kernel)) (by decide)
theorem dL_law_560 : decode cL_law 560 = .ok (.aload_n 1, 1) := dc_43 (lw_8 (j := 48) rfl (by decide +kernel))
theorem dL_law_561 : decode cL_law 561 = .ok (.aload_n 0, 1) := dc_42 (lw_8 (j := 49) rfl (by decide +kernel))
theorem dL_law_562 : decode cL_law 562 = .ok (.iload_n 3, 1) := dc_29 (lw_8 (j := 50) rfl (by decide +kernel))
theorem dL_law_563 : decode cL_law 563 = .ok (.iconst 1, 1) := dc_4 (lw_8 (j := 51) rfl (by decide +kernel))
theorem dL_law_564 : decode cL_law 564 = .ok (.iadd, 1) := dc_96 (lw_8 (j := 52) rfl (by decide +kernel))
theorem dL_law_565 : decode cL_law 565 = .ok (.iaload, 1) := dc_46 (lw_8 (j := 53) rfl (by decide +kernel))
theorem dL_law_566 : decode cL_law 566 = .ok (.aload_n 0, 1) := dc_42 (lw_8 (j := 54) rfl (by decide +kernel))
theorem dL_law_567 : decode cL_law 567 = .ok (.iload_n 3, 1) := dc_29 (lw_8 (j := 55) rfl (by decide +kernel))
theorem dL_law_568 : decode cL_law 568 = .ok (.iconst 2, 1) := dc_5 (lw_8 (j := 56) rfl (by decide +kernel))
theorem dL_law_569 : decode cL_law 569 = .ok (.iadd, 1) := dc_96 (lw_8 (j := 57) rfl (by decide +kernel))
theorem dL_law_570 : decode cL_law 570 = .ok (.iaload, 1) := dc_46 (lw_8 (j := 58) rfl (by decide +kernel))
theorem dL_law_571 : decode cL_law 571 = .ok (.aload_n 0, 1) := dc_42 (lw_8 (j := 59) rfl (by decide +kernel))
theorem dL_law_572 : decode cL_law 572 = .ok (.iload_n 3, 1) := dc_29 (lw_8 (j := 60) rfl (by decide +kernel))
theorem dL_law_573 : decode cL_law 573 = .ok (.iconst 3, 1) := dc_6 (lw_8 (j := 61) rfl (by decide +kernel))
theorem dL_law_574 : decode cL_law 574 = .ok (.iadd, 1) := dc_96 (lw_8 (j := 62) rfl (by decide +kernel))
theorem dL_law_575 : decode cL_law 575 = .ok (.iaload, 1) := dc_46 (lw_8 (j := 63) rfl (by decide +kernel))
theorem dL_law_576 : decode cL_law 576 = .ok (.ifCond .eq 7, 3) := dc_153 (a := 0) (b := 7) (lw_9 (j := 0) rfl (by decide +kernel)) (by decide)
theorem dL_law_579 : decode cL_law 579 = .ok (.iconst 1, 1) := dc_4 (lw_9 (j := 3) rfl (by decide +kernel))
theorem dL_law_580 : decode cL_law 580 = .ok (.goto 4, 3) := dc_167 (a := 0) (b := 4) (lw_9 (j := 4) rfl (by decide +kernel)) (by decide)
theorem dL_law_583 : decode cL_law 583 = .ok (.iconst 0, 1) := dc_3 (lw_9 (j := 7) rfl (by decide +kernel))
theorem dL_law_584 : decode cL_law 584 = .ok (.invokevirtual 43, 3) := dc_182 (a := 0) (b := 43) (lw_9 (j := 8) rfl (by decide +kernel))
theorem dL_law_587 : decode cL_law 587 = .ok (.pop, 1) := dc_87 (lw_9 (j := 11) rfl (by decide +kernel))
theorem dL_law_588 : decode cL_law 588 = .ok (.aload_n 2, 1) := dc_44 (lw_9 (j := 12) rfl (by decide +kernel))
theorem dL_law_589 : decode cL_law 589 = .ok (.aload_n 0, 1) := dc_42 (lw_9 (j := 13) rfl (by decide +kernel))
theorem dL_law_590 : decode cL_law 590 = .ok (.iload_n 3, 1) := dc_29 (lw_9 (j := 14) rfl (by decide +kernel))
theorem dL_law_591 : decode cL_law 591 = .ok (.iconst 1, 1) := dc_4 (lw_9 (j := 15) rfl (by decide +kernel))
theorem dL_law_592 : decode cL_law 592 = .ok (.iadd, 1) := dc_96 (lw_9 (j := 16) rfl (by decide +kernel))
theorem dL_law_593 : decode cL_law 593 = .ok (.iaload, 1) := dc_46 (lw_9 (j := 17) rfl (by decide +kernel))
theorem dL_law_594 : decode cL_law 594 = .ok (.aload_n 0, 1) := dc_42 (lw_9 (j := 18) rfl (by decide +kernel))
theorem dL_law_595 : decode cL_law 595 = .ok (.iload_n 3, 1) := dc_29 (lw_9 (j := 19) rfl (by decide +kernel))
theorem dL_law_596 : decode cL_law 596 = .ok (.iconst 2, 1) := dc_5 (lw_9 (j := 20) rfl (by decide +kernel))
theorem dL_law_597 : decode cL_law 597 = .ok (.iadd, 1) := dc_96 (lw_9 (j := 21) rfl (by decide +kernel))
theorem dL_law_598 : decode cL_law 598 = .ok (.iaload, 1) := dc_46 (lw_9 (j := 22) rfl (by decide +kernel))
theorem dL_law_599 : decode cL_law 599 = .ok (.aload_n 0, 1) := dc_42 (lw_9 (j := 23) rfl (by decide +kernel))
theorem dL_law_600 : decode cL_law 600 = .ok (.iload_n 3, 1) := dc_29 (lw_9 (j := 24) rfl (by decide +kernel))
theorem dL_law_601 : decode cL_law 601 = .ok (.iconst 3, 1) := dc_6 (lw_9 (j := 25) rfl (by decide +kernel))
theorem dL_law_602 : decode cL_law 602 = .ok (.iadd, 1) := dc_96 (lw_9 (j := 26) rfl (by decide +kernel))
theorem dL_law_603 : decode cL_law 603 = .ok (.iaload, 1) := dc_46 (lw_9 (j := 27) rfl (by decide +kernel))
theorem dL_law_604 : decode cL_law 604 = .ok (.ifCond .eq 7, 3) := dc_153 (a := 0) (b := 7) (lw_9 (j := 28) rfl (by decide +kernel)) (by decide)
theorem dL_law_607 : decode cL_law 607 = .ok (.iconst 1, 1) := dc_4 (lw_9 (j := 31) rfl (by decide +kernel))
theorem dL_law_608 : decode cL_law 608 = .ok (.goto 4, 3) := dc_167 (a := 0) (b := 4) (lw_9 (j := 32) rfl (by decide +kernel)) (by decide)
theorem dL_law_611 : decode cL_law 611 = .ok (.iconst 0, 1) := dc_3 (lw_9 (j := 35) rfl (by decide +kernel))
theorem dL_law_612 : decode cL_law 612 = .ok (.invokevirtual 46, 3) := dc_182 (a := 0) (b := 46) (lw_9 (j := 36) rfl (by decide +kernel))
theorem dL_law_615 : decode cL_law 615 = .ok (.pop, 1) := dc_87 (lw_9 (j := 39) rfl (by decide +kernel))
theorem dL_law_616 : decode cL_law 616 = .ok (.goto 1347, 3) := dc_167 (a := 5) (b := 67) (lw_9 (j := 40) rfl (by decide +kernel)) (by decide)
theorem dL_law_619 : decode cL_law 619 = .ok (.aload_n 1, 1) := dc_43 (lw_9 (j := 43) rfl (by decide +kernel))
theorem dL_law_620 : decode cL_law 620 = .ok (.aload_n 0, 1) := dc_42 (lw_9 (j := 44) rfl (by decide +kernel))
theorem dL_law_621 : decode cL_law 621 = .ok (.iload_n 3, 1) := dc_29 (lw_9 (j := 45) rfl (by decide +kernel))
theorem dL_law_622 : decode cL_law 622 = .ok (.iconst 1, 1) := dc_4 (lw_9 (j := 46) rfl (by decide +kernel))
theorem dL_law_623 : decode cL_law 623 = .ok (.iadd, 1) := dc_96 (lw_9 (j := 47) rfl (by decide +kernel))
theorem dL_law_624 : decode cL_law 624 = .ok (.iaload, 1) := dc_46 (lw_9 (j := 48) rfl (by decide +kernel))
theorem dL_law_625 : decode cL_law 625 = .ok (.aload_n 0, 1) := dc_42 (lw_9 (j := 49) rfl (by decide +kernel))
theorem dL_law_626 : decode cL_law 626 = .ok (.iload_n 3, 1) := dc_29 (lw_9 (j := 50) rfl (by decide +kernel))
theorem dL_law_627 : decode cL_law 627 = .ok (.iconst 2, 1) := dc_5 (lw_9 (j := 51) rfl (by decide +kernel))
theorem dL_law_628 : decode cL_law 628 = .ok (.iadd, 1) := dc_96 (lw_9 (j := 52) rfl (by decide +kernel))
theorem dL_law_629 : decode cL_law 629 = .ok (.iaload, 1) := dc_46 (lw_9 (j := 53) rfl (by decide +kernel))
theorem dL_law_630 : decode cL_law 630 = .ok (.invokevirtual 47, 3) := dc_182 (a := 0) (b := 47) (lw_9 (j := 54) rfl (by decide +kernel))
theorem dL_law_633 : decode cL_law 633 = .ok (.pop, 1) := dc_87 (lw_9 (j := 57) rfl (by decide +kernel))
theorem dL_law_634 : decode cL_law 634 = .ok (.aload_n 2, 1) := dc_44 (lw_9 (j := 58) rfl (by decide +kernel))
theorem dL_law_635 : decode cL_law 635 = .ok (.aload_n 0, 1) := dc_42 (lw_9 (j := 59) rfl (by decide +kernel))
theorem dL_law_636 : decode cL_law 636 = .ok (.iload_n 3, 1) := dc_29 (lw_9 (j := 60) rfl (by decide +kernel))
theorem dL_law_637 : decode cL_law 637 = .ok (.iconst 1, 1) := dc_4 (lw_9 (j := 61) rfl (by decide +kernel))
theorem dL_law_638 : decode cL_law 638 = .ok (.iadd, 1) := dc_96 (lw_9 (j := 62) rfl (by decide +kernel))
theorem dL_law_639 : decode cL_law 639 = .ok (.iaload, 1) := dc_46 (lw_9 (j := 63) rfl (by decide +kernel))
theorem dL_law_640 : decode cL_law 640 = .ok (.aload_n 0, 1) := dc_42 (lw_10 (j := 0) rfl (by decide +kernel))
theorem dL_law_641 : decode cL_law 641 = .ok (.iload_n 3, 1) := dc_29 (lw_10 (j := 1) rfl (by decide +kernel))
theorem dL_law_642 : decode cL_law 642 = .ok (.iconst 2, 1) := dc_5 (lw_10 (j := 2) rfl (by decide +kernel))
theorem dL_law_643 : decode cL_law 643 = .ok (.iadd, 1) := dc_96 (lw_10 (j := 3) rfl (by decide +kernel))
theorem dL_law_644 : decode cL_law 644 = .ok (.iaload, 1) := dc_46 (lw_10 (j := 4) rfl (by decide +kernel))
theorem dL_law_645 : decode cL_law 645 = .ok (.invokevirtual 50, 3) := dc_182 (a := 0) (b := 50) (lw_10 (j := 5) rfl (by decide +kernel))
theorem dL_law_648 : decode cL_law 648 = .ok (.pop, 1) := dc_87 (lw_10 (j := 8) rfl (by decide +kernel))
theorem dL_law_649 : decode cL_law 649 = .ok (.goto 1314, 3) := dc_167 (a := 5) (b := 34) (lw_10 (j := 9) rfl (by decide +kernel)) (by decide)
theorem dL_law_652 : decode cL_law 652 = .ok (.aload_n 1, 1) := dc_43 (lw_10 (j := 12) rfl (by decide +kernel))
theorem dL_law_653 : decode cL_law 653 = .ok (.invokevirtual 51, 3) := dc_182 (a := 0) (b := 51) (lw_10 (j := 13) rfl (by decide +kernel))
theorem dL_law_656 : decode cL_law 656 = .ok (.pop, 1) := dc_87 (lw_10 (j := 16) rfl (by decide +kernel))
theorem dL_law_657 : decode cL_law 657 = .ok (.aload_n 2, 1) := dc_44 (lw_10 (j := 17) rfl (by decide +kernel))
theorem dL_law_658 : decode cL_law 658 = .ok (.invokevirtual 55, 3) := dc_182 (a := 0) (b := 55) (lw_10 (j := 18) rfl (by decide +kernel))
theorem dL_law_661 : decode cL_law 661 = .ok (.pop, 1) := dc_87 (lw_10 (j := 21) rfl (by decide +kernel))
theorem dL_law_662 : decode cL_law 662 = .ok (.goto 1301, 3) := dc_167 (a := 5) (b := 21) (lw_10 (j := 22) rfl (by decide +kernel)) (by decide)
theorem dL_law_665 : decode cL_law 665 = .ok (.aload_n 1, 1) := dc_43 (lw_10 (j := 25) rfl (by decide +kernel))
theorem dL_law_666 : decode cL_law 666 = .ok (.aload_n 0, 1) := dc_42 (lw_10 (j := 26) rfl (by decide +kernel))
theorem dL_law_667 : decode cL_law 667 = .ok (.iload_n 3, 1) := dc_29 (lw_10 (j := 27) rfl (by decide +kernel))
theorem dL_law_668 : decode cL_law 668 = .ok (.iconst 1, 1) := dc_4 (lw_10 (j := 28) rfl (by decide +kernel))
theorem dL_law_669 : decode cL_law 669 = .ok (.iadd, 1) := dc_96 (lw_10 (j := 29) rfl (by decide +kernel))
theorem dL_law_670 : decode cL_law 670 = .ok (.iaload, 1) := dc_46 (lw_10 (j := 30) rfl (by decide +kernel))
theorem dL_law_671 : decode cL_law 671 = .ok (.aload_n 0, 1) := dc_42 (lw_10 (j := 31) rfl (by decide +kernel))
theorem dL_law_672 : decode cL_law 672 = .ok (.iload_n 3, 1) := dc_29 (lw_10 (j := 32) rfl (by decide +kernel))
theorem dL_law_673 : decode cL_law 673 = .ok (.iconst 2, 1) := dc_5 (lw_10 (j := 33) rfl (by decide +kernel))
theorem dL_law_674 : decode cL_law 674 = .ok (.iadd, 1) := dc_96 (lw_10 (j := 34) rfl (by decide +kernel))
theorem dL_law_675 : decode cL_law 675 = .ok (.iaload, 1) := dc_46 (lw_10 (j := 35) rfl (by decide +kernel))
theorem dL_law_676 : decode cL_law 676 = .ok (.aload_n 0, 1) := dc_42 (lw_10 (j := 36) rfl (by decide +kernel))
theorem dL_law_677 : decode cL_law 677 = .ok (.iload_n 3, 1) := dc_29 (lw_10 (j := 37) rfl (by decide +kernel))
theorem dL_law_678 : decode cL_law 678 = .ok (.iconst 3, 1) := dc_6 (lw_10 (j := 38) rfl (by decide +kernel))
theorem dL_law_679 : decode cL_law 679 = .ok (.iadd, 1) := dc_96 (lw_10 (j := 39) rfl (by decide +kernel))
theorem dL_law_680 : decode cL_law 680 = .ok (.iaload, 1) := dc_46 (lw_10 (j := 40) rfl (by decide +kernel))
theorem dL_law_681 : decode cL_law 681 = .ok (.aload_n 0, 1) := dc_42 (lw_10 (j := 41) rfl (by decide +kernel))
theorem dL_law_682 : decode cL_law 682 = .ok (.iload_n 3, 1) := dc_29 (lw_10 (j := 42) rfl (by decide +kernel))
theorem dL_law_683 : decode cL_law 683 = .ok (.iconst 4, 1) := dc_7 (lw_10 (j := 43) rfl (by decide +kernel))
theorem dL_law_684 : decode cL_law 684 = .ok (.iadd, 1) := dc_96 (lw_10 (j := 44) rfl (by decide +kernel))
theorem dL_law_685 : decode cL_law 685 = .ok (.iaload, 1) := dc_46 (lw_10 (j := 45) rfl (by decide +kernel))
theorem dL_law_686 : decode cL_law 686 = .ok (.invokevirtual 56, 3) := dc_182 (a := 0) (b := 56) (lw_10 (j := 46) rfl (by decide +kernel))
theorem dL_law_689 : decode cL_law 689 = .ok (.pop, 1) := dc_87 (lw_10 (j := 49) rfl (by decide +kernel))
theorem dL_law_690 : decode cL_law 690 = .ok (.aload_n 2, 1) := dc_44 (lw_10 (j := 50) rfl (by decide +kernel))
theorem dL_law_691 : decode cL_law 691 = .ok (.aload_n 0, 1) := dc_42 (lw_10 (j := 51) rfl (by decide +kernel))
theorem dL_law_692 : decode cL_law 692 = .ok (.iload_n 3, 1) := dc_29 (lw_10 (j := 52) rfl (by decide +kernel))
theorem dL_law_693 : decode cL_law 693 = .ok (.iconst 1, 1) := dc_4 (lw_10 (j := 53) rfl (by decide +kernel))
theorem dL_law_694 : decode cL_law 694 = .ok (.iadd, 1) := dc_96 (lw_10 (j := 54) rfl (by decide +kernel))
theorem dL_law_695 : decode cL_law 695 = .ok (.iaload, 1) := dc_46 (lw_10 (j := 55) rfl (by decide +kernel))
theorem dL_law_696 : decode cL_law 696 = .ok (.aload_n 0, 1) := dc_42 (lw_10 (j := 56) rfl (by decide +kernel))
theorem dL_law_697 : decode cL_law 697 = .ok (.iload_n 3, 1) := dc_29 (lw_10 (j := 57) rfl (by decide +kernel))
theorem dL_law_698 : decode cL_law 698 = .ok (.iconst 2, 1) := dc_5 (lw_10 (j := 58) rfl (by decide +kernel))
theorem dL_law_699 : decode cL_law 699 = .ok (.iadd, 1) := dc_96 (lw_10 (j := 59) rfl (by decide +kernel))
theorem dL_law_700 : decode cL_law 700 = .ok (.iaload, 1) := dc_46 (lw_10 (j := 60) rfl (by decide +kernel))
theorem dL_law_701 : decode cL_law 701 = .ok (.aload_n 0, 1) := dc_42 (lw_10 (j := 61) rfl (by decide +kernel))
theorem dL_law_702 : decode cL_law 702 = .ok (.iload_n 3, 1) := dc_29 (lw_10 (j := 62) rfl (by decide +kernel))
theorem dL_law_703 : decode cL_law 703 = .ok (.iconst 3, 1) := dc_6 (lw_10 (j := 63) rfl (by decide +kernel))
theorem dL_law_704 : decode cL_law 704 = .ok (.iadd, 1) := dc_96 (lw_11 (j := 0) rfl (by decide +kernel))
theorem dL_law_705 : decode cL_law 705 = .ok (.iaload, 1) := dc_46 (lw_11 (j := 1) rfl (by decide +kernel))
theorem dL_law_706 : decode cL_law 706 = .ok (.aload_n 0, 1) := dc_42 (lw_11 (j := 2) rfl (by decide +kernel))
theorem dL_law_707 : decode cL_law 707 = .ok (.iload_n 3, 1) := dc_29 (lw_11 (j := 3) rfl (by decide +kernel))
theorem dL_law_708 : decode cL_law 708 = .ok (.iconst 4, 1) := dc_7 (lw_11 (j := 4) rfl (by decide +kernel))
theorem dL_law_709 : decode cL_law 709 = .ok (.iadd, 1) := dc_96 (lw_11 (j := 5) rfl (by decide +kernel))
theorem dL_law_710 : decode cL_law 710 = .ok (.iaload, 1) := dc_46 (lw_11 (j := 6) rfl (by decide +kernel))
theorem dL_law_711 : decode cL_law 711 = .ok (.invokevirtual 59, 3) := dc_182 (a := 0) (b := 59) (lw_11 (j := 7) rfl (by decide +kernel))
theorem dL_law_714 : decode cL_law 714 = .ok (.pop, 1) := dc_87 (lw_11 (j := 10) rfl (by decide +kernel))
theorem dL_law_715 : decode cL_law 715 = .ok (.goto 1248, 3) := dc_167 (a := 4) (b := 224) (lw_11 (j := 11) rfl (by decide +kernel)) (by decide)
theorem dL_law_718 : decode cL_law 718 = .ok (.aload_n 1, 1) := dc_43 (lw_11 (j := 14) rfl (by decide +kernel))
theorem dL_law_719 : decode cL_law 719 = .ok (.aload_n 0, 1) := dc_42 (lw_11 (j := 15) rfl (by decide +kernel))
theorem dL_law_720 : decode cL_law 720 = .ok (.iload_n 3, 1) := dc_29 (lw_11 (j := 16) rfl (by decide +kernel))
theorem dL_law_721 : decode cL_law 721 = .ok (.iconst 1, 1) := dc_4 (lw_11 (j := 17) rfl (by decide +kernel))
theorem dL_law_722 : decode cL_law 722 = .ok (.iadd, 1) := dc_96 (lw_11 (j := 18) rfl (by decide +kernel))
theorem dL_law_723 : decode cL_law 723 = .ok (.iaload, 1) := dc_46 (lw_11 (j := 19) rfl (by decide +kernel))
theorem dL_law_724 : decode cL_law 724 = .ok (.aload_n 0, 1) := dc_42 (lw_11 (j := 20) rfl (by decide +kernel))
theorem dL_law_725 : decode cL_law 725 = .ok (.iload_n 3, 1) := dc_29 (lw_11 (j := 21) rfl (by decide +kernel))
theorem dL_law_726 : decode cL_law 726 = .ok (.iconst 2, 1) := dc_5 (lw_11 (j := 22) rfl (by decide +kernel))
theorem dL_law_727 : decode cL_law 727 = .ok (.iadd, 1) := dc_96 (lw_11 (j := 23) rfl (by decide +kernel))
theorem dL_law_728 : decode cL_law 728 = .ok (.iaload, 1) := dc_46 (lw_11 (j := 24) rfl (by decide +kernel))
theorem dL_law_729 : decode cL_law 729 = .ok (.aload_n 0, 1) := dc_42 (lw_11 (j := 25) rfl (by decide +kernel))
theorem dL_law_730 : decode cL_law 730 = .ok (.iload_n 3, 1) := dc_29 (lw_11 (j := 26) rfl (by decide +kernel))
theorem dL_law_731 : decode cL_law 731 = .ok (.iconst 3, 1) := dc_6 (lw_11 (j := 27) rfl (by decide +kernel))
theorem dL_law_732 : decode cL_law 732 = .ok (.iadd, 1) := dc_96 (lw_11 (j := 28) rfl (by decide +kernel))
theorem dL_law_733 : decode cL_law 733 = .ok (.iaload, 1) := dc_46 (lw_11 (j := 29) rfl (by decide +kernel))
theorem dL_law_734 : decode cL_law 734 = .ok (.invokevirtual 60, 3) := dc_182 (a := 0) (b := 60) (lw_11 (j := 30) rfl (by decide +kernel))
theorem dL_law_737 : decode cL_law 737 = .ok (.pop, 1) := dc_87 (lw_11 (j := 33) rfl (by decide +kernel))
theorem dL_law_738 : decode cL_law 738 = .ok (.aload_n 2, 1) := dc_44 (lw_11 (j := 34) rfl (by decide +kernel))
theorem dL_law_739 : decode cL_law 739 = .ok (.aload_n 0, 1) := dc_42 (lw_11 (j := 35) rfl (by decide +kernel))
theorem dL_law_740 : decode cL_law 740 = .ok (.iload_n 3, 1) := dc_29 (lw_11 (j := 36) rfl (by decide +kernel))
theorem dL_law_741 : decode cL_law 741 = .ok (.iconst 1, 1) := dc_4 (lw_11 (j := 37) rfl (by decide +kernel))
theorem dL_law_742 : decode cL_law 742 = .ok (.iadd, 1) := dc_96 (lw_11 (j := 38) rfl (by decide +kernel))
theorem dL_law_743 : decode cL_law 743 = .ok (.iaload, 1) := dc_46 (lw_11 (j := 39) rfl (by decide +kernel))
theorem dL_law_744 : decode cL_law 744 = .ok (.aload_n 0, 1) := dc_42 (lw_11 (j := 40) rfl (by decide +kernel))
theorem dL_law_745 : decode cL_law 745 = .ok (.iload_n 3, 1) := dc_29 (lw_11 (j := 41) rfl (by decide +kernel))
theorem dL_law_746 : decode cL_law 746 = .ok (.iconst 2, 1) := dc_5 (lw_11 (j := 42) rfl (by decide +kernel))
theorem dL_law_747 : decode cL_law 747 = .ok (.iadd, 1) := dc_96 (lw_11 (j := 43) rfl (by decide +kernel))
theorem dL_law_748 : decode cL_law 748 = .ok (.iaload, 1) := dc_46 (lw_11 (j := 44) rfl (by decide +kernel))
theorem dL_law_749 : decode cL_law 749 = .ok (.aload_n 0, 1) := dc_42 (lw_11 (j := 45) rfl (by decide +kernel))
theorem dL_law_750 : decode cL_law 750 = .ok (.iload_n 3, 1) := dc_29 (lw_11 (j := 46) rfl (by decide +kernel))
theorem dL_law_751 : decode cL_law 751 = .ok (.iconst 3, 1) := dc_6 (lw_11 (j := 47) rfl (by decide +kernel))
theorem dL_law_752 : decode cL_law 752 = .ok (.iadd, 1) := dc_96 (lw_11 (j := 48) rfl (by decide +kernel))
theorem dL_law_753 : decode cL_law 753 = .ok (.iaload, 1) := dc_46 (lw_11 (j := 49) rfl (by decide +kernel))
theorem dL_law_754 : decode cL_law 754 = .ok (.invokevirtual 64, 3) := dc_182 (a := 0) (b := 64) (lw_11 (j := 50) rfl (by decide +kernel))
theorem dL_law_757 : decode cL_law 757 = .ok (.pop, 1) := dc_87 (lw_11 (j := 53) rfl (by decide +kernel))
theorem dL_law_758 : decode cL_law 758 = .ok (.goto 1205, 3) := dc_167 (a := 4) (b := 181) (lw_11 (j := 54) rfl (by decide +kernel)) (by decide)
theorem dL_law_761 : decode cL_law 761 = .ok (.aload_n 1, 1) := dc_43 (lw_11 (j := 57) rfl (by decide +kernel))
theorem dL_law_762 : decode cL_law 762 = .ok (.aload_n 0, 1) := dc_42 (lw_11 (j := 58) rfl (by decide +kernel))
theorem dL_law_763 : decode cL_law 763 = .ok (.iload_n 3, 1) := dc_29 (lw_11 (j := 59) rfl (by decide +kernel))
theorem dL_law_764 : decode cL_law 764 = .ok (.iconst 1, 1) := dc_4 (lw_11 (j := 60) rfl (by decide +kernel))
theorem dL_law_765 : decode cL_law 765 = .ok (.iadd, 1) := dc_96 (lw_11 (j := 61) rfl (by decide +kernel))
theorem dL_law_766 : decode cL_law 766 = .ok (.iaload, 1) := dc_46 (lw_11 (j := 62) rfl (by decide +kernel))
theorem dL_law_767 : decode cL_law 767 = .ok (.aload_n 0, 1) := dc_42 (lw_11 (j := 63) rfl (by decide +kernel))
theorem dL_law_768 : decode cL_law 768 = .ok (.iload_n 3, 1) := dc_29 (lw_12 (j := 0) rfl (by decide +kernel))
theorem dL_law_769 : decode cL_law 769 = .ok (.iconst 2, 1) := dc_5 (lw_12 (j := 1) rfl (by decide +kernel))
theorem dL_law_770 : decode cL_law 770 = .ok (.iadd, 1) := dc_96 (lw_12 (j := 2) rfl (by decide +kernel))
theorem dL_law_771 : decode cL_law 771 = .ok (.iaload, 1) := dc_46 (lw_12 (j := 3) rfl (by decide +kernel))
theorem dL_law_772 : decode cL_law 772 = .ok (.aload_n 0, 1) := dc_42 (lw_12 (j := 4) rfl (by decide +kernel))
theorem dL_law_773 : decode cL_law 773 = .ok (.iload_n 3, 1) := dc_29 (lw_12 (j := 5) rfl (by decide +kernel))
theorem dL_law_774 : decode cL_law 774 = .ok (.iconst 3, 1) := dc_6 (lw_12 (j := 6) rfl (by decide +kernel))
theorem dL_law_775 : decode cL_law 775 = .ok (.iadd, 1) := dc_96 (lw_12 (j := 7) rfl (by decide +kernel))
theorem dL_law_776 : decode cL_law 776 = .ok (.iaload, 1) := dc_46 (lw_12 (j := 8) rfl (by decide +kernel))
theorem dL_law_777 : decode cL_law 777 = .ok (.aload_n 0, 1) := dc_42 (lw_12 (j := 9) rfl (by decide +kernel))
theorem dL_law_778 : decode cL_law 778 = .ok (.iload_n 3, 1) := dc_29 (lw_12 (j := 10) rfl (by decide +kernel))
theorem dL_law_779 : decode cL_law 779 = .ok (.iconst 4, 1) := dc_7 (lw_12 (j := 11) rfl (by decide +kernel))
theorem dL_law_780 : decode cL_law 780 = .ok (.iadd, 1) := dc_96 (lw_12 (j := 12) rfl (by decide +kernel))
theorem dL_law_781 : decode cL_law 781 = .ok (.iaload, 1) := dc_46 (lw_12 (j := 13) rfl (by decide +kernel))
theorem dL_law_782 : decode cL_law 782 = .ok (.invokevirtual 65, 3) := dc_182 (a := 0) (b := 65) (lw_12 (j := 14) rfl (by decide +kernel))
theorem dL_law_785 : decode cL_law 785 = .ok (.pop, 1) := dc_87 (lw_12 (j := 17) rfl (by decide +kernel))
theorem dL_law_786 : decode cL_law 786 = .ok (.aload_n 2, 1) := dc_44 (lw_12 (j := 18) rfl (by decide +kernel))
theorem dL_law_787 : decode cL_law 787 = .ok (.aload_n 0, 1) := dc_42 (lw_12 (j := 19) rfl (by decide +kernel))
theorem dL_law_788 : decode cL_law 788 = .ok (.iload_n 3, 1) := dc_29 (lw_12 (j := 20) rfl (by decide +kernel))
theorem dL_law_789 : decode cL_law 789 = .ok (.iconst 1, 1) := dc_4 (lw_12 (j := 21) rfl (by decide +kernel))
theorem dL_law_790 : decode cL_law 790 = .ok (.iadd, 1) := dc_96 (lw_12 (j := 22) rfl (by decide +kernel))
theorem dL_law_791 : decode cL_law 791 = .ok (.iaload, 1) := dc_46 (lw_12 (j := 23) rfl (by decide +kernel))
theorem dL_law_792 : decode cL_law 792 = .ok (.aload_n 0, 1) := dc_42 (lw_12 (j := 24) rfl (by decide +kernel))
theorem dL_law_793 : decode cL_law 793 = .ok (.iload_n 3, 1) := dc_29 (lw_12 (j := 25) rfl (by decide +kernel))
theorem dL_law_794 : decode cL_law 794 = .ok (.iconst 2, 1) := dc_5 (lw_12 (j := 26) rfl (by decide +kernel))
theorem dL_law_795 : decode cL_law 795 = .ok (.iadd, 1) := dc_96 (lw_12 (j := 27) rfl (by decide +kernel))
theorem dL_law_796 : decode cL_law 796 = .ok (.iaload, 1) := dc_46 (lw_12 (j := 28) rfl (by decide +kernel))
theorem dL_law_797 : decode cL_law 797 = .ok (.aload_n 0, 1) := dc_42 (lw_12 (j := 29) rfl (by decide +kernel))
theorem dL_law_798 : decode cL_law 798 = .ok (.iload_n 3, 1) := dc_29 (lw_12 (j := 30) rfl (by decide +kernel))
theorem dL_law_799 : decode cL_law 799 = .ok (.iconst 3, 1) := dc_6 (lw_12 (j := 31) rfl (by decide +kernel))
theorem dL_law_800 : decode cL_law 800 = .ok (.iadd, 1) := dc_96 (lw_12 (j := 32) rfl (by decide +kernel))
theorem dL_law_801 : decode cL_law 801 = .ok (.iaload, 1) := dc_46 (lw_12 (j := 33) rfl (by decide +kernel))
theorem dL_law_802 : decode cL_law 802 = .ok (.aload_n 0, 1) := dc_42 (lw_12 (j := 34) rfl (by decide +kernel))
theorem dL_law_803 : decode cL_law 803 = .ok (.iload_n 3, 1) := dc_29 (lw_12 (j := 35) rfl (by decide +kernel))
theorem dL_law_804 : decode cL_law 804 = .ok (.iconst 4, 1) := dc_7 (lw_12 (j := 36) rfl (by decide +kernel))
theorem dL_law_805 : decode cL_law 805 = .ok (.iadd, 1) := dc_96 (lw_12 (j := 37) rfl (by decide +kernel))
theorem dL_law_806 : decode cL_law 806 = .ok (.iaload, 1) := dc_46 (lw_12 (j := 38) rfl (by decide +kernel))
theorem dL_law_807 : decode cL_law 807 = .ok (.invokevirtual 68, 3) := dc_182 (a := 0) (b := 68) (lw_12 (j := 39) rfl (by decide +kernel))
theorem dL_law_810 : decode cL_law 810 = .ok (.pop, 1) := dc_87 (lw_12 (j := 42) rfl (by decide +kernel))
theorem dL_law_811 : decode cL_law 811 = .ok (.goto 1152, 3) := dc_167 (a := 4) (b := 128) (lw_12 (j := 43) rfl (by decide +kernel)) (by decide)
theorem dL_law_814 : decode cL_law 814 = .ok (.aload_n 1, 1) := dc_43 (lw_12 (j := 46) rfl (by decide +kernel))
theorem dL_law_815 : decode cL_law 815 = .ok (.aload_n 0, 1) := dc_42 (lw_12 (j := 47) rfl (by decide +kernel))
theorem dL_law_816 : decode cL_law 816 = .ok (.iload_n 3, 1) := dc_29 (lw_12 (j := 48) rfl (by decide +kernel))
theorem dL_law_817 : decode cL_law 817 = .ok (.iconst 1, 1) := dc_4 (lw_12 (j := 49) rfl (by decide +kernel))
theorem dL_law_818 : decode cL_law 818 = .ok (.iadd, 1) := dc_96 (lw_12 (j := 50) rfl (by decide +kernel))
theorem dL_law_819 : decode cL_law 819 = .ok (.iaload, 1) := dc_46 (lw_12 (j := 51) rfl (by decide +kernel))
theorem dL_law_820 : decode cL_law 820 = .ok (.aload_n 0, 1) := dc_42 (lw_12 (j := 52) rfl (by decide +kernel))
theorem dL_law_821 : decode cL_law 821 = .ok (.iload_n 3, 1) := dc_29 (lw_12 (j := 53) rfl (by decide +kernel))
theorem dL_law_822 : decode cL_law 822 = .ok (.iconst 2, 1) := dc_5 (lw_12 (j := 54) rfl (by decide +kernel))
theorem dL_law_823 : decode cL_law 823 = .ok (.iadd, 1) := dc_96 (lw_12 (j := 55) rfl (by decide +kernel))
theorem dL_law_824 : decode cL_law 824 = .ok (.iaload, 1) := dc_46 (lw_12 (j := 56) rfl (by decide +kernel))
theorem dL_law_825 : decode cL_law 825 = .ok (.invokevirtual 69, 3) := dc_182 (a := 0) (b := 69) (lw_12 (j := 57) rfl (by decide +kernel))
theorem dL_law_828 : decode cL_law 828 = .ok (.pop, 1) := dc_87 (lw_12 (j := 60) rfl (by decide +kernel))
theorem dL_law_829 : decode cL_law 829 = .ok (.aload_n 2, 1) := dc_44 (lw_12 (j := 61) rfl (by decide +kernel))
theorem dL_law_830 : decode cL_law 830 = .ok (.aload_n 0, 1) := dc_42 (lw_12 (j := 62) rfl (by decide +kernel))
theorem dL_law_831 : decode cL_law 831 = .ok (.iload_n 3, 1) := dc_29 (lw_12 (j := 63) rfl (by decide +kernel))
theorem dL_law_832 : decode cL_law 832 = .ok (.iconst 1, 1) := dc_4 (lw_13 (j := 0) rfl (by decide +kernel))
theorem dL_law_833 : decode cL_law 833 = .ok (.iadd, 1) := dc_96 (lw_13 (j := 1) rfl (by decide +kernel))
theorem dL_law_834 : decode cL_law 834 = .ok (.iaload, 1) := dc_46 (lw_13 (j := 2) rfl (by decide +kernel))
theorem dL_law_835 : decode cL_law 835 = .ok (.aload_n 0, 1) := dc_42 (lw_13 (j := 3) rfl (by decide +kernel))
theorem dL_law_836 : decode cL_law 836 = .ok (.iload_n 3, 1) := dc_29 (lw_13 (j := 4) rfl (by decide +kernel))
theorem dL_law_837 : decode cL_law 837 = .ok (.iconst 2, 1) := dc_5 (lw_13 (j := 5) rfl (by decide +kernel))
theorem dL_law_838 : decode cL_law 838 = .ok (.iadd, 1) := dc_96 (lw_13 (j := 6) rfl (by decide +kernel))
theorem dL_law_839 : decode cL_law 839 = .ok (.iaload, 1) := dc_46 (lw_13 (j := 7) rfl (by decide +kernel))
theorem dL_law_840 : decode cL_law 840 = .ok (.invokevirtual 72, 3) := dc_182 (a := 0) (b := 72) (lw_13 (j := 8) rfl (by decide +kernel))
theorem dL_law_843 : decode cL_law 843 = .ok (.pop, 1) := dc_87 (lw_13 (j := 11) rfl (by decide +kernel))
theorem dL_law_844 : decode cL_law 844 = .ok (.goto 1119, 3) := dc_167 (a := 4) (b := 95) (lw_13 (j := 12) rfl (by decide +kernel)) (by decide)
theorem dL_law_847 : decode cL_law 847 = .ok (.aload_n 1, 1) := dc_43 (lw_13 (j := 15) rfl (by decide +kernel))
theorem dL_law_848 : decode cL_law 848 = .ok (.aload_n 0, 1) := dc_42 (lw_13 (j := 16) rfl (by decide +kernel))
theorem dL_law_849 : decode cL_law 849 = .ok (.iload_n 3, 1) := dc_29 (lw_13 (j := 17) rfl (by decide +kernel))
theorem dL_law_850 : decode cL_law 850 = .ok (.iconst 1, 1) := dc_4 (lw_13 (j := 18) rfl (by decide +kernel))
theorem dL_law_851 : decode cL_law 851 = .ok (.iadd, 1) := dc_96 (lw_13 (j := 19) rfl (by decide +kernel))
theorem dL_law_852 : decode cL_law 852 = .ok (.iaload, 1) := dc_46 (lw_13 (j := 20) rfl (by decide +kernel))
theorem dL_law_853 : decode cL_law 853 = .ok (.aload_n 0, 1) := dc_42 (lw_13 (j := 21) rfl (by decide +kernel))
theorem dL_law_854 : decode cL_law 854 = .ok (.iload_n 3, 1) := dc_29 (lw_13 (j := 22) rfl (by decide +kernel))
theorem dL_law_855 : decode cL_law 855 = .ok (.iconst 2, 1) := dc_5 (lw_13 (j := 23) rfl (by decide +kernel))
theorem dL_law_856 : decode cL_law 856 = .ok (.iadd, 1) := dc_96 (lw_13 (j := 24) rfl (by decide +kernel))
theorem dL_law_857 : decode cL_law 857 = .ok (.iaload, 1) := dc_46 (lw_13 (j := 25) rfl (by decide +kernel))
theorem dL_law_858 : decode cL_law 858 = .ok (.invokevirtual 73, 3) := dc_182 (a := 0) (b := 73) (lw_13 (j := 26) rfl (by decide +kernel))
theorem dL_law_861 : decode cL_law 861 = .ok (.pop, 1) := dc_87 (lw_13 (j := 29) rfl (by decide +kernel))
theorem dL_law_862 : decode cL_law 862 = .ok (.aload_n 2, 1) := dc_44 (lw_13 (j := 30) rfl (by decide +kernel))
theorem dL_law_863 : decode cL_law 863 = .ok (.aload_n 0, 1) := dc_42 (lw_13 (j := 31) rfl (by decide +kernel))
theorem dL_law_864 : decode cL_law 864 = .ok (.iload_n 3, 1) := dc_29 (lw_13 (j := 32) rfl (by decide +kernel))
theorem dL_law_865 : decode cL_law 865 = .ok (.iconst 1, 1) := dc_4 (lw_13 (j := 33) rfl (by decide +kernel))
theorem dL_law_866 : decode cL_law 866 = .ok (.iadd, 1) := dc_96 (lw_13 (j := 34) rfl (by decide +kernel))
theorem dL_law_867 : decode cL_law 867 = .ok (.iaload, 1) := dc_46 (lw_13 (j := 35) rfl (by decide +kernel))
theorem dL_law_868 : decode cL_law 868 = .ok (.aload_n 0, 1) := dc_42 (lw_13 (j := 36) rfl (by decide +kernel))
theorem dL_law_869 : decode cL_law 869 = .ok (.iload_n 3, 1) := dc_29 (lw_13 (j := 37) rfl (by decide +kernel))
theorem dL_law_870 : decode cL_law 870 = .ok (.iconst 2, 1) := dc_5 (lw_13 (j := 38) rfl (by decide +kernel))
theorem dL_law_871 : decode cL_law 871 = .ok (.iadd, 1) := dc_96 (lw_13 (j := 39) rfl (by decide +kernel))
theorem dL_law_872 : decode cL_law 872 = .ok (.iaload, 1) := dc_46 (lw_13 (j := 40) rfl (by decide +kernel))
theorem dL_law_873 : decode cL_law 873 = .ok (.invokevirtual 76, 3) := dc_182 (a := 0) (b := 76) (lw_13 (j := 41) rfl (by decide +kernel))
theorem dL_law_876 : decode cL_law 876 = .ok (.pop, 1) := dc_87 (lw_13 (j := 44) rfl (by decide +kernel))
theorem dL_law_877 : decode cL_law 877 = .ok (.goto 1086, 3) := dc_167 (a := 4) (b := 62) (lw_13 (j := 45) rfl (by decide +kernel)) (by decide)
theorem dL_law_880 : decode cL_law 880 = .ok (.aload_n 1, 1) := dc_43 (lw_13 (j := 48) rfl (by decide +kernel))
theorem dL_law_881 : decode cL_law 881 = .ok (.aload_n 0, 1) := dc_42 (lw_13 (j := 49) rfl (by decide +kernel))
theorem dL_law_882 : decode cL_law 882 = .ok (.iload_n 3, 1) := dc_29 (lw_13 (j := 50) rfl (by decide +kernel))
theorem dL_law_883 : decode cL_law 883 = .ok (.iconst 1, 1) := dc_4 (lw_13 (j := 51) rfl (by decide +kernel))
theorem dL_law_884 : decode cL_law 884 = .ok (.iadd, 1) := dc_96 (lw_13 (j := 52) rfl (by decide +kernel))
theorem dL_law_885 : decode cL_law 885 = .ok (.iaload, 1) := dc_46 (lw_13 (j := 53) rfl (by decide +kernel))
theorem dL_law_886 : decode cL_law 886 = .ok (.aload_n 0, 1) := dc_42 (lw_13 (j := 54) rfl (by decide +kernel))
theorem dL_law_887 : decode cL_law 887 = .ok (.iload_n 3, 1) := dc_29 (lw_13 (j := 55) rfl (by decide +kernel))
theorem dL_law_888 : decode cL_law 888 = .ok (.iconst 2, 1) := dc_5 (lw_13 (j := 56) rfl (by decide +kernel))
theorem dL_law_889 : decode cL_law 889 = .ok (.iadd, 1) := dc_96 (lw_13 (j := 57) rfl (by decide +kernel))
theorem dL_law_890 : decode cL_law 890 = .ok (.iaload, 1) := dc_46 (lw_13 (j := 58) rfl (by decide +kernel))
theorem dL_law_891 : decode cL_law 891 = .ok (.invokevirtual 77, 3) := dc_182 (a := 0) (b := 77) (lw_13 (j := 59) rfl (by decide +kernel))
theorem dL_law_894 : decode cL_law 894 = .ok (.pop, 1) := dc_87 (lw_13 (j := 62) rfl (by decide +kernel))
theorem dL_law_895 : decode cL_law 895 = .ok (.aload_n 2, 1) := dc_44 (lw_13 (j := 63) rfl (by decide +kernel))
theorem dL_law_896 : decode cL_law 896 = .ok (.aload_n 0, 1) := dc_42 (lw_14 (j := 0) rfl (by decide +kernel))
theorem dL_law_897 : decode cL_law 897 = .ok (.iload_n 3, 1) := dc_29 (lw_14 (j := 1) rfl (by decide +kernel))
theorem dL_law_898 : decode cL_law 898 = .ok (.iconst 1, 1) := dc_4 (lw_14 (j := 2) rfl (by decide +kernel))
theorem dL_law_899 : decode cL_law 899 = .ok (.iadd, 1) := dc_96 (lw_14 (j := 3) rfl (by decide +kernel))
theorem dL_law_900 : decode cL_law 900 = .ok (.iaload, 1) := dc_46 (lw_14 (j := 4) rfl (by decide +kernel))
theorem dL_law_901 : decode cL_law 901 = .ok (.aload_n 0, 1) := dc_42 (lw_14 (j := 5) rfl (by decide +kernel))
theorem dL_law_902 : decode cL_law 902 = .ok (.iload_n 3, 1) := dc_29 (lw_14 (j := 6) rfl (by decide +kernel))
theorem dL_law_903 : decode cL_law 903 = .ok (.iconst 2, 1) := dc_5 (lw_14 (j := 7) rfl (by decide +kernel))
theorem dL_law_904 : decode cL_law 904 = .ok (.iadd, 1) := dc_96 (lw_14 (j := 8) rfl (by decide +kernel))
theorem dL_law_905 : decode cL_law 905 = .ok (.iaload, 1) := dc_46 (lw_14 (j := 9) rfl (by decide +kernel))
theorem dL_law_906 : decode cL_law 906 = .ok (.invokevirtual 80, 3) := dc_182 (a := 0) (b := 80) (lw_14 (j := 10) rfl (by decide +kernel))
theorem dL_law_909 : decode cL_law 909 = .ok (.pop, 1) := dc_87 (lw_14 (j := 13) rfl (by decide +kernel))
theorem dL_law_910 : decode cL_law 910 = .ok (.goto 1053, 3) := dc_167 (a := 4) (b := 29) (lw_14 (j := 14) rfl (by decide +kernel)) (by decide)
theorem dL_law_913 : decode cL_law 913 = .ok (.aload_n 1, 1) := dc_43 (lw_14 (j := 17) rfl (by decide +kernel))
theorem dL_law_914 : decode cL_law 914 = .ok (.aload_n 0, 1) := dc_42 (lw_14 (j := 18) rfl (by decide +kernel))
theorem dL_law_915 : decode cL_law 915 = .ok (.iload_n 3, 1) := dc_29 (lw_14 (j := 19) rfl (by decide +kernel))
theorem dL_law_916 : decode cL_law 916 = .ok (.iconst 1, 1) := dc_4 (lw_14 (j := 20) rfl (by decide +kernel))
theorem dL_law_917 : decode cL_law 917 = .ok (.iadd, 1) := dc_96 (lw_14 (j := 21) rfl (by decide +kernel))
theorem dL_law_918 : decode cL_law 918 = .ok (.iaload, 1) := dc_46 (lw_14 (j := 22) rfl (by decide +kernel))
theorem dL_law_919 : decode cL_law 919 = .ok (.invokevirtual 81, 3) := dc_182 (a := 0) (b := 81) (lw_14 (j := 23) rfl (by decide +kernel))
theorem dL_law_922 : decode cL_law 922 = .ok (.pop, 1) := dc_87 (lw_14 (j := 26) rfl (by decide +kernel))
theorem dL_law_923 : decode cL_law 923 = .ok (.aload_n 2, 1) := dc_44 (lw_14 (j := 27) rfl (by decide +kernel))
theorem dL_law_924 : decode cL_law 924 = .ok (.aload_n 0, 1) := dc_42 (lw_14 (j := 28) rfl (by decide +kernel))
theorem dL_law_925 : decode cL_law 925 = .ok (.iload_n 3, 1) := dc_29 (lw_14 (j := 29) rfl (by decide +kernel))
theorem dL_law_926 : decode cL_law 926 = .ok (.iconst 1, 1) := dc_4 (lw_14 (j := 30) rfl (by decide +kernel))
theorem dL_law_927 : decode cL_law 927 = .ok (.iadd, 1) := dc_96 (lw_14 (j := 31) rfl (by decide +kernel))
theorem dL_law_928 : decode cL_law 928 = .ok (.iaload, 1) := dc_46 (lw_14 (j := 32) rfl (by decide +kernel))
theorem dL_law_929 : decode cL_law 929 = .ok (.invokevirtual 84, 3) := dc_182 (a := 0) (b := 84) (lw_14 (j := 33) rfl (by decide +kernel))
theorem dL_law_932 : decode cL_law 932 = .ok (.pop, 1) := dc_87 (lw_14 (j := 36) rfl (by decide +kernel))
theorem dL_law_933 : decode cL_law 933 = .ok (.goto 1030, 3) := dc_167 (a := 4) (b := 6) (lw_14 (j := 37) rfl (by decide +kernel)) (by decide)
theorem dL_law_936 : decode cL_law 936 = .ok (.aload_n 1, 1) := dc_43 (lw_14 (j := 40) rfl (by decide +kernel))
theorem dL_law_937 : decode cL_law 937 = .ok (.aload_n 0, 1) := dc_42 (lw_14 (j := 41) rfl (by decide +kernel))
theorem dL_law_938 : decode cL_law 938 = .ok (.iload_n 3, 1) := dc_29 (lw_14 (j := 42) rfl (by decide +kernel))
theorem dL_law_939 : decode cL_law 939 = .ok (.iconst 1, 1) := dc_4 (lw_14 (j := 43) rfl (by decide +kernel))
theorem dL_law_940 : decode cL_law 940 = .ok (.iadd, 1) := dc_96 (lw_14 (j := 44) rfl (by decide +kernel))
theorem dL_law_941 : decode cL_law 941 = .ok (.iaload, 1) := dc_46 (lw_14 (j := 45) rfl (by decide +kernel))
theorem dL_law_942 : decode cL_law 942 = .ok (.aload_n 0, 1) := dc_42 (lw_14 (j := 46) rfl (by decide +kernel))
theorem dL_law_943 : decode cL_law 943 = .ok (.iload_n 3, 1) := dc_29 (lw_14 (j := 47) rfl (by decide +kernel))
theorem dL_law_944 : decode cL_law 944 = .ok (.iconst 2, 1) := dc_5 (lw_14 (j := 48) rfl (by decide +kernel))
theorem dL_law_945 : decode cL_law 945 = .ok (.iadd, 1) := dc_96 (lw_14 (j := 49) rfl (by decide +kernel))
theorem dL_law_946 : decode cL_law 946 = .ok (.iaload, 1) := dc_46 (lw_14 (j := 50) rfl (by decide +kernel))
theorem dL_law_947 : decode cL_law 947 = .ok (.invokevirtual 85, 3) := dc_182 (a := 0) (b := 85) (lw_14 (j := 51) rfl (by decide +kernel))
theorem dL_law_950 : decode cL_law 950 = .ok (.pop, 1) := dc_87 (lw_14 (j := 54) rfl (by decide +kernel))
theorem dL_law_951 : decode cL_law 951 = .ok (.aload_n 2, 1) := dc_44 (lw_14 (j := 55) rfl (by decide +kernel))
theorem dL_law_952 : decode cL_law 952 = .ok (.aload_n 0, 1) := dc_42 (lw_14 (j := 56) rfl (by decide +kernel))
theorem dL_law_953 : decode cL_law 953 = .ok (.iload_n 3, 1) := dc_29 (lw_14 (j := 57) rfl (by decide +kernel))
theorem dL_law_954 : decode cL_law 954 = .ok (.iconst 1, 1) := dc_4 (lw_14 (j := 58) rfl (by decide +kernel))
theorem dL_law_955 : decode cL_law 955 = .ok (.iadd, 1) := dc_96 (lw_14 (j := 59) rfl (by decide +kernel))
theorem dL_law_956 : decode cL_law 956 = .ok (.iaload, 1) := dc_46 (lw_14 (j := 60) rfl (by decide +kernel))
theorem dL_law_957 : decode cL_law 957 = .ok (.aload_n 0, 1) := dc_42 (lw_14 (j := 61) rfl (by decide +kernel))
theorem dL_law_958 : decode cL_law 958 = .ok (.iload_n 3, 1) := dc_29 (lw_14 (j := 62) rfl (by decide +kernel))
theorem dL_law_959 : decode cL_law 959 = .ok (.iconst 2, 1) := dc_5 (lw_14 (j := 63) rfl (by decide +kernel))
theorem dL_law_960 : decode cL_law 960 = .ok (.iadd, 1) := dc_96 (lw_15 (j := 0) rfl (by decide +kernel))
theorem dL_law_961 : decode cL_law 961 = .ok (.iaload, 1) := dc_46 (lw_15 (j := 1) rfl (by decide +kernel))
theorem dL_law_962 : decode cL_law 962 = .ok (.invokevirtual 88, 3) := dc_182 (a := 0) (b := 88) (lw_15 (j := 2) rfl (by decide +kernel))
theorem dL_law_965 : decode cL_law 965 = .ok (.pop, 1) := dc_87 (lw_15 (j := 5) rfl (by decide +kernel))
theorem dL_law_966 : decode cL_law 966 = .ok (.goto 997, 3) := dc_167 (a := 3) (b := 229) (lw_15 (j := 6) rfl (by decide +kernel)) (by decide)
theorem dL_law_969 : decode cL_law 969 = .ok (.aload_n 1, 1) := dc_43 (lw_15 (j := 9) rfl (by decide +kernel))
theorem dL_law_970 : decode cL_law 970 = .ok (.aload_n 0, 1) := dc_42 (lw_15 (j := 10) rfl (by decide +kernel))
theorem dL_law_971 : decode cL_law 971 = .ok (.iload_n 3, 1) := dc_29 (lw_15 (j := 11) rfl (by decide +kernel))
theorem dL_law_972 : decode cL_law 972 = .ok (.iconst 1, 1) := dc_4 (lw_15 (j := 12) rfl (by decide +kernel))
theorem dL_law_973 : decode cL_law 973 = .ok (.iadd, 1) := dc_96 (lw_15 (j := 13) rfl (by decide +kernel))
theorem dL_law_974 : decode cL_law 974 = .ok (.iaload, 1) := dc_46 (lw_15 (j := 14) rfl (by decide +kernel))
theorem dL_law_975 : decode cL_law 975 = .ok (.invokevirtual 89, 3) := dc_182 (a := 0) (b := 89) (lw_15 (j := 15) rfl (by decide +kernel))
theorem dL_law_978 : decode cL_law 978 = .ok (.pop, 1) := dc_87 (lw_15 (j := 18) rfl (by decide +kernel))
theorem dL_law_979 : decode cL_law 979 = .ok (.aload_n 2, 1) := dc_44 (lw_15 (j := 19) rfl (by decide +kernel))
theorem dL_law_980 : decode cL_law 980 = .ok (.aload_n 0, 1) := dc_42 (lw_15 (j := 20) rfl (by decide +kernel))
theorem dL_law_981 : decode cL_law 981 = .ok (.iload_n 3, 1) := dc_29 (lw_15 (j := 21) rfl (by decide +kernel))
theorem dL_law_982 : decode cL_law 982 = .ok (.iconst 1, 1) := dc_4 (lw_15 (j := 22) rfl (by decide +kernel))
theorem dL_law_983 : decode cL_law 983 = .ok (.iadd, 1) := dc_96 (lw_15 (j := 23) rfl (by decide +kernel))
theorem dL_law_984 : decode cL_law 984 = .ok (.iaload, 1) := dc_46 (lw_15 (j := 24) rfl (by decide +kernel))
theorem dL_law_985 : decode cL_law 985 = .ok (.invokevirtual 92, 3) := dc_182 (a := 0) (b := 92) (lw_15 (j := 25) rfl (by decide +kernel))
theorem dL_law_988 : decode cL_law 988 = .ok (.pop, 1) := dc_87 (lw_15 (j := 28) rfl (by decide +kernel))
theorem dL_law_989 : decode cL_law 989 = .ok (.goto 974, 3) := dc_167 (a := 3) (b := 206) (lw_15 (j := 29) rfl (by decide +kernel)) (by decide)
theorem dL_law_992 : decode cL_law 992 = .ok (.aload_n 1, 1) := dc_43 (lw_15 (j := 32) rfl (by decide +kernel))
theorem dL_law_993 : decode cL_law 993 = .ok (.aload_n 0, 1) := dc_42 (lw_15 (j := 33) rfl (by decide +kernel))
theorem dL_law_994 : decode cL_law 994 = .ok (.iload_n 3, 1) := dc_29 (lw_15 (j := 34) rfl (by decide +kernel))
theorem dL_law_995 : decode cL_law 995 = .ok (.iconst 1, 1) := dc_4 (lw_15 (j := 35) rfl (by decide +kernel))
theorem dL_law_996 : decode cL_law 996 = .ok (.iadd, 1) := dc_96 (lw_15 (j := 36) rfl (by decide +kernel))
theorem dL_law_997 : decode cL_law 997 = .ok (.iaload, 1) := dc_46 (lw_15 (j := 37) rfl (by decide +kernel))
theorem dL_law_998 : decode cL_law 998 = .ok (.invokevirtual 93, 3) := dc_182 (a := 0) (b := 93) (lw_15 (j := 38) rfl (by decide +kernel))
theorem dL_law_1001 : decode cL_law 1001 = .ok (.pop, 1) := dc_87 (lw_15 (j := 41) rfl (by decide +kernel))
theorem dL_law_1002 : decode cL_law 1002 = .ok (.aload_n 2, 1) := dc_44 (lw_15 (j := 42) rfl (by decide +kernel))
theorem dL_law_1003 : decode cL_law 1003 = .ok (.aload_n 0, 1) := dc_42 (lw_15 (j := 43) rfl (by decide +kernel))
theorem dL_law_1004 : decode cL_law 1004 = .ok (.iload_n 3, 1) := dc_29 (lw_15 (j := 44) rfl (by decide +kernel))
theorem dL_law_1005 : decode cL_law 1005 = .ok (.iconst 1, 1) := dc_4 (lw_15 (j := 45) rfl (by decide +kernel))
theorem dL_law_1006 : decode cL_law 1006 = .ok (.iadd, 1) := dc_96 (lw_15 (j := 46) rfl (by decide +kernel))
theorem dL_law_1007 : decode cL_law 1007 = .ok (.iaload, 1) := dc_46 (lw_15 (j := 47) rfl (by decide +kernel))
theorem dL_law_1008 : decode cL_law 1008 = .ok (.invokevirtual 96, 3) := dc_182 (a := 0) (b := 96) (lw_15 (j := 48) rfl (by decide +kernel))
theorem dL_law_1011 : decode cL_law 1011 = .ok (.pop, 1) := dc_87 (lw_15 (j := 51) rfl (by decide +kernel))
theorem dL_law_1012 : decode cL_law 1012 = .ok (.goto 951, 3) := dc_167 (a := 3) (b := 183) (lw_15 (j := 52) rfl (by decide +kernel)) (by decide)
theorem dL_law_1015 : decode cL_law 1015 = .ok (.aload_n 1, 1) := dc_43 (lw_15 (j := 55) rfl (by decide +kernel))
theorem dL_law_1016 : decode cL_law 1016 = .ok (.aload_n 0, 1) := dc_42 (lw_15 (j := 56) rfl (by decide +kernel))
theorem dL_law_1017 : decode cL_law 1017 = .ok (.iload_n 3, 1) := dc_29 (lw_15 (j := 57) rfl (by decide +kernel))
theorem dL_law_1018 : decode cL_law 1018 = .ok (.iconst 1, 1) := dc_4 (lw_15 (j := 58) rfl (by decide +kernel))
theorem dL_law_1019 : decode cL_law 1019 = .ok (.iadd, 1) := dc_96 (lw_15 (j := 59) rfl (by decide +kernel))
theorem dL_law_1020 : decode cL_law 1020 = .ok (.iaload, 1) := dc_46 (lw_15 (j := 60) rfl (by decide +kernel))
theorem dL_law_1021 : decode cL_law 1021 = .ok (.aload_n 0, 1) := dc_42 (lw_15 (j := 61) rfl (by decide +kernel))
theorem dL_law_1022 : decode cL_law 1022 = .ok (.iload_n 3, 1) := dc_29 (lw_15 (j := 62) rfl (by decide +kernel))
theorem dL_law_1023 : decode cL_law 1023 = .ok (.iconst 2, 1) := dc_5 (lw_15 (j := 63) rfl (by decide +kernel))
theorem dL_law_1024 : decode cL_law 1024 = .ok (.iadd, 1) := dc_96 (lw_16 (j := 0) rfl (by decide +kernel))
theorem dL_law_1025 : decode cL_law 1025 = .ok (.iaload, 1) := dc_46 (lw_16 (j := 1) rfl (by decide +kernel))
theorem dL_law_1026 : decode cL_law 1026 = .ok (.invokevirtual 97, 3) := dc_182 (a := 0) (b := 97) (lw_16 (j := 2) rfl (by decide +kernel))
theorem dL_law_1029 : decode cL_law 1029 = .ok (.pop, 1) := dc_87 (lw_16 (j := 5) rfl (by decide +kernel))
theorem dL_law_1030 : decode cL_law 1030 = .ok (.aload_n 2, 1) := dc_44 (lw_16 (j := 6) rfl (by decide +kernel))
theorem dL_law_1031 : decode cL_law 1031 = .ok (.aload_n 0, 1) := dc_42 (lw_16 (j := 7) rfl (by decide +kernel))
theorem dL_law_1032 : decode cL_law 1032 = .ok (.iload_n 3, 1) := dc_29 (lw_16 (j := 8) rfl (by decide +kernel))
theorem dL_law_1033 : decode cL_law 1033 = .ok (.iconst 1, 1) := dc_4 (lw_16 (j := 9) rfl (by decide +kernel))
theorem dL_law_1034 : decode cL_law 1034 = .ok (.iadd, 1) := dc_96 (lw_16 (j := 10) rfl (by decide +kernel))
theorem dL_law_1035 : decode cL_law 1035 = .ok (.iaload, 1) := dc_46 (lw_16 (j := 11) rfl (by decide +kernel))
theorem dL_law_1036 : decode cL_law 1036 = .ok (.aload_n 0, 1) := dc_42 (lw_16 (j := 12) rfl (by decide +kernel))
theorem dL_law_1037 : decode cL_law 1037 = .ok (.iload_n 3, 1) := dc_29 (lw_16 (j := 13) rfl (by decide +kernel))
theorem dL_law_1038 : decode cL_law 1038 = .ok (.iconst 2, 1) := dc_5 (lw_16 (j := 14) rfl (by decide +kernel))
theorem dL_law_1039 : decode cL_law 1039 = .ok (.iadd, 1) := dc_96 (lw_16 (j := 15) rfl (by decide +kernel))
theorem dL_law_1040 : decode cL_law 1040 = .ok (.iaload, 1) := dc_46 (lw_16 (j := 16) rfl (by decide +kernel))
theorem dL_law_1041 : decode cL_law 1041 = .ok (.invokevirtual 100, 3) := dc_182 (a := 0) (b := 100) (lw_16 (j := 17) rfl (by decide +kernel))
theorem dL_law_1044 : decode cL_law 1044 = .ok (.pop, 1) := dc_87 (lw_16 (j := 20) rfl (by decide +kernel))
theorem dL_law_1045 : decode cL_law 1045 = .ok (.goto 918, 3) := dc_167 (a := 3) (b := 150) (lw_16 (j := 21) rfl (by decide +kernel)) (by decide)
theorem dL_law_1048 : decode cL_law 1048 = .ok (.aload_n 1, 1) := dc_43 (lw_16 (j := 24) rfl (by decide +kernel))
theorem dL_law_1049 : decode cL_law 1049 = .ok (.aload_n 0, 1) := dc_42 (lw_16 (j := 25) rfl (by decide +kernel))
theorem dL_law_1050 : decode cL_law 1050 = .ok (.iload_n 3, 1) := dc_29 (lw_16 (j := 26) rfl (by decide +kernel))
theorem dL_law_1051 : decode cL_law 1051 = .ok (.iconst 1, 1) := dc_4 (lw_16 (j := 27) rfl (by decide +kernel))
theorem dL_law_1052 : decode cL_law 1052 = .ok (.iadd, 1) := dc_96 (lw_16 (j := 28) rfl (by decide +kernel))
theorem dL_law_1053 : decode cL_law 1053 = .ok (.iaload, 1) := dc_46 (lw_16 (j := 29) rfl (by decide +kernel))
theorem dL_law_1054 : decode cL_law 1054 = .ok (.aload_n 0, 1) := dc_42 (lw_16 (j := 30) rfl (by decide +kernel))
theorem dL_law_1055 : decode cL_law 1055 = .ok (.iload_n 3, 1) := dc_29 (lw_16 (j := 31) rfl (by decide +kernel))
theorem dL_law_1056 : decode cL_law 1056 = .ok (.iconst 2, 1) := dc_5 (lw_16 (j := 32) rfl (by decide +kernel))
theorem dL_law_1057 : decode cL_law 1057 = .ok (.iadd, 1) := dc_96 (lw_16 (j := 33) rfl (by decide +kernel))
theorem dL_law_1058 : decode cL_law 1058 = .ok (.iaload, 1) := dc_46 (lw_16 (j := 34) rfl (by decide +kernel))
theorem dL_law_1059 : decode cL_law 1059 = .ok (.invokevirtual 101, 3) := dc_182 (a := 0) (b := 101) (lw_16 (j := 35) rfl (by decide +kernel))
theorem dL_law_1062 : decode cL_law 1062 = .ok (.pop, 1) := dc_87 (lw_16 (j := 38) rfl (by decide +kernel))
theorem dL_law_1063 : decode cL_law 1063 = .ok (.aload_n 2, 1) := dc_44 (lw_16 (j := 39) rfl (by decide +kernel))
theorem dL_law_1064 : decode cL_law 1064 = .ok (.aload_n 0, 1) := dc_42 (lw_16 (j := 40) rfl (by decide +kernel))
theorem dL_law_1065 : decode cL_law 1065 = .ok (.iload_n 3, 1) := dc_29 (lw_16 (j := 41) rfl (by decide +kernel))
theorem dL_law_1066 : decode cL_law 1066 = .ok (.iconst 1, 1) := dc_4 (lw_16 (j := 42) rfl (by decide +kernel))
theorem dL_law_1067 : decode cL_law 1067 = .ok (.iadd, 1) := dc_96 (lw_16 (j := 43) rfl (by decide +kernel))
theorem dL_law_1068 : decode cL_law 1068 = .ok (.iaload, 1) := dc_46 (lw_16 (j := 44) rfl (by decide +kernel))
theorem dL_law_1069 : decode cL_law 1069 = .ok (.aload_n 0, 1) := dc_42 (lw_16 (j := 45) rfl (by decide +kernel))
theorem dL_law_1070 : decode cL_law 1070 = .ok (.iload_n 3, 1) := dc_29 (lw_16 (j := 46) rfl (by decide +kernel))
theorem dL_law_1071 : decode cL_law 1071 = .ok (.iconst 2, 1) := dc_5 (lw_16 (j := 47) rfl (by decide +kernel))
theorem dL_law_1072 : decode cL_law 1072 = .ok (.iadd, 1) := dc_96 (lw_16 (j := 48) rfl (by decide +kernel))
theorem dL_law_1073 : decode cL_law 1073 = .ok (.iaload, 1) := dc_46 (lw_16 (j := 49) rfl (by decide +kernel))
theorem dL_law_1074 : decode cL_law 1074 = .ok (.invokevirtual 104, 3) := dc_182 (a := 0) (b := 104) (lw_16 (j := 50) rfl (by decide +kernel))
theorem dL_law_1077 : decode cL_law 1077 = .ok (.pop, 1) := dc_87 (lw_16 (j := 53) rfl (by decide +kernel))
theorem dL_law_1078 : decode cL_law 1078 = .ok (.goto 885, 3) := dc_167 (a := 3) (b := 117) (lw_16 (j := 54) rfl (by decide +kernel)) (by decide)
theorem dL_law_1081 : decode cL_law 1081 = .ok (.aload_n 1, 1) := dc_43 (lw_16 (j := 57) rfl (by decide +kernel))
theorem dL_law_1082 : decode cL_law 1082 = .ok (.aload_n 0, 1) := dc_42 (lw_16 (j := 58) rfl (by decide +kernel))
theorem dL_law_1083 : decode cL_law 1083 = .ok (.iload_n 3, 1) := dc_29 (lw_16 (j := 59) rfl (by decide +kernel))
theorem dL_law_1084 : decode cL_law 1084 = .ok (.iconst 1, 1) := dc_4 (lw_16 (j := 60) rfl (by decide +kernel))
theorem dL_law_1085 : decode cL_law 1085 = .ok (.iadd, 1) := dc_96 (lw_16 (j := 61) rfl (by decide +kernel))
theorem dL_law_1086 : decode cL_law 1086 = .ok (.iaload, 1) := dc_46 (lw_16 (j := 62) rfl (by decide +kernel))
theorem dL_law_1087 : decode cL_law 1087 = .ok (.aload_n 0, 1) := dc_42 (lw_16 (j := 63) rfl (by decide +kernel))
theorem dL_law_1088 : decode cL_law 1088 = .ok (.iload_n 3, 1) := dc_29 (lw_17 (j := 0) rfl (by decide +kernel))
theorem dL_law_1089 : decode cL_law 1089 = .ok (.iconst 2, 1) := dc_5 (lw_17 (j := 1) rfl (by decide +kernel))
theorem dL_law_1090 : decode cL_law 1090 = .ok (.iadd, 1) := dc_96 (lw_17 (j := 2) rfl (by decide +kernel))
theorem dL_law_1091 : decode cL_law 1091 = .ok (.iaload, 1) := dc_46 (lw_17 (j := 3) rfl (by decide +kernel))
theorem dL_law_1092 : decode cL_law 1092 = .ok (.aload_n 0, 1) := dc_42 (lw_17 (j := 4) rfl (by decide +kernel))
theorem dL_law_1093 : decode cL_law 1093 = .ok (.iload_n 3, 1) := dc_29 (lw_17 (j := 5) rfl (by decide +kernel))
theorem dL_law_1094 : decode cL_law 1094 = .ok (.iconst 3, 1) := dc_6 (lw_17 (j := 6) rfl (by decide +kernel))
theorem dL_law_1095 : decode cL_law 1095 = .ok (.iadd, 1) := dc_96 (lw_17 (j := 7) rfl (by decide +kernel))
theorem dL_law_1096 : decode cL_law 1096 = .ok (.iaload, 1) := dc_46 (lw_17 (j := 8) rfl (by decide +kernel))
theorem dL_law_1097 : decode cL_law 1097 = .ok (.invokevirtual 105, 3) := dc_182 (a := 0) (b := 105) (lw_17 (j := 9) rfl (by decide +kernel))
theorem dL_law_1100 : decode cL_law 1100 = .ok (.pop, 1) := dc_87 (lw_17 (j := 12) rfl (by decide +kernel))
theorem dL_law_1101 : decode cL_law 1101 = .ok (.aload_n 2, 1) := dc_44 (lw_17 (j := 13) rfl (by decide +kernel))
theorem dL_law_1102 : decode cL_law 1102 = .ok (.aload_n 0, 1) := dc_42 (lw_17 (j := 14) rfl (by decide +kernel))
theorem dL_law_1103 : decode cL_law 1103 = .ok (.iload_n 3, 1) := dc_29 (lw_17 (j := 15) rfl (by decide +kernel))
theorem dL_law_1104 : decode cL_law 1104 = .ok (.iconst 1, 1) := dc_4 (lw_17 (j := 16) rfl (by decide +kernel))
theorem dL_law_1105 : decode cL_law 1105 = .ok (.iadd, 1) := dc_96 (lw_17 (j := 17) rfl (by decide +kernel))
theorem dL_law_1106 : decode cL_law 1106 = .ok (.iaload, 1) := dc_46 (lw_17 (j := 18) rfl (by decide +kernel))
theorem dL_law_1107 : decode cL_law 1107 = .ok (.aload_n 0, 1) := dc_42 (lw_17 (j := 19) rfl (by decide +kernel))
theorem dL_law_1108 : decode cL_law 1108 = .ok (.iload_n 3, 1) := dc_29 (lw_17 (j := 20) rfl (by decide +kernel))
theorem dL_law_1109 : decode cL_law 1109 = .ok (.iconst 2, 1) := dc_5 (lw_17 (j := 21) rfl (by decide +kernel))
theorem dL_law_1110 : decode cL_law 1110 = .ok (.iadd, 1) := dc_96 (lw_17 (j := 22) rfl (by decide +kernel))
theorem dL_law_1111 : decode cL_law 1111 = .ok (.iaload, 1) := dc_46 (lw_17 (j := 23) rfl (by decide +kernel))
theorem dL_law_1112 : decode cL_law 1112 = .ok (.aload_n 0, 1) := dc_42 (lw_17 (j := 24) rfl (by decide +kernel))
theorem dL_law_1113 : decode cL_law 1113 = .ok (.iload_n 3, 1) := dc_29 (lw_17 (j := 25) rfl (by decide +kernel))
theorem dL_law_1114 : decode cL_law 1114 = .ok (.iconst 3, 1) := dc_6 (lw_17 (j := 26) rfl (by decide +kernel))
theorem dL_law_1115 : decode cL_law 1115 = .ok (.iadd, 1) := dc_96 (lw_17 (j := 27) rfl (by decide +kernel))
theorem dL_law_1116 : decode cL_law 1116 = .ok (.iaload, 1) := dc_46 (lw_17 (j := 28) rfl (by decide +kernel))
theorem dL_law_1117 : decode cL_law 1117 = .ok (.invokevirtual 108, 3) := dc_182 (a := 0) (b := 108) (lw_17 (j := 29) rfl (by decide +kernel))
theorem dL_law_1120 : decode cL_law 1120 = .ok (.pop, 1) := dc_87 (lw_17 (j := 32) rfl (by decide +kernel))
theorem dL_law_1121 : decode cL_law 1121 = .ok (.goto 842, 3) := dc_167 (a := 3) (b := 74) (lw_17 (j := 33) rfl (by decide +kernel)) (by decide)
theorem dL_law_1124 : decode cL_law 1124 = .ok (.aload_n 1, 1) := dc_43 (lw_17 (j := 36) rfl (by decide +kernel))
theorem dL_law_1125 : decode cL_law 1125 = .ok (.aload_n 0, 1) := dc_42 (lw_17 (j := 37) rfl (by decide +kernel))
theorem dL_law_1126 : decode cL_law 1126 = .ok (.iload_n 3, 1) := dc_29 (lw_17 (j := 38) rfl (by decide +kernel))
theorem dL_law_1127 : decode cL_law 1127 = .ok (.iconst 1, 1) := dc_4 (lw_17 (j := 39) rfl (by decide +kernel))
theorem dL_law_1128 : decode cL_law 1128 = .ok (.iadd, 1) := dc_96 (lw_17 (j := 40) rfl (by decide +kernel))
theorem dL_law_1129 : decode cL_law 1129 = .ok (.iaload, 1) := dc_46 (lw_17 (j := 41) rfl (by decide +kernel))
theorem dL_law_1130 : decode cL_law 1130 = .ok (.aload_n 0, 1) := dc_42 (lw_17 (j := 42) rfl (by decide +kernel))
theorem dL_law_1131 : decode cL_law 1131 = .ok (.iload_n 3, 1) := dc_29 (lw_17 (j := 43) rfl (by decide +kernel))
theorem dL_law_1132 : decode cL_law 1132 = .ok (.iconst 2, 1) := dc_5 (lw_17 (j := 44) rfl (by decide +kernel))
theorem dL_law_1133 : decode cL_law 1133 = .ok (.iadd, 1) := dc_96 (lw_17 (j := 45) rfl (by decide +kernel))
theorem dL_law_1134 : decode cL_law 1134 = .ok (.iaload, 1) := dc_46 (lw_17 (j := 46) rfl (by decide +kernel))
theorem dL_law_1135 : decode cL_law 1135 = .ok (.invokevirtual 109, 3) := dc_182 (a := 0) (b := 109) (lw_17 (j := 47) rfl (by decide +kernel))
theorem dL_law_1138 : decode cL_law 1138 = .ok (.pop, 1) := dc_87 (lw_17 (j := 50) rfl (by decide +kernel))
theorem dL_law_1139 : decode cL_law 1139 = .ok (.aload_n 2, 1) := dc_44 (lw_17 (j := 51) rfl (by decide +kernel))
theorem dL_law_1140 : decode cL_law 1140 = .ok (.aload_n 0, 1) := dc_42 (lw_17 (j := 52) rfl (by decide +kernel))
theorem dL_law_1141 : decode cL_law 1141 = .ok (.iload_n 3, 1) := dc_29 (lw_17 (j := 53) rfl (by decide +kernel))
theorem dL_law_1142 : decode cL_law 1142 = .ok (.iconst 1, 1) := dc_4 (lw_17 (j := 54) rfl (by decide +kernel))
theorem dL_law_1143 : decode cL_law 1143 = .ok (.iadd, 1) := dc_96 (lw_17 (j := 55) rfl (by decide +kernel))
theorem dL_law_1144 : decode cL_law 1144 = .ok (.iaload, 1) := dc_46 (lw_17 (j := 56) rfl (by decide +kernel))
theorem dL_law_1145 : decode cL_law 1145 = .ok (.aload_n 0, 1) := dc_42 (lw_17 (j := 57) rfl (by decide +kernel))
theorem dL_law_1146 : decode cL_law 1146 = .ok (.iload_n 3, 1) := dc_29 (lw_17 (j := 58) rfl (by decide +kernel))
theorem dL_law_1147 : decode cL_law 1147 = .ok (.iconst 2, 1) := dc_5 (lw_17 (j := 59) rfl (by decide +kernel))
theorem dL_law_1148 : decode cL_law 1148 = .ok (.iadd, 1) := dc_96 (lw_17 (j := 60) rfl (by decide +kernel))
theorem dL_law_1149 : decode cL_law 1149 = .ok (.iaload, 1) := dc_46 (lw_17 (j := 61) rfl (by decide +kernel))
theorem dL_law_1150 : decode cL_law 1150 = .ok (.invokevirtual 112, 3) := dc_182 (a := 0) (b := 112) (lw_17 (j := 62) rfl (by decide +kernel))
theorem dL_law_1153 : decode cL_law 1153 = .ok (.pop, 1) := dc_87 (lw_18 (j := 1) rfl (by decide +kernel))
theorem dL_law_1154 : decode cL_law 1154 = .ok (.goto 809, 3) := dc_167 (a := 3) (b := 41) (lw_18 (j := 2) rfl (by decide +kernel)) (by decide)
theorem dL_law_1157 : decode cL_law 1157 = .ok (.aload_n 1, 1) := dc_43 (lw_18 (j := 5) rfl (by decide +kernel))
theorem dL_law_1158 : decode cL_law 1158 = .ok (.aload_n 0, 1) := dc_42 (lw_18 (j := 6) rfl (by decide +kernel))
theorem dL_law_1159 : decode cL_law 1159 = .ok (.iload_n 3, 1) := dc_29 (lw_18 (j := 7) rfl (by decide +kernel))
theorem dL_law_1160 : decode cL_law 1160 = .ok (.iconst 1, 1) := dc_4 (lw_18 (j := 8) rfl (by decide +kernel))
theorem dL_law_1161 : decode cL_law 1161 = .ok (.iadd, 1) := dc_96 (lw_18 (j := 9) rfl (by decide +kernel))
theorem dL_law_1162 : decode cL_law 1162 = .ok (.iaload, 1) := dc_46 (lw_18 (j := 10) rfl (by decide +kernel))
theorem dL_law_1163 : decode cL_law 1163 = .ok (.invokevirtual 113, 3) := dc_182 (a := 0) (b := 113) (lw_18 (j := 11) rfl (by decide +kernel))
theorem dL_law_1166 : decode cL_law 1166 = .ok (.pop, 1) := dc_87 (lw_18 (j := 14) rfl (by decide +kernel))
theorem dL_law_1167 : decode cL_law 1167 = .ok (.aload_n 2, 1) := dc_44 (lw_18 (j := 15) rfl (by decide +kernel))
theorem dL_law_1168 : decode cL_law 1168 = .ok (.aload_n 0, 1) := dc_42 (lw_18 (j := 16) rfl (by decide +kernel))
theorem dL_law_1169 : decode cL_law 1169 = .ok (.iload_n 3, 1) := dc_29 (lw_18 (j := 17) rfl (by decide +kernel))
theorem dL_law_1170 : decode cL_law 1170 = .ok (.iconst 1, 1) := dc_4 (lw_18 (j := 18) rfl (by decide +kernel))
theorem dL_law_1171 : decode cL_law 1171 = .ok (.iadd, 1) := dc_96 (lw_18 (j := 19) rfl (by decide +kernel))
theorem dL_law_1172 : decode cL_law 1172 = .ok (.iaload, 1) := dc_46 (lw_18 (j := 20) rfl (by decide +kernel))
theorem dL_law_1173 : decode cL_law 1173 = .ok (.invokevirtual 116, 3) := dc_182 (a := 0) (b := 116) (lw_18 (j := 21) rfl (by decide +kernel))
theorem dL_law_1176 : decode cL_law 1176 = .ok (.pop, 1) := dc_87 (lw_18 (j := 24) rfl (by decide +kernel))
theorem dL_law_1177 : decode cL_law 1177 = .ok (.goto 786, 3) := dc_167 (a := 3) (b := 18) (lw_18 (j := 25) rfl (by decide +kernel)) (by decide)
theorem dL_law_1180 : decode cL_law 1180 = .ok (.aload_n 1, 1) := dc_43 (lw_18 (j := 28) rfl (by decide +kernel))
theorem dL_law_1181 : decode cL_law 1181 = .ok (.aload_n 0, 1) := dc_42 (lw_18 (j := 29) rfl (by decide +kernel))
theorem dL_law_1182 : decode cL_law 1182 = .ok (.iload_n 3, 1) := dc_29 (lw_18 (j := 30) rfl (by decide +kernel))
theorem dL_law_1183 : decode cL_law 1183 = .ok (.iconst 1, 1) := dc_4 (lw_18 (j := 31) rfl (by decide +kernel))
theorem dL_law_1184 : decode cL_law 1184 = .ok (.iadd, 1) := dc_96 (lw_18 (j := 32) rfl (by decide +kernel))
theorem dL_law_1185 : decode cL_law 1185 = .ok (.iaload, 1) := dc_46 (lw_18 (j := 33) rfl (by decide +kernel))
theorem dL_law_1186 : decode cL_law 1186 = .ok (.invokevirtual 117, 3) := dc_182 (a := 0) (b := 117) (lw_18 (j := 34) rfl (by decide +kernel))
theorem dL_law_1189 : decode cL_law 1189 = .ok (.pop, 1) := dc_87 (lw_18 (j := 37) rfl (by decide +kernel))
theorem dL_law_1190 : decode cL_law 1190 = .ok (.aload_n 2, 1) := dc_44 (lw_18 (j := 38) rfl (by decide +kernel))
theorem dL_law_1191 : decode cL_law 1191 = .ok (.aload_n 0, 1) := dc_42 (lw_18 (j := 39) rfl (by decide +kernel))
theorem dL_law_1192 : decode cL_law 1192 = .ok (.iload_n 3, 1) := dc_29 (lw_18 (j := 40) rfl (by decide +kernel))
theorem dL_law_1193 : decode cL_law 1193 = .ok (.iconst 1, 1) := dc_4 (lw_18 (j := 41) rfl (by decide +kernel))
theorem dL_law_1194 : decode cL_law 1194 = .ok (.iadd, 1) := dc_96 (lw_18 (j := 42) rfl (by decide +kernel))
theorem dL_law_1195 : decode cL_law 1195 = .ok (.iaload, 1) := dc_46 (lw_18 (j := 43) rfl (by decide +kernel))
theorem dL_law_1196 : decode cL_law 1196 = .ok (.invokevirtual 120, 3) := dc_182 (a := 0) (b := 120) (lw_18 (j := 44) rfl (by decide +kernel))
theorem dL_law_1199 : decode cL_law 1199 = .ok (.pop, 1) := dc_87 (lw_18 (j := 47) rfl (by decide +kernel))
theorem dL_law_1200 : decode cL_law 1200 = .ok (.goto 763, 3) := dc_167 (a := 2) (b := 251) (lw_18 (j := 48) rfl (by decide +kernel)) (by decide)
theorem dL_law_1203 : decode cL_law 1203 = .ok (.aload_n 1, 1) := dc_43 (lw_18 (j := 51) rfl (by decide +kernel))
theorem dL_law_1204 : decode cL_law 1204 = .ok (.aload_n 0, 1) := dc_42 (lw_18 (j := 52) rfl (by decide +kernel))
theorem dL_law_1205 : decode cL_law 1205 = .ok (.iload_n 3, 1) := dc_29 (lw_18 (j := 53) rfl (by decide +kernel))
theorem dL_law_1206 : decode cL_law 1206 = .ok (.iconst 1, 1) := dc_4 (lw_18 (j := 54) rfl (by decide +kernel))
theorem dL_law_1207 : decode cL_law 1207 = .ok (.iadd, 1) := dc_96 (lw_18 (j := 55) rfl (by decide +kernel))
theorem dL_law_1208 : decode cL_law 1208 = .ok (.iaload, 1) := dc_46 (lw_18 (j := 56) rfl (by decide +kernel))
theorem dL_law_1209 : decode cL_law 1209 = .ok (.invokevirtual 121, 3) := dc_182 (a := 0) (b := 121) (lw_18 (j := 57) rfl (by decide +kernel))
theorem dL_law_1212 : decode cL_law 1212 = .ok (.pop, 1) := dc_87 (lw_18 (j := 60) rfl (by decide +kernel))
theorem dL_law_1213 : decode cL_law 1213 = .ok (.aload_n 2, 1) := dc_44 (lw_18 (j := 61) rfl (by decide +kernel))
theorem dL_law_1214 : decode cL_law 1214 = .ok (.aload_n 0, 1) := dc_42 (lw_18 (j := 62) rfl (by decide +kernel))
theorem dL_law_1215 : decode cL_law 1215 = .ok (.iload_n 3, 1) := dc_29 (lw_18 (j := 63) rfl (by decide +kernel))
theorem dL_law_1216 : decode cL_law 1216 = .ok (.iconst 1, 1) := dc_4 (lw_19 (j := 0) rfl (by decide +kernel))
theorem dL_law_1217 : decode cL_law 1217 = .ok (.iadd, 1) := dc_96 (lw_19 (j := 1) rfl (by decide +kernel))
theorem dL_law_1218 : decode cL_law 1218 = .ok (.iaload, 1) := dc_46 (lw_19 (j := 2) rfl (by decide +kernel))
theorem dL_law_1219 : decode cL_law 1219 = .ok (.invokevirtual 124, 3) := dc_182 (a := 0) (b := 124) (lw_19 (j := 3) rfl (by decide +kernel))
theorem dL_law_1222 : decode cL_law 1222 = .ok (.pop, 1) := dc_87 (lw_19 (j := 6) rfl (by decide +kernel))
theorem dL_law_1223 : decode cL_law 1223 = .ok (.goto 740, 3) := dc_167 (a := 2) (b := 228) (lw_19 (j := 7) rfl (by decide +kernel)) (by decide)
theorem dL_law_1226 : decode cL_law 1226 = .ok (.aload_n 1, 1) := dc_43 (lw_19 (j := 10) rfl (by decide +kernel))
theorem dL_law_1227 : decode cL_law 1227 = .ok (.aload_n 0, 1) := dc_42 (lw_19 (j := 11) rfl (by decide +kernel))
theorem dL_law_1228 : decode cL_law 1228 = .ok (.iload_n 3, 1) := dc_29 (lw_19 (j := 12) rfl (by decide +kernel))
theorem dL_law_1229 : decode cL_law 1229 = .ok (.iconst 1, 1) := dc_4 (lw_19 (j := 13) rfl (by decide +kernel))
theorem dL_law_1230 : decode cL_law 1230 = .ok (.iadd, 1) := dc_96 (lw_19 (j := 14) rfl (by decide +kernel))
theorem dL_law_1231 : decode cL_law 1231 = .ok (.iaload, 1) := dc_46 (lw_19 (j := 15) rfl (by decide +kernel))
theorem dL_law_1232 : decode cL_law 1232 = .ok (.aload_n 0, 1) := dc_42 (lw_19 (j := 16) rfl (by decide +kernel))
theorem dL_law_1233 : decode cL_law 1233 = .ok (.iload_n 3, 1) := dc_29 (lw_19 (j := 17) rfl (by decide +kernel))
theorem dL_law_1234 : decode cL_law 1234 = .ok (.iconst 2, 1) := dc_5 (lw_19 (j := 18) rfl (by decide +kernel))
theorem dL_law_1235 : decode cL_law 1235 = .ok (.iadd, 1) := dc_96 (lw_19 (j := 19) rfl (by decide +kernel))
theorem dL_law_1236 : decode cL_law 1236 = .ok (.iaload, 1) := dc_46 (lw_19 (j := 20) rfl (by decide +kernel))
theorem dL_law_1237 : decode cL_law 1237 = .ok (.aload_n 0, 1) := dc_42 (lw_19 (j := 21) rfl (by decide +kernel))
theorem dL_law_1238 : decode cL_law 1238 = .ok (.iload_n 3, 1) := dc_29 (lw_19 (j := 22) rfl (by decide +kernel))
theorem dL_law_1239 : decode cL_law 1239 = .ok (.iconst 3, 1) := dc_6 (lw_19 (j := 23) rfl (by decide +kernel))
theorem dL_law_1240 : decode cL_law 1240 = .ok (.iadd, 1) := dc_96 (lw_19 (j := 24) rfl (by decide +kernel))
theorem dL_law_1241 : decode cL_law 1241 = .ok (.iaload, 1) := dc_46 (lw_19 (j := 25) rfl (by decide +kernel))
theorem dL_law_1242 : decode cL_law 1242 = .ok (.invokevirtual 125, 3) := dc_182 (a := 0) (b := 125) (lw_19 (j := 26) rfl (by decide +kernel))
theorem dL_law_1245 : decode cL_law 1245 = .ok (.pop, 1) := dc_87 (lw_19 (j := 29) rfl (by decide +kernel))
theorem dL_law_1246 : decode cL_law 1246 = .ok (.aload_n 2, 1) := dc_44 (lw_19 (j := 30) rfl (by decide +kernel))
theorem dL_law_1247 : decode cL_law 1247 = .ok (.aload_n 0, 1) := dc_42 (lw_19 (j := 31) rfl (by decide +kernel))
theorem dL_law_1248 : decode cL_law 1248 = .ok (.iload_n 3, 1) := dc_29 (lw_19 (j := 32) rfl (by decide +kernel))
theorem dL_law_1249 : decode cL_law 1249 = .ok (.iconst 1, 1) := dc_4 (lw_19 (j := 33) rfl (by decide +kernel))
theorem dL_law_1250 : decode cL_law 1250 = .ok (.iadd, 1) := dc_96 (lw_19 (j := 34) rfl (by decide +kernel))
theorem dL_law_1251 : decode cL_law 1251 = .ok (.iaload, 1) := dc_46 (lw_19 (j := 35) rfl (by decide +kernel))
theorem dL_law_1252 : decode cL_law 1252 = .ok (.aload_n 0, 1) := dc_42 (lw_19 (j := 36) rfl (by decide +kernel))
theorem dL_law_1253 : decode cL_law 1253 = .ok (.iload_n 3, 1) := dc_29 (lw_19 (j := 37) rfl (by decide +kernel))
theorem dL_law_1254 : decode cL_law 1254 = .ok (.iconst 2, 1) := dc_5 (lw_19 (j := 38) rfl (by decide +kernel))
theorem dL_law_1255 : decode cL_law 1255 = .ok (.iadd, 1) := dc_96 (lw_19 (j := 39) rfl (by decide +kernel))
theorem dL_law_1256 : decode cL_law 1256 = .ok (.iaload, 1) := dc_46 (lw_19 (j := 40) rfl (by decide +kernel))
theorem dL_law_1257 : decode cL_law 1257 = .ok (.aload_n 0, 1) := dc_42 (lw_19 (j := 41) rfl (by decide +kernel))
theorem dL_law_1258 : decode cL_law 1258 = .ok (.iload_n 3, 1) := dc_29 (lw_19 (j := 42) rfl (by decide +kernel))
theorem dL_law_1259 : decode cL_law 1259 = .ok (.iconst 3, 1) := dc_6 (lw_19 (j := 43) rfl (by decide +kernel))
theorem dL_law_1260 : decode cL_law 1260 = .ok (.iadd, 1) := dc_96 (lw_19 (j := 44) rfl (by decide +kernel))
theorem dL_law_1261 : decode cL_law 1261 = .ok (.iaload, 1) := dc_46 (lw_19 (j := 45) rfl (by decide +kernel))
theorem dL_law_1262 : decode cL_law 1262 = .ok (.invokevirtual 128, 3) := dc_182 (a := 0) (b := 128) (lw_19 (j := 46) rfl (by decide +kernel))
theorem dL_law_1265 : decode cL_law 1265 = .ok (.pop, 1) := dc_87 (lw_19 (j := 49) rfl (by decide +kernel))
theorem dL_law_1266 : decode cL_law 1266 = .ok (.goto 697, 3) := dc_167 (a := 2) (b := 185) (lw_19 (j := 50) rfl (by decide +kernel)) (by decide)
theorem dL_law_1269 : decode cL_law 1269 = .ok (.aload_n 1, 1) := dc_43 (lw_19 (j := 53) rfl (by decide +kernel))
theorem dL_law_1270 : decode cL_law 1270 = .ok (.aload_n 0, 1) := dc_42 (lw_19 (j := 54) rfl (by decide +kernel))
theorem dL_law_1271 : decode cL_law 1271 = .ok (.iload_n 3, 1) := dc_29 (lw_19 (j := 55) rfl (by decide +kernel))
theorem dL_law_1272 : decode cL_law 1272 = .ok (.iconst 1, 1) := dc_4 (lw_19 (j := 56) rfl (by decide +kernel))
theorem dL_law_1273 : decode cL_law 1273 = .ok (.iadd, 1) := dc_96 (lw_19 (j := 57) rfl (by decide +kernel))
theorem dL_law_1274 : decode cL_law 1274 = .ok (.iaload, 1) := dc_46 (lw_19 (j := 58) rfl (by decide +kernel))
theorem dL_law_1275 : decode cL_law 1275 = .ok (.aload_n 0, 1) := dc_42 (lw_19 (j := 59) rfl (by decide +kernel))
theorem dL_law_1276 : decode cL_law 1276 = .ok (.iload_n 3, 1) := dc_29 (lw_19 (j := 60) rfl (by decide +kernel))
theorem dL_law_1277 : decode cL_law 1277 = .ok (.iconst 2, 1) := dc_5 (lw_19 (j := 61) rfl (by decide +kernel))
theorem dL_law_1278 : decode cL_law 1278 = .ok (.iadd, 1) := dc_96 (lw_19 (j := 62) rfl (by decide +kernel))
theorem dL_law_1279 : decode cL_law 1279 = .ok (.iaload, 1) := dc_46 (lw_19 (j := 63) rfl (by decide +kernel))
theorem dL_law_1280 : decode cL_law 1280 = .ok (.invokevirtual 129, 3) := dc_182 (a := 0) (b := 129) (lw_20 (j := 0) rfl (by decide +kernel))
theorem dL_law_1283 : decode cL_law 1283 = .ok (.pop, 1) := dc_87 (lw_20 (j := 3) rfl (by decide +kernel))
theorem dL_law_1284 : decode cL_law 1284 = .ok (.aload_n 2, 1) := dc_44 (lw_20 (j := 4) rfl (by decide +kernel))
theorem dL_law_1285 : decode cL_law 1285 = .ok (.aload_n 0, 1) := dc_42 (lw_20 (j := 5) rfl (by decide +kernel))
theorem dL_law_1286 : decode cL_law 1286 = .ok (.iload_n 3, 1) := dc_29 (lw_20 (j := 6) rfl (by decide +kernel))
theorem dL_law_1287 : decode cL_law 1287 = .ok (.iconst 1, 1) := dc_4 (lw_20 (j := 7) rfl (by decide +kernel))
theorem dL_law_1288 : decode cL_law 1288 = .ok (.iadd, 1) := dc_96 (lw_20 (j := 8) rfl (by decide +kernel))
theorem dL_law_1289 : decode cL_law 1289 = .ok (.iaload, 1) := dc_46 (lw_20 (j := 9) rfl (by decide +kernel))
theorem dL_law_1290 : decode cL_law 1290 = .ok (.aload_n 0, 1) := dc_42 (lw_20 (j := 10) rfl (by decide +kernel))
theorem dL_law_1291 : decode cL_law 1291 = .ok (.iload_n 3, 1) := dc_29 (lw_20 (j := 11) rfl (by decide +kernel))
theorem dL_law_1292 : decode cL_law 1292 = .ok (.iconst 2, 1) := dc_5 (lw_20 (j := 12) rfl (by decide +kernel))
theorem dL_law_1293 : decode cL_law 1293 = .ok (.iadd, 1) := dc_96 (lw_20 (j := 13) rfl (by decide +kernel))
theorem dL_law_1294 : decode cL_law 1294 = .ok (.iaload, 1) := dc_46 (lw_20 (j := 14) rfl (by decide +kernel))
theorem dL_law_1295 : decode cL_law 1295 = .ok (.invokevirtual 132, 3) := dc_182 (a := 0) (b := 132) (lw_20 (j := 15) rfl (by decide +kernel))
theorem dL_law_1298 : decode cL_law 1298 = .ok (.pop, 1) := dc_87 (lw_20 (j := 18) rfl (by decide +kernel))
theorem dL_law_1299 : decode cL_law 1299 = .ok (.goto 664, 3) := dc_167 (a := 2) (b := 152) (lw_20 (j := 19) rfl (by decide +kernel)) (by decide)
theorem dL_law_1302 : decode cL_law 1302 = .ok (.aload_n 1, 1) := dc_43 (lw_20 (j := 22) rfl (by decide +kernel))
theorem dL_law_1303 : decode cL_law 1303 = .ok (.aload_n 0, 1) := dc_42 (lw_20 (j := 23) rfl (by decide +kernel))
theorem dL_law_1304 : decode cL_law 1304 = .ok (.iload_n 3, 1) := dc_29 (lw_20 (j := 24) rfl (by decide +kernel))
theorem dL_law_1305 : decode cL_law 1305 = .ok (.iconst 1, 1) := dc_4 (lw_20 (j := 25) rfl (by decide +kernel))
theorem dL_law_1306 : decode cL_law 1306 = .ok (.iadd, 1) := dc_96 (lw_20 (j := 26) rfl (by decide +kernel))
theorem dL_law_1307 : decode cL_law 1307 = .ok (.iaload, 1) := dc_46 (lw_20 (j := 27) rfl (by decide +kernel))
theorem dL_law_1308 : decode cL_law 1308 = .ok (.invokevirtual 133, 3) := dc_182 (a := 0) (b := 133) (lw_20 (j := 28) rfl (by decide +kernel))
theorem dL_law_1311 : decode cL_law 1311 = .ok (.pop, 1) := dc_87 (lw_20 (j := 31) rfl (by decide +kernel))
theorem dL_law_1312 : decode cL_law 1312 = .ok (.aload_n 2, 1) := dc_44 (lw_20 (j := 32) rfl (by decide +kernel))
theorem dL_law_1313 : decode cL_law 1313 = .ok (.aload_n 0, 1) := dc_42 (lw_20 (j := 33) rfl (by decide +kernel))
theorem dL_law_1314 : decode cL_law 1314 = .ok (.iload_n 3, 1) := dc_29 (lw_20 (j := 34) rfl (by decide +kernel))
theorem dL_law_1315 : decode cL_law 1315 = .ok (.iconst 1, 1) := dc_4 (lw_20 (j := 35) rfl (by decide +kernel))
theorem dL_law_1316 : decode cL_law 1316 = .ok (.iadd, 1) := dc_96 (lw_20 (j := 36) rfl (by decide +kernel))
theorem dL_law_1317 : decode cL_law 1317 = .ok (.iaload, 1) := dc_46 (lw_20 (j := 37) rfl (by decide +kernel))
theorem dL_law_1318 : decode cL_law 1318 = .ok (.invokevirtual 136, 3) := dc_182 (a := 0) (b := 136) (lw_20 (j := 38) rfl (by decide +kernel))
theorem dL_law_1321 : decode cL_law 1321 = .ok (.pop, 1) := dc_87 (lw_20 (j := 41) rfl (by decide +kernel))
theorem dL_law_1322 : decode cL_law 1322 = .ok (.goto 641, 3) := dc_167 (a := 2) (b := 129) (lw_20 (j := 42) rfl (by decide +kernel)) (by decide)
theorem dL_law_1325 : decode cL_law 1325 = .ok (.aload_n 1, 1) := dc_43 (lw_20 (j := 45) rfl (by decide +kernel))
theorem dL_law_1326 : decode cL_law 1326 = .ok (.aload_n 0, 1) := dc_42 (lw_20 (j := 46) rfl (by decide +kernel))
theorem dL_law_1327 : decode cL_law 1327 = .ok (.iload_n 3, 1) := dc_29 (lw_20 (j := 47) rfl (by decide +kernel))
theorem dL_law_1328 : decode cL_law 1328 = .ok (.iconst 1, 1) := dc_4 (lw_20 (j := 48) rfl (by decide +kernel))
theorem dL_law_1329 : decode cL_law 1329 = .ok (.iadd, 1) := dc_96 (lw_20 (j := 49) rfl (by decide +kernel))
theorem dL_law_1330 : decode cL_law 1330 = .ok (.iaload, 1) := dc_46 (lw_20 (j := 50) rfl (by decide +kernel))
theorem dL_law_1331 : decode cL_law 1331 = .ok (.aload_n 0, 1) := dc_42 (lw_20 (j := 51) rfl (by decide +kernel))
theorem dL_law_1332 : decode cL_law 1332 = .ok (.iload_n 3, 1) := dc_29 (lw_20 (j := 52) rfl (by decide +kernel))
theorem dL_law_1333 : decode cL_law 1333 = .ok (.iconst 2, 1) := dc_5 (lw_20 (j := 53) rfl (by decide +kernel))
theorem dL_law_1334 : decode cL_law 1334 = .ok (.iadd, 1) := dc_96 (lw_20 (j := 54) rfl (by decide +kernel))
theorem dL_law_1335 : decode cL_law 1335 = .ok (.iaload, 1) := dc_46 (lw_20 (j := 55) rfl (by decide +kernel))
theorem dL_law_1336 : decode cL_law 1336 = .ok (.invokevirtual 137, 3) := dc_182 (a := 0) (b := 137) (lw_20 (j := 56) rfl (by decide +kernel))
theorem dL_law_1339 : decode cL_law 1339 = .ok (.pop, 1) := dc_87 (lw_20 (j := 59) rfl (by decide +kernel))
theorem dL_law_1340 : decode cL_law 1340 = .ok (.aload_n 2, 1) := dc_44 (lw_20 (j := 60) rfl (by decide +kernel))
theorem dL_law_1341 : decode cL_law 1341 = .ok (.aload_n 0, 1) := dc_42 (lw_20 (j := 61) rfl (by decide +kernel))
theorem dL_law_1342 : decode cL_law 1342 = .ok (.iload_n 3, 1) := dc_29 (lw_20 (j := 62) rfl (by decide +kernel))
theorem dL_law_1343 : decode cL_law 1343 = .ok (.iconst 1, 1) := dc_4 (lw_20 (j := 63) rfl (by decide +kernel))
theorem dL_law_1344 : decode cL_law 1344 = .ok (.iadd, 1) := dc_96 (lw_21 (j := 0) rfl (by decide +kernel))
theorem dL_law_1345 : decode cL_law 1345 = .ok (.iaload, 1) := dc_46 (lw_21 (j := 1) rfl (by decide +kernel))
theorem dL_law_1346 : decode cL_law 1346 = .ok (.aload_n 0, 1) := dc_42 (lw_21 (j := 2) rfl (by decide +kernel))
theorem dL_law_1347 : decode cL_law 1347 = .ok (.iload_n 3, 1) := dc_29 (lw_21 (j := 3) rfl (by decide +kernel))
theorem dL_law_1348 : decode cL_law 1348 = .ok (.iconst 2, 1) := dc_5 (lw_21 (j := 4) rfl (by decide +kernel))
theorem dL_law_1349 : decode cL_law 1349 = .ok (.iadd, 1) := dc_96 (lw_21 (j := 5) rfl (by decide +kernel))
theorem dL_law_1350 : decode cL_law 1350 = .ok (.iaload, 1) := dc_46 (lw_21 (j := 6) rfl (by decide +kernel))
theorem dL_law_1351 : decode cL_law 1351 = .ok (.invokevirtual 140, 3) := dc_182 (a := 0) (b := 140) (lw_21 (j := 7) rfl (by decide +kernel))
theorem dL_law_1354 : decode cL_law 1354 = .ok (.pop, 1) := dc_87 (lw_21 (j := 10) rfl (by decide +kernel))
theorem dL_law_1355 : decode cL_law 1355 = .ok (.goto 608, 3) := dc_167 (a := 2) (b := 96) (lw_21 (j := 11) rfl (by decide +kernel)) (by decide)
theorem dL_law_1358 : decode cL_law 1358 = .ok (.aload_n 1, 1) := dc_43 (lw_21 (j := 14) rfl (by decide +kernel))
theorem dL_law_1359 : decode cL_law 1359 = .ok (.aload_n 0, 1) := dc_42 (lw_21 (j := 15) rfl (by decide +kernel))
theorem dL_law_1360 : decode cL_law 1360 = .ok (.iload_n 3, 1) := dc_29 (lw_21 (j := 16) rfl (by decide +kernel))
theorem dL_law_1361 : decode cL_law 1361 = .ok (.iconst 1, 1) := dc_4 (lw_21 (j := 17) rfl (by decide +kernel))
theorem dL_law_1362 : decode cL_law 1362 = .ok (.iadd, 1) := dc_96 (lw_21 (j := 18) rfl (by decide +kernel))
theorem dL_law_1363 : decode cL_law 1363 = .ok (.iaload, 1) := dc_46 (lw_21 (j := 19) rfl (by decide +kernel))
theorem dL_law_1364 : decode cL_law 1364 = .ok (.aload_n 0, 1) := dc_42 (lw_21 (j := 20) rfl (by decide +kernel))
theorem dL_law_1365 : decode cL_law 1365 = .ok (.iload_n 3, 1) := dc_29 (lw_21 (j := 21) rfl (by decide +kernel))
theorem dL_law_1366 : decode cL_law 1366 = .ok (.iconst 2, 1) := dc_5 (lw_21 (j := 22) rfl (by decide +kernel))
theorem dL_law_1367 : decode cL_law 1367 = .ok (.iadd, 1) := dc_96 (lw_21 (j := 23) rfl (by decide +kernel))
theorem dL_law_1368 : decode cL_law 1368 = .ok (.iaload, 1) := dc_46 (lw_21 (j := 24) rfl (by decide +kernel))
theorem dL_law_1369 : decode cL_law 1369 = .ok (.invokevirtual 141, 3) := dc_182 (a := 0) (b := 141) (lw_21 (j := 25) rfl (by decide +kernel))
theorem dL_law_1372 : decode cL_law 1372 = .ok (.pop, 1) := dc_87 (lw_21 (j := 28) rfl (by decide +kernel))
theorem dL_law_1373 : decode cL_law 1373 = .ok (.aload_n 2, 1) := dc_44 (lw_21 (j := 29) rfl (by decide +kernel))
theorem dL_law_1374 : decode cL_law 1374 = .ok (.aload_n 0, 1) := dc_42 (lw_21 (j := 30) rfl (by decide +kernel))
theorem dL_law_1375 : decode cL_law 1375 = .ok (.iload_n 3, 1) := dc_29 (lw_21 (j := 31) rfl (by decide +kernel))
theorem dL_law_1376 : decode cL_law 1376 = .ok (.iconst 1, 1) := dc_4 (lw_21 (j := 32) rfl (by decide +kernel))
theorem dL_law_1377 : decode cL_law 1377 = .ok (.iadd, 1) := dc_96 (lw_21 (j := 33) rfl (by decide +kernel))
theorem dL_law_1378 : decode cL_law 1378 = .ok (.iaload, 1) := dc_46 (lw_21 (j := 34) rfl (by decide +kernel))
theorem dL_law_1379 : decode cL_law 1379 = .ok (.aload_n 0, 1) := dc_42 (lw_21 (j := 35) rfl (by decide +kernel))
theorem dL_law_1380 : decode cL_law 1380 = .ok (.iload_n 3, 1) := dc_29 (lw_21 (j := 36) rfl (by decide +kernel))
theorem dL_law_1381 : decode cL_law 1381 = .ok (.iconst 2, 1) := dc_5 (lw_21 (j := 37) rfl (by decide +kernel))
theorem dL_law_1382 : decode cL_law 1382 = .ok (.iadd, 1) := dc_96 (lw_21 (j := 38) rfl (by decide +kernel))
theorem dL_law_1383 : decode cL_law 1383 = .ok (.iaload, 1) := dc_46 (lw_21 (j := 39) rfl (by decide +kernel))
theorem dL_law_1384 : decode cL_law 1384 = .ok (.invokevirtual 144, 3) := dc_182 (a := 0) (b := 144) (lw_21 (j := 40) rfl (by decide +kernel))
theorem dL_law_1387 : decode cL_law 1387 = .ok (.pop, 1) := dc_87 (lw_21 (j := 43) rfl (by decide +kernel))
theorem dL_law_1388 : decode cL_law 1388 = .ok (.goto 575, 3) := dc_167 (a := 2) (b := 63) (lw_21 (j := 44) rfl (by decide +kernel)) (by decide)
theorem dL_law_1391 : decode cL_law 1391 = .ok (.aload_n 1, 1) := dc_43 (lw_21 (j := 47) rfl (by decide +kernel))
theorem dL_law_1392 : decode cL_law 1392 = .ok (.aload_n 0, 1) := dc_42 (lw_21 (j := 48) rfl (by decide +kernel))
theorem dL_law_1393 : decode cL_law 1393 = .ok (.iload_n 3, 1) := dc_29 (lw_21 (j := 49) rfl (by decide +kernel))
theorem dL_law_1394 : decode cL_law 1394 = .ok (.iconst 1, 1) := dc_4 (lw_21 (j := 50) rfl (by decide +kernel))
theorem dL_law_1395 : decode cL_law 1395 = .ok (.iadd, 1) := dc_96 (lw_21 (j := 51) rfl (by decide +kernel))
theorem dL_law_1396 : decode cL_law 1396 = .ok (.iaload, 1) := dc_46 (lw_21 (j := 52) rfl (by decide +kernel))
theorem dL_law_1397 : decode cL_law 1397 = .ok (.aload_n 0, 1) := dc_42 (lw_21 (j := 53) rfl (by decide +kernel))
theorem dL_law_1398 : decode cL_law 1398 = .ok (.iload_n 3, 1) := dc_29 (lw_21 (j := 54) rfl (by decide +kernel))
theorem dL_law_1399 : decode cL_law 1399 = .ok (.iconst 2, 1) := dc_5 (lw_21 (j := 55) rfl (by decide +kernel))
theorem dL_law_1400 : decode cL_law 1400 = .ok (.iadd, 1) := dc_96 (lw_21 (j := 56) rfl (by decide +kernel))
theorem dL_law_1401 : decode cL_law 1401 = .ok (.iaload, 1) := dc_46 (lw_21 (j := 57) rfl (by decide +kernel))
theorem dL_law_1402 : decode cL_law 1402 = .ok (.invokevirtual 145, 3) := dc_182 (a := 0) (b := 145) (lw_21 (j := 58) rfl (by decide +kernel))
theorem dL_law_1405 : decode cL_law 1405 = .ok (.pop, 1) := dc_87 (lw_21 (j := 61) rfl (by decide +kernel))
theorem dL_law_1406 : decode cL_law 1406 = .ok (.aload_n 2, 1) := dc_44 (lw_21 (j := 62) rfl (by decide +kernel))
theorem dL_law_1407 : decode cL_law 1407 = .ok (.aload_n 0, 1) := dc_42 (lw_21 (j := 63) rfl (by decide +kernel))
theorem dL_law_1408 : decode cL_law 1408 = .ok (.iload_n 3, 1) := dc_29 (lw_22 (j := 0) rfl (by decide +kernel))
theorem dL_law_1409 : decode cL_law 1409 = .ok (.iconst 1, 1) := dc_4 (lw_22 (j := 1) rfl (by decide +kernel))
theorem dL_law_1410 : decode cL_law 1410 = .ok (.iadd, 1) := dc_96 (lw_22 (j := 2) rfl (by decide +kernel))
theorem dL_law_1411 : decode cL_law 1411 = .ok (.iaload, 1) := dc_46 (lw_22 (j := 3) rfl (by decide +kernel))
theorem dL_law_1412 : decode cL_law 1412 = .ok (.aload_n 0, 1) := dc_42 (lw_22 (j := 4) rfl (by decide +kernel))
theorem dL_law_1413 : decode cL_law 1413 = .ok (.iload_n 3, 1) := dc_29 (lw_22 (j := 5) rfl (by decide +kernel))
theorem dL_law_1414 : decode cL_law 1414 = .ok (.iconst 2, 1) := dc_5 (lw_22 (j := 6) rfl (by decide +kernel))
theorem dL_law_1415 : decode cL_law 1415 = .ok (.iadd, 1) := dc_96 (lw_22 (j := 7) rfl (by decide +kernel))
theorem dL_law_1416 : decode cL_law 1416 = .ok (.iaload, 1) := dc_46 (lw_22 (j := 8) rfl (by decide +kernel))
theorem dL_law_1417 : decode cL_law 1417 = .ok (.invokevirtual 148, 3) := dc_182 (a := 0) (b := 148) (lw_22 (j := 9) rfl (by decide +kernel))
theorem dL_law_1420 : decode cL_law 1420 = .ok (.pop, 1) := dc_87 (lw_22 (j := 12) rfl (by decide +kernel))
theorem dL_law_1421 : decode cL_law 1421 = .ok (.goto 542, 3) := dc_167 (a := 2) (b := 30) (lw_22 (j := 13) rfl (by decide +kernel)) (by decide)
theorem dL_law_1424 : decode cL_law 1424 = .ok (.aload_n 1, 1) := dc_43 (lw_22 (j := 16) rfl (by decide +kernel))
theorem dL_law_1425 : decode cL_law 1425 = .ok (.aload_n 0, 1) := dc_42 (lw_22 (j := 17) rfl (by decide +kernel))
theorem dL_law_1426 : decode cL_law 1426 = .ok (.iload_n 3, 1) := dc_29 (lw_22 (j := 18) rfl (by decide +kernel))
theorem dL_law_1427 : decode cL_law 1427 = .ok (.iconst 1, 1) := dc_4 (lw_22 (j := 19) rfl (by decide +kernel))
theorem dL_law_1428 : decode cL_law 1428 = .ok (.iadd, 1) := dc_96 (lw_22 (j := 20) rfl (by decide +kernel))
theorem dL_law_1429 : decode cL_law 1429 = .ok (.iaload, 1) := dc_46 (lw_22 (j := 21) rfl (by decide +kernel))
theorem dL_law_1430 : decode cL_law 1430 = .ok (.aload_n 0, 1) := dc_42 (lw_22 (j := 22) rfl (by decide +kernel))
theorem dL_law_1431 : decode cL_law 1431 = .ok (.iload_n 3, 1) := dc_29 (lw_22 (j := 23) rfl (by decide +kernel))
theorem dL_law_1432 : decode cL_law 1432 = .ok (.iconst 2, 1) := dc_5 (lw_22 (j := 24) rfl (by decide +kernel))
theorem dL_law_1433 : decode cL_law 1433 = .ok (.iadd, 1) := dc_96 (lw_22 (j := 25) rfl (by decide +kernel))
theorem dL_law_1434 : decode cL_law 1434 = .ok (.iaload, 1) := dc_46 (lw_22 (j := 26) rfl (by decide +kernel))
theorem dL_law_1435 : decode cL_law 1435 = .ok (.invokevirtual 149, 3) := dc_182 (a := 0) (b := 149) (lw_22 (j := 27) rfl (by decide +kernel))
theorem dL_law_1438 : decode cL_law 1438 = .ok (.pop, 1) := dc_87 (lw_22 (j := 30) rfl (by decide +kernel))
theorem dL_law_1439 : decode cL_law 1439 = .ok (.aload_n 2, 1) := dc_44 (lw_22 (j := 31) rfl (by decide +kernel))
theorem dL_law_1440 : decode cL_law 1440 = .ok (.aload_n 0, 1) := dc_42 (lw_22 (j := 32) rfl (by decide +kernel))
theorem dL_law_1441 : decode cL_law 1441 = .ok (.iload_n 3, 1) := dc_29 (lw_22 (j := 33) rfl (by decide +kernel))
theorem dL_law_1442 : decode cL_law 1442 = .ok (.iconst 1, 1) := dc_4 (lw_22 (j := 34) rfl (by decide +kernel))
theorem dL_law_1443 : decode cL_law 1443 = .ok (.iadd, 1) := dc_96 (lw_22 (j := 35) rfl (by decide +kernel))
theorem dL_law_1444 : decode cL_law 1444 = .ok (.iaload, 1) := dc_46 (lw_22 (j := 36) rfl (by decide +kernel))
theorem dL_law_1445 : decode cL_law 1445 = .ok (.aload_n 0, 1) := dc_42 (lw_22 (j := 37) rfl (by decide +kernel))
theorem dL_law_1446 : decode cL_law 1446 = .ok (.iload_n 3, 1) := dc_29 (lw_22 (j := 38) rfl (by decide +kernel))
theorem dL_law_1447 : decode cL_law 1447 = .ok (.iconst 2, 1) := dc_5 (lw_22 (j := 39) rfl (by decide +kernel))
theorem dL_law_1448 : decode cL_law 1448 = .ok (.iadd, 1) := dc_96 (lw_22 (j := 40) rfl (by decide +kernel))
theorem dL_law_1449 : decode cL_law 1449 = .ok (.iaload, 1) := dc_46 (lw_22 (j := 41) rfl (by decide +kernel))
theorem dL_law_1450 : decode cL_law 1450 = .ok (.invokevirtual 152, 3) := dc_182 (a := 0) (b := 152) (lw_22 (j := 42) rfl (by decide +kernel))
theorem dL_law_1453 : decode cL_law 1453 = .ok (.pop, 1) := dc_87 (lw_22 (j := 45) rfl (by decide +kernel))
theorem dL_law_1454 : decode cL_law 1454 = .ok (.goto 509, 3) := dc_167 (a := 1) (b := 253) (lw_22 (j := 46) rfl (by decide +kernel)) (by decide)
theorem dL_law_1457 : decode cL_law 1457 = .ok (.aload_n 1, 1) := dc_43 (lw_22 (j := 49) rfl (by decide +kernel))
theorem dL_law_1458 : decode cL_law 1458 = .ok (.aload_n 0, 1) := dc_42 (lw_22 (j := 50) rfl (by decide +kernel))
theorem dL_law_1459 : decode cL_law 1459 = .ok (.iload_n 3, 1) := dc_29 (lw_22 (j := 51) rfl (by decide +kernel))
theorem dL_law_1460 : decode cL_law 1460 = .ok (.iconst 1, 1) := dc_4 (lw_22 (j := 52) rfl (by decide +kernel))
theorem dL_law_1461 : decode cL_law 1461 = .ok (.iadd, 1) := dc_96 (lw_22 (j := 53) rfl (by decide +kernel))
theorem dL_law_1462 : decode cL_law 1462 = .ok (.iaload, 1) := dc_46 (lw_22 (j := 54) rfl (by decide +kernel))
theorem dL_law_1463 : decode cL_law 1463 = .ok (.aload_n 0, 1) := dc_42 (lw_22 (j := 55) rfl (by decide +kernel))
theorem dL_law_1464 : decode cL_law 1464 = .ok (.iload_n 3, 1) := dc_29 (lw_22 (j := 56) rfl (by decide +kernel))
theorem dL_law_1465 : decode cL_law 1465 = .ok (.iconst 2, 1) := dc_5 (lw_22 (j := 57) rfl (by decide +kernel))
theorem dL_law_1466 : decode cL_law 1466 = .ok (.iadd, 1) := dc_96 (lw_22 (j := 58) rfl (by decide +kernel))
theorem dL_law_1467 : decode cL_law 1467 = .ok (.iaload, 1) := dc_46 (lw_22 (j := 59) rfl (by decide +kernel))
theorem dL_law_1468 : decode cL_law 1468 = .ok (.aload_n 0, 1) := dc_42 (lw_22 (j := 60) rfl (by decide +kernel))
theorem dL_law_1469 : decode cL_law 1469 = .ok (.iload_n 3, 1) := dc_29 (lw_22 (j := 61) rfl (by decide +kernel))
theorem dL_law_1470 : decode cL_law 1470 = .ok (.iconst 3, 1) := dc_6 (lw_22 (j := 62) rfl (by decide +kernel))
theorem dL_law_1471 : decode cL_law 1471 = .ok (.iadd, 1) := dc_96 (lw_22 (j := 63) rfl (by decide +kernel))
theorem dL_law_1472 : decode cL_law 1472 = .ok (.iaload, 1) := dc_46 (lw_23 (j := 0) rfl (by decide +kernel))
theorem dL_law_1473 : decode cL_law 1473 = .ok (.invokevirtual 153, 3) := dc_182 (a := 0) (b := 153) (lw_23 (j := 1) rfl (by decide +kernel))
theorem dL_law_1476 : decode cL_law 1476 = .ok (.pop, 1) := dc_87 (lw_23 (j := 4) rfl (by decide +kernel))
theorem dL_law_1477 : decode cL_law 1477 = .ok (.aload_n 2, 1) := dc_44 (lw_23 (j := 5) rfl (by decide +kernel))
theorem dL_law_1478 : decode cL_law 1478 = .ok (.aload_n 0, 1) := dc_42 (lw_23 (j := 6) rfl (by decide +kernel))
theorem dL_law_1479 : decode cL_law 1479 = .ok (.iload_n 3, 1) := dc_29 (lw_23 (j := 7) rfl (by decide +kernel))
theorem dL_law_1480 : decode cL_law 1480 = .ok (.iconst 1, 1) := dc_4 (lw_23 (j := 8) rfl (by decide +kernel))
theorem dL_law_1481 : decode cL_law 1481 = .ok (.iadd, 1) := dc_96 (lw_23 (j := 9) rfl (by decide +kernel))
theorem dL_law_1482 : decode cL_law 1482 = .ok (.iaload, 1) := dc_46 (lw_23 (j := 10) rfl (by decide +kernel))
theorem dL_law_1483 : decode cL_law 1483 = .ok (.aload_n 0, 1) := dc_42 (lw_23 (j := 11) rfl (by decide +kernel))
theorem dL_law_1484 : decode cL_law 1484 = .ok (.iload_n 3, 1) := dc_29 (lw_23 (j := 12) rfl (by decide +kernel))
theorem dL_law_1485 : decode cL_law 1485 = .ok (.iconst 2, 1) := dc_5 (lw_23 (j := 13) rfl (by decide +kernel))
theorem dL_law_1486 : decode cL_law 1486 = .ok (.iadd, 1) := dc_96 (lw_23 (j := 14) rfl (by decide +kernel))
theorem dL_law_1487 : decode cL_law 1487 = .ok (.iaload, 1) := dc_46 (lw_23 (j := 15) rfl (by decide +kernel))
theorem dL_law_1488 : decode cL_law 1488 = .ok (.aload_n 0, 1) := dc_42 (lw_23 (j := 16) rfl (by decide +kernel))
theorem dL_law_1489 : decode cL_law 1489 = .ok (.iload_n 3, 1) := dc_29 (lw_23 (j := 17) rfl (by decide +kernel))
theorem dL_law_1490 : decode cL_law 1490 = .ok (.iconst 3, 1) := dc_6 (lw_23 (j := 18) rfl (by decide +kernel))
theorem dL_law_1491 : decode cL_law 1491 = .ok (.iadd, 1) := dc_96 (lw_23 (j := 19) rfl (by decide +kernel))
theorem dL_law_1492 : decode cL_law 1492 = .ok (.iaload, 1) := dc_46 (lw_23 (j := 20) rfl (by decide +kernel))
theorem dL_law_1493 : decode cL_law 1493 = .ok (.invokevirtual 156, 3) := dc_182 (a := 0) (b := 156) (lw_23 (j := 21) rfl (by decide +kernel))
theorem dL_law_1496 : decode cL_law 1496 = .ok (.pop, 1) := dc_87 (lw_23 (j := 24) rfl (by decide +kernel))
theorem dL_law_1497 : decode cL_law 1497 = .ok (.goto 466, 3) := dc_167 (a := 1) (b := 210) (lw_23 (j := 25) rfl (by decide +kernel)) (by decide)
theorem dL_law_1500 : decode cL_law 1500 = .ok (.aload_n 1, 1) := dc_43 (lw_23 (j := 28) rfl (by decide +kernel))
theorem dL_law_1501 : decode cL_law 1501 = .ok (.aload_n 0, 1) := dc_42 (lw_23 (j := 29) rfl (by decide +kernel))
theorem dL_law_1502 : decode cL_law 1502 = .ok (.iload_n 3, 1) := dc_29 (lw_23 (j := 30) rfl (by decide +kernel))
theorem dL_law_1503 : decode cL_law 1503 = .ok (.iconst 1, 1) := dc_4 (lw_23 (j := 31) rfl (by decide +kernel))
theorem dL_law_1504 : decode cL_law 1504 = .ok (.iadd, 1) := dc_96 (lw_23 (j := 32) rfl (by decide +kernel))
theorem dL_law_1505 : decode cL_law 1505 = .ok (.iaload, 1) := dc_46 (lw_23 (j := 33) rfl (by decide +kernel))
theorem dL_law_1506 : decode cL_law 1506 = .ok (.invokevirtual 157, 3) := dc_182 (a := 0) (b := 157) (lw_23 (j := 34) rfl (by decide +kernel))
theorem dL_law_1509 : decode cL_law 1509 = .ok (.pop, 1) := dc_87 (lw_23 (j := 37) rfl (by decide +kernel))
theorem dL_law_1510 : decode cL_law 1510 = .ok (.aload_n 2, 1) := dc_44 (lw_23 (j := 38) rfl (by decide +kernel))
theorem dL_law_1511 : decode cL_law 1511 = .ok (.aload_n 0, 1) := dc_42 (lw_23 (j := 39) rfl (by decide +kernel))
theorem dL_law_1512 : decode cL_law 1512 = .ok (.iload_n 3, 1) := dc_29 (lw_23 (j := 40) rfl (by decide +kernel))
theorem dL_law_1513 : decode cL_law 1513 = .ok (.iconst 1, 1) := dc_4 (lw_23 (j := 41) rfl (by decide +kernel))
theorem dL_law_1514 : decode cL_law 1514 = .ok (.iadd, 1) := dc_96 (lw_23 (j := 42) rfl (by decide +kernel))
theorem dL_law_1515 : decode cL_law 1515 = .ok (.iaload, 1) := dc_46 (lw_23 (j := 43) rfl (by decide +kernel))
theorem dL_law_1516 : decode cL_law 1516 = .ok (.invokevirtual 160, 3) := dc_182 (a := 0) (b := 160) (lw_23 (j := 44) rfl (by decide +kernel))
theorem dL_law_1519 : decode cL_law 1519 = .ok (.pop, 1) := dc_87 (lw_23 (j := 47) rfl (by decide +kernel))
theorem dL_law_1520 : decode cL_law 1520 = .ok (.goto 443, 3) := dc_167 (a := 1) (b := 187) (lw_23 (j := 48) rfl (by decide +kernel)) (by decide)
theorem dL_law_1523 : decode cL_law 1523 = .ok (.aload_n 1, 1) := dc_43 (lw_23 (j := 51) rfl (by decide +kernel))
theorem dL_law_1524 : decode cL_law 1524 = .ok (.aload_n 0, 1) := dc_42 (lw_23 (j := 52) rfl (by decide +kernel))
theorem dL_law_1525 : decode cL_law 1525 = .ok (.iload_n 3, 1) := dc_29 (lw_23 (j := 53) rfl (by decide +kernel))
theorem dL_law_1526 : decode cL_law 1526 = .ok (.iconst 1, 1) := dc_4 (lw_23 (j := 54) rfl (by decide +kernel))
theorem dL_law_1527 : decode cL_law 1527 = .ok (.iadd, 1) := dc_96 (lw_23 (j := 55) rfl (by decide +kernel))
theorem dL_law_1528 : decode cL_law 1528 = .ok (.iaload, 1) := dc_46 (lw_23 (j := 56) rfl (by decide +kernel))
theorem dL_law_1529 : decode cL_law 1529 = .ok (.invokevirtual 161, 3) := dc_182 (a := 0) (b := 161) (lw_23 (j := 57) rfl (by decide +kernel))
theorem dL_law_1532 : decode cL_law 1532 = .ok (.pop, 1) := dc_87 (lw_23 (j := 60) rfl (by decide +kernel))
theorem dL_law_1533 : decode cL_law 1533 = .ok (.aload_n 2, 1) := dc_44 (lw_23 (j := 61) rfl (by decide +kernel))
theorem dL_law_1534 : decode cL_law 1534 = .ok (.aload_n 0, 1) := dc_42 (lw_23 (j := 62) rfl (by decide +kernel))
theorem dL_law_1535 : decode cL_law 1535 = .ok (.iload_n 3, 1) := dc_29 (lw_23 (j := 63) rfl (by decide +kernel))
theorem dL_law_1536 : decode cL_law 1536 = .ok (.iconst 1, 1) := dc_4 (lw_24 (j := 0) rfl (by decide +kernel))
theorem dL_law_1537 : decode cL_law 1537 = .ok (.iadd, 1) := dc_96 (lw_24 (j := 1) rfl (by decide +kernel))
theorem dL_law_1538 : decode cL_law 1538 = .ok (.iaload, 1) := dc_46 (lw_24 (j := 2) rfl (by decide +kernel))
theorem dL_law_1539 : decode cL_law 1539 = .ok (.invokevirtual 164, 3) := dc_182 (a := 0) (b := 164) (lw_24 (j := 3) rfl (by decide +kernel))
theorem dL_law_1542 : decode cL_law 1542 = .ok (.pop, 1) := dc_87 (lw_24 (j := 6) rfl (by decide +kernel))
theorem dL_law_1543 : decode cL_law 1543 = .ok (.goto 420, 3) := dc_167 (a := 1) (b := 164) (lw_24 (j := 7) rfl (by decide +kernel)) (by decide)
theorem dL_law_1546 : decode cL_law 1546 = .ok (.aload_n 1, 1) := dc_43 (lw_24 (j := 10) rfl (by decide +kernel))
theorem dL_law_1547 : decode cL_law 1547 = .ok (.aload_n 0, 1) := dc_42 (lw_24 (j := 11) rfl (by decide +kernel))
theorem dL_law_1548 : decode cL_law 1548 = .ok (.iload_n 3, 1) := dc_29 (lw_24 (j := 12) rfl (by decide +kernel))
theorem dL_law_1549 : decode cL_law 1549 = .ok (.iconst 1, 1) := dc_4 (lw_24 (j := 13) rfl (by decide +kernel))
theorem dL_law_1550 : decode cL_law 1550 = .ok (.iadd, 1) := dc_96 (lw_24 (j := 14) rfl (by decide +kernel))
theorem dL_law_1551 : decode cL_law 1551 = .ok (.iaload, 1) := dc_46 (lw_24 (j := 15) rfl (by decide +kernel))
theorem dL_law_1552 : decode cL_law 1552 = .ok (.aload_n 0, 1) := dc_42 (lw_24 (j := 16) rfl (by decide +kernel))
theorem dL_law_1553 : decode cL_law 1553 = .ok (.iload_n 3, 1) := dc_29 (lw_24 (j := 17) rfl (by decide +kernel))
theorem dL_law_1554 : decode cL_law 1554 = .ok (.iconst 2, 1) := dc_5 (lw_24 (j := 18) rfl (by decide +kernel))
theorem dL_law_1555 : decode cL_law 1555 = .ok (.iadd, 1) := dc_96 (lw_24 (j := 19) rfl (by decide +kernel))
theorem dL_law_1556 : decode cL_law 1556 = .ok (.iaload, 1) := dc_46 (lw_24 (j := 20) rfl (by decide +kernel))
theorem dL_law_1557 : decode cL_law 1557 = .ok (.invokevirtual 165, 3) := dc_182 (a := 0) (b := 165) (lw_24 (j := 21) rfl (by decide +kernel))
theorem dL_law_1560 : decode cL_law 1560 = .ok (.aload_n 2, 1) := dc_44 (lw_24 (j := 24) rfl (by decide +kernel))
theorem dL_law_1561 : decode cL_law 1561 = .ok (.aload_n 0, 1) := dc_42 (lw_24 (j := 25) rfl (by decide +kernel))
theorem dL_law_1562 : decode cL_law 1562 = .ok (.iload_n 3, 1) := dc_29 (lw_24 (j := 26) rfl (by decide +kernel))
theorem dL_law_1563 : decode cL_law 1563 = .ok (.iconst 1, 1) := dc_4 (lw_24 (j := 27) rfl (by decide +kernel))
theorem dL_law_1564 : decode cL_law 1564 = .ok (.iadd, 1) := dc_96 (lw_24 (j := 28) rfl (by decide +kernel))
theorem dL_law_1565 : decode cL_law 1565 = .ok (.iaload, 1) := dc_46 (lw_24 (j := 29) rfl (by decide +kernel))
theorem dL_law_1566 : decode cL_law 1566 = .ok (.aload_n 0, 1) := dc_42 (lw_24 (j := 30) rfl (by decide +kernel))
theorem dL_law_1567 : decode cL_law 1567 = .ok (.iload_n 3, 1) := dc_29 (lw_24 (j := 31) rfl (by decide +kernel))
theorem dL_law_1568 : decode cL_law 1568 = .ok (.iconst 2, 1) := dc_5 (lw_24 (j := 32) rfl (by decide +kernel))
theorem dL_law_1569 : decode cL_law 1569 = .ok (.iadd, 1) := dc_96 (lw_24 (j := 33) rfl (by decide +kernel))
theorem dL_law_1570 : decode cL_law 1570 = .ok (.iaload, 1) := dc_46 (lw_24 (j := 34) rfl (by decide +kernel))
theorem dL_law_1571 : decode cL_law 1571 = .ok (.invokevirtual 168, 3) := dc_182 (a := 0) (b := 168) (lw_24 (j := 35) rfl (by decide +kernel))
theorem dL_law_1574 : decode cL_law 1574 = .ok (.if_icmp .eq 389, 3) := dc_159 (a := 1) (b := 133) (lw_24 (j := 38) rfl (by decide +kernel)) (by decide)
theorem dL_law_1579 : decode cL_law 1579 = .ok (.aload_n 1, 1) := dc_43 (lw_24 (j := 43) rfl (by decide +kernel))
theorem dL_law_1580 : decode cL_law 1580 = .ok (.aload_n 0, 1) := dc_42 (lw_24 (j := 44) rfl (by decide +kernel))
theorem dL_law_1581 : decode cL_law 1581 = .ok (.iload_n 3, 1) := dc_29 (lw_24 (j := 45) rfl (by decide +kernel))
theorem dL_law_1582 : decode cL_law 1582 = .ok (.iconst 1, 1) := dc_4 (lw_24 (j := 46) rfl (by decide +kernel))
theorem dL_law_1583 : decode cL_law 1583 = .ok (.iadd, 1) := dc_96 (lw_24 (j := 47) rfl (by decide +kernel))
theorem dL_law_1584 : decode cL_law 1584 = .ok (.iaload, 1) := dc_46 (lw_24 (j := 48) rfl (by decide +kernel))
theorem dL_law_1585 : decode cL_law 1585 = .ok (.invokevirtual 169, 3) := dc_182 (a := 0) (b := 169) (lw_24 (j := 49) rfl (by decide +kernel))
theorem dL_law_1588 : decode cL_law 1588 = .ok (.pop, 1) := dc_87 (lw_24 (j := 52) rfl (by decide +kernel))
theorem dL_law_1589 : decode cL_law 1589 = .ok (.aload_n 2, 1) := dc_44 (lw_24 (j := 53) rfl (by decide +kernel))
theorem dL_law_1590 : decode cL_law 1590 = .ok (.aload_n 0, 1) := dc_42 (lw_24 (j := 54) rfl (by decide +kernel))
theorem dL_law_1591 : decode cL_law 1591 = .ok (.iload_n 3, 1) := dc_29 (lw_24 (j := 55) rfl (by decide +kernel))
theorem dL_law_1592 : decode cL_law 1592 = .ok (.iconst 1, 1) := dc_4 (lw_24 (j := 56) rfl (by decide +kernel))
theorem dL_law_1593 : decode cL_law 1593 = .ok (.iadd, 1) := dc_96 (lw_24 (j := 57) rfl (by decide +kernel))
theorem dL_law_1594 : decode cL_law 1594 = .ok (.iaload, 1) := dc_46 (lw_24 (j := 58) rfl (by decide +kernel))
theorem dL_law_1595 : decode cL_law 1595 = .ok (.invokevirtual 172, 3) := dc_182 (a := 0) (b := 172) (lw_24 (j := 59) rfl (by decide +kernel))
theorem dL_law_1598 : decode cL_law 1598 = .ok (.pop, 1) := dc_87 (lw_24 (j := 62) rfl (by decide +kernel))
theorem dL_law_1599 : decode cL_law 1599 = .ok (.goto 364, 3) := dc_167 (a := 1) (b := 108) (lw_24 (j := 63) rfl (by decide +kernel)) (by decide)
theorem dL_law_1602 : decode cL_law 1602 = .ok (.aload_n 1, 1) := dc_43 (lw_25 (j := 2) rfl (by decide +kernel))
theorem dL_law_1603 : decode cL_law 1603 = .ok (.aload_n 0, 1) := dc_42 (lw_25 (j := 3) rfl (by decide +kernel))
theorem dL_law_1604 : decode cL_law 1604 = .ok (.iload_n 3, 1) := dc_29 (lw_25 (j := 4) rfl (by decide +kernel))
theorem dL_law_1605 : decode cL_law 1605 = .ok (.iconst 1, 1) := dc_4 (lw_25 (j := 5) rfl (by decide +kernel))
theorem dL_law_1606 : decode cL_law 1606 = .ok (.iadd, 1) := dc_96 (lw_25 (j := 6) rfl (by decide +kernel))
theorem dL_law_1607 : decode cL_law 1607 = .ok (.iaload, 1) := dc_46 (lw_25 (j := 7) rfl (by decide +kernel))
theorem dL_law_1608 : decode cL_law 1608 = .ok (.invokevirtual 173, 3) := dc_182 (a := 0) (b := 173) (lw_25 (j := 8) rfl (by decide +kernel))
theorem dL_law_1611 : decode cL_law 1611 = .ok (.pop, 1) := dc_87 (lw_25 (j := 11) rfl (by decide +kernel))
theorem dL_law_1612 : decode cL_law 1612 = .ok (.aload_n 2, 1) := dc_44 (lw_25 (j := 12) rfl (by decide +kernel))
theorem dL_law_1613 : decode cL_law 1613 = .ok (.aload_n 0, 1) := dc_42 (lw_25 (j := 13) rfl (by decide +kernel))
theorem dL_law_1614 : decode cL_law 1614 = .ok (.iload_n 3, 1) := dc_29 (lw_25 (j := 14) rfl (by decide +kernel))
theorem dL_law_1615 : decode cL_law 1615 = .ok (.iconst 1, 1) := dc_4 (lw_25 (j := 15) rfl (by decide +kernel))
theorem dL_law_1616 : decode cL_law 1616 = .ok (.iadd, 1) := dc_96 (lw_25 (j := 16) rfl (by decide +kernel))
theorem dL_law_1617 : decode cL_law 1617 = .ok (.iaload, 1) := dc_46 (lw_25 (j := 17) rfl (by decide +kernel))
theorem dL_law_1618 : decode cL_law 1618 = .ok (.invokevirtual 176, 3) := dc_182 (a := 0) (b := 176) (lw_25 (j := 18) rfl (by decide +kernel))
theorem dL_law_1621 : decode cL_law 1621 = .ok (.pop, 1) := dc_87 (lw_25 (j := 21) rfl (by decide +kernel))
theorem dL_law_1622 : decode cL_law 1622 = .ok (.goto 341, 3) := dc_167 (a := 1) (b := 85) (lw_25 (j := 22) rfl (by decide +kernel)) (by decide)
theorem dL_law_1625 : decode cL_law 1625 = .ok (.aload_n 1, 1) := dc_43 (lw_25 (j := 25) rfl (by decide +kernel))
theorem dL_law_1626 : decode cL_law 1626 = .ok (.aload_n 0, 1) := dc_42 (lw_25 (j := 26) rfl (by decide +kernel))
theorem dL_law_1627 : decode cL_law 1627 = .ok (.iload_n 3, 1) := dc_29 (lw_25 (j := 27) rfl (by decide +kernel))
theorem dL_law_1628 : decode cL_law 1628 = .ok (.iconst 1, 1) := dc_4 (lw_25 (j := 28) rfl (by decide +kernel))
theorem dL_law_1629 : decode cL_law 1629 = .ok (.iadd, 1) := dc_96 (lw_25 (j := 29) rfl (by decide +kernel))
theorem dL_law_1630 : decode cL_law 1630 = .ok (.iaload, 1) := dc_46 (lw_25 (j := 30) rfl (by decide +kernel))
theorem dL_law_1631 : decode cL_law 1631 = .ok (.invokevirtual 177, 3) := dc_182 (a := 0) (b := 177) (lw_25 (j := 31) rfl (by decide +kernel))
theorem dL_law_1634 : decode cL_law 1634 = .ok (.pop, 1) := dc_87 (lw_25 (j := 34) rfl (by decide +kernel))
theorem dL_law_1635 : decode cL_law 1635 = .ok (.aload_n 2, 1) := dc_44 (lw_25 (j := 35) rfl (by decide +kernel))
theorem dL_law_1636 : decode cL_law 1636 = .ok (.aload_n 0, 1) := dc_42 (lw_25 (j := 36) rfl (by decide +kernel))
theorem dL_law_1637 : decode cL_law 1637 = .ok (.iload_n 3, 1) := dc_29 (lw_25 (j := 37) rfl (by decide +kernel))
theorem dL_law_1638 : decode cL_law 1638 = .ok (.iconst 1, 1) := dc_4 (lw_25 (j := 38) rfl (by decide +kernel))
theorem dL_law_1639 : decode cL_law 1639 = .ok (.iadd, 1) := dc_96 (lw_25 (j := 39) rfl (by decide +kernel))
theorem dL_law_1640 : decode cL_law 1640 = .ok (.iaload, 1) := dc_46 (lw_25 (j := 40) rfl (by decide +kernel))
theorem dL_law_1641 : decode cL_law 1641 = .ok (.invokevirtual 180, 3) := dc_182 (a := 0) (b := 180) (lw_25 (j := 41) rfl (by decide +kernel))
theorem dL_law_1644 : decode cL_law 1644 = .ok (.pop, 1) := dc_87 (lw_25 (j := 44) rfl (by decide +kernel))
theorem dL_law_1645 : decode cL_law 1645 = .ok (.goto 318, 3) := dc_167 (a := 1) (b := 62) (lw_25 (j := 45) rfl (by decide +kernel)) (by decide)
theorem dL_law_1687 : decode cL_law 1687 = .ok (.aload_n 1, 1) := dc_43 (lw_26 (j := 23) rfl (by decide +kernel))
theorem dL_law_1688 : decode cL_law 1688 = .ok (.aload_n 0, 1) := dc_42 (lw_26 (j := 24) rfl (by decide +kernel))
theorem dL_law_1689 : decode cL_law 1689 = .ok (.iload_n 3, 1) := dc_29 (lw_26 (j := 25) rfl (by decide +kernel))
theorem dL_law_1690 : decode cL_law 1690 = .ok (.iconst 1, 1) := dc_4 (lw_26 (j := 26) rfl (by decide +kernel))
theorem dL_law_1691 : decode cL_law 1691 = .ok (.iadd, 1) := dc_96 (lw_26 (j := 27) rfl (by decide +kernel))
theorem dL_law_1692 : decode cL_law 1692 = .ok (.iaload, 1) := dc_46 (lw_26 (j := 28) rfl (by decide +kernel))
theorem dL_law_1693 : decode cL_law 1693 = .ok (.aload_n 0, 1) := dc_42 (lw_26 (j := 29) rfl (by decide +kernel))
theorem dL_law_1694 : decode cL_law 1694 = .ok (.iload_n 3, 1) := dc_29 (lw_26 (j := 30) rfl (by decide +kernel))
theorem dL_law_1695 : decode cL_law 1695 = .ok (.iconst 2, 1) := dc_5 (lw_26 (j := 31) rfl (by decide +kernel))
theorem dL_law_1696 : decode cL_law 1696 = .ok (.iadd, 1) := dc_96 (lw_26 (j := 32) rfl (by decide +kernel))
theorem dL_law_1697 : decode cL_law 1697 = .ok (.iaload, 1) := dc_46 (lw_26 (j := 33) rfl (by decide +kernel))
theorem dL_law_1698 : decode cL_law 1698 = .ok (.invokevirtual 194, 3) := dc_182 (a := 0) (b := 194) (lw_26 (j := 34) rfl (by decide +kernel))
theorem dL_law_1701 : decode cL_law 1701 = .ok (.pop, 1) := dc_87 (lw_26 (j := 37) rfl (by decide +kernel))
theorem dL_law_1702 : decode cL_law 1702 = .ok (.aload_n 2, 1) := dc_44 (lw_26 (j := 38) rfl (by decide +kernel))
theorem dL_law_1703 : decode cL_law 1703 = .ok (.aload_n 0, 1) := dc_42 (lw_26 (j := 39) rfl (by decide +kernel))
theorem dL_law_1704 : decode cL_law 1704 = .ok (.iload_n 3, 1) := dc_29 (lw_26 (j := 40) rfl (by decide +kernel))
theorem dL_law_1705 : decode cL_law 1705 = .ok (.iconst 1, 1) := dc_4 (lw_26 (j := 41) rfl (by decide +kernel))
theorem dL_law_1706 : decode cL_law 1706 = .ok (.iadd, 1) := dc_96 (lw_26 (j := 42) rfl (by decide +kernel))
theorem dL_law_1707 : decode cL_law 1707 = .ok (.iaload, 1) := dc_46 (lw_26 (j := 43) rfl (by decide +kernel))
theorem dL_law_1708 : decode cL_law 1708 = .ok (.aload_n 0, 1) := dc_42 (lw_26 (j := 44) rfl (by decide +kernel))
theorem dL_law_1709 : decode cL_law 1709 = .ok (.iload_n 3, 1) := dc_29 (lw_26 (j := 45) rfl (by decide +kernel))
theorem dL_law_1710 : decode cL_law 1710 = .ok (.iconst 2, 1) := dc_5 (lw_26 (j := 46) rfl (by decide +kernel))
theorem dL_law_1711 : decode cL_law 1711 = .ok (.iadd, 1) := dc_96 (lw_26 (j := 47) rfl (by decide +kernel))
theorem dL_law_1712 : decode cL_law 1712 = .ok (.iaload, 1) := dc_46 (lw_26 (j := 48) rfl (by decide +kernel))
theorem dL_law_1713 : decode cL_law 1713 = .ok (.invokevirtual 197, 3) := dc_182 (a := 0) (b := 197) (lw_26 (j := 49) rfl (by decide +kernel))
theorem dL_law_1716 : decode cL_law 1716 = .ok (.pop, 1) := dc_87 (lw_26 (j := 52) rfl (by decide +kernel))
theorem dL_law_1717 : decode cL_law 1717 = .ok (.goto 246, 3) := dc_167 (a := 0) (b := 246) (lw_26 (j := 53) rfl (by decide +kernel)) (by decide)
theorem dL_law_1720 : decode cL_law 1720 = .ok (.aload_n 1, 1) := dc_43 (lw_26 (j := 56) rfl (by decide +kernel))
theorem dL_law_1721 : decode cL_law 1721 = .ok (.aload_n 0, 1) := dc_42 (lw_26 (j := 57) rfl (by decide +kernel))
theorem dL_law_1722 : decode cL_law 1722 = .ok (.iload_n 3, 1) := dc_29 (lw_26 (j := 58) rfl (by decide +kernel))
theorem dL_law_1723 : decode cL_law 1723 = .ok (.iconst 1, 1) := dc_4 (lw_26 (j := 59) rfl (by decide +kernel))
theorem dL_law_1724 : decode cL_law 1724 = .ok (.iadd, 1) := dc_96 (lw_26 (j := 60) rfl (by decide +kernel))
theorem dL_law_1725 : decode cL_law 1725 = .ok (.iaload, 1) := dc_46 (lw_26 (j := 61) rfl (by decide +kernel))
theorem dL_law_1726 : decode cL_law 1726 = .ok (.aload_n 0, 1) := dc_42 (lw_26 (j := 62) rfl (by decide +kernel))
theorem dL_law_1727 : decode cL_law 1727 = .ok (.iload_n 3, 1) := dc_29 (lw_26 (j := 63) rfl (by decide +kernel))
theorem dL_law_1728 : decode cL_law 1728 = .ok (.iconst 2, 1) := dc_5 (lw_27 (j := 0) rfl (by decide +kernel))
theorem dL_law_1729 : decode cL_law 1729 = .ok (.iadd, 1) := dc_96 (lw_27 (j := 1) rfl (by decide +kernel))
theorem dL_law_1730 : decode cL_law 1730 = .ok (.iaload, 1) := dc_46 (lw_27 (j := 2) rfl (by decide +kernel))
theorem dL_law_1731 : decode cL_law 1731 = .ok (.invokevirtual 198, 3) := dc_182 (a := 0) (b := 198) (lw_27 (j := 3) rfl (by decide +kernel))
theorem dL_law_1734 : decode cL_law 1734 = .ok (.pop, 1) := dc_87 (lw_27 (j := 6) rfl (by decide +kernel))
theorem dL_law_1735 : decode cL_law 1735 = .ok (.aload_n 2, 1) := dc_44 (lw_27 (j := 7) rfl (by decide +kernel))
theorem dL_law_1736 : decode cL_law 1736 = .ok (.aload_n 0, 1) := dc_42 (lw_27 (j := 8) rfl (by decide +kernel))
theorem dL_law_1737 : decode cL_law 1737 = .ok (.iload_n 3, 1) := dc_29 (lw_27 (j := 9) rfl (by decide +kernel))
theorem dL_law_1738 : decode cL_law 1738 = .ok (.iconst 1, 1) := dc_4 (lw_27 (j := 10) rfl (by decide +kernel))
theorem dL_law_1739 : decode cL_law 1739 = .ok (.iadd, 1) := dc_96 (lw_27 (j := 11) rfl (by decide +kernel))
theorem dL_law_1740 : decode cL_law 1740 = .ok (.iaload, 1) := dc_46 (lw_27 (j := 12) rfl (by decide +kernel))
theorem dL_law_1741 : decode cL_law 1741 = .ok (.aload_n 0, 1) := dc_42 (lw_27 (j := 13) rfl (by decide +kernel))
theorem dL_law_1742 : decode cL_law 1742 = .ok (.iload_n 3, 1) := dc_29 (lw_27 (j := 14) rfl (by decide +kernel))
theorem dL_law_1743 : decode cL_law 1743 = .ok (.iconst 2, 1) := dc_5 (lw_27 (j := 15) rfl (by decide +kernel))
theorem dL_law_1744 : decode cL_law 1744 = .ok (.iadd, 1) := dc_96 (lw_27 (j := 16) rfl (by decide +kernel))
theorem dL_law_1745 : decode cL_law 1745 = .ok (.iaload, 1) := dc_46 (lw_27 (j := 17) rfl (by decide +kernel))
theorem dL_law_1746 : decode cL_law 1746 = .ok (.invokevirtual 201, 3) := dc_182 (a := 0) (b := 201) (lw_27 (j := 18) rfl (by decide +kernel))
theorem dL_law_1749 : decode cL_law 1749 = .ok (.pop, 1) := dc_87 (lw_27 (j := 21) rfl (by decide +kernel))
theorem dL_law_1750 : decode cL_law 1750 = .ok (.goto 213, 3) := dc_167 (a := 0) (b := 213) (lw_27 (j := 22) rfl (by decide +kernel)) (by decide)
theorem dL_law_1753 : decode cL_law 1753 = .ok (.aload_n 1, 1) := dc_43 (lw_27 (j := 25) rfl (by decide +kernel))
theorem dL_law_1754 : decode cL_law 1754 = .ok (.aload_n 0, 1) := dc_42 (lw_27 (j := 26) rfl (by decide +kernel))
theorem dL_law_1755 : decode cL_law 1755 = .ok (.iload_n 3, 1) := dc_29 (lw_27 (j := 27) rfl (by decide +kernel))
theorem dL_law_1756 : decode cL_law 1756 = .ok (.iconst 1, 1) := dc_4 (lw_27 (j := 28) rfl (by decide +kernel))
theorem dL_law_1757 : decode cL_law 1757 = .ok (.iadd, 1) := dc_96 (lw_27 (j := 29) rfl (by decide +kernel))
theorem dL_law_1758 : decode cL_law 1758 = .ok (.iaload, 1) := dc_46 (lw_27 (j := 30) rfl (by decide +kernel))
theorem dL_law_1759 : decode cL_law 1759 = .ok (.ifCond .eq 7, 3) := dc_153 (a := 0) (b := 7) (lw_27 (j := 31) rfl (by decide +kernel)) (by decide)
theorem dL_law_1762 : decode cL_law 1762 = .ok (.iconst 1, 1) := dc_4 (lw_27 (j := 34) rfl (by decide +kernel))
theorem dL_law_1763 : decode cL_law 1763 = .ok (.goto 4, 3) := dc_167 (a := 0) (b := 4) (lw_27 (j := 35) rfl (by decide +kernel)) (by decide)
theorem dL_law_1766 : decode cL_law 1766 = .ok (.iconst 0, 1) := dc_3 (lw_27 (j := 38) rfl (by decide +kernel))
theorem dL_law_1767 : decode cL_law 1767 = .ok (.aload_n 0, 1) := dc_42 (lw_27 (j := 39) rfl (by decide +kernel))
theorem dL_law_1768 : decode cL_law 1768 = .ok (.iload_n 3, 1) := dc_29 (lw_27 (j := 40) rfl (by decide +kernel))
theorem dL_law_1769 : decode cL_law 1769 = .ok (.iconst 2, 1) := dc_5 (lw_27 (j := 41) rfl (by decide +kernel))
theorem dL_law_1770 : decode cL_law 1770 = .ok (.iadd, 1) := dc_96 (lw_27 (j := 42) rfl (by decide +kernel))
theorem dL_law_1771 : decode cL_law 1771 = .ok (.iaload, 1) := dc_46 (lw_27 (j := 43) rfl (by decide +kernel))
theorem dL_law_1772 : decode cL_law 1772 = .ok (.aload_n 0, 1) := dc_42 (lw_27 (j := 44) rfl (by decide +kernel))
theorem dL_law_1773 : decode cL_law 1773 = .ok (.iload_n 3, 1) := dc_29 (lw_27 (j := 45) rfl (by decide +kernel))
theorem dL_law_1774 : decode cL_law 1774 = .ok (.iconst 3, 1) := dc_6 (lw_27 (j := 46) rfl (by decide +kernel))
theorem dL_law_1775 : decode cL_law 1775 = .ok (.iadd, 1) := dc_96 (lw_27 (j := 47) rfl (by decide +kernel))
theorem dL_law_1776 : decode cL_law 1776 = .ok (.iaload, 1) := dc_46 (lw_27 (j := 48) rfl (by decide +kernel))
theorem dL_law_1777 : decode cL_law 1777 = .ok (.invokevirtual 202, 3) := dc_182 (a := 0) (b := 202) (lw_27 (j := 49) rfl (by decide +kernel))
theorem dL_law_1780 : decode cL_law 1780 = .ok (.pop, 1) := dc_87 (lw_27 (j := 52) rfl (by decide +kernel))
theorem dL_law_1781 : decode cL_law 1781 = .ok (.aload_n 2, 1) := dc_44 (lw_27 (j := 53) rfl (by decide +kernel))
theorem dL_law_1782 : decode cL_law 1782 = .ok (.aload_n 0, 1) := dc_42 (lw_27 (j := 54) rfl (by decide +kernel))
theorem dL_law_1783 : decode cL_law 1783 = .ok (.iload_n 3, 1) := dc_29 (lw_27 (j := 55) rfl (by decide +kernel))
theorem dL_law_1784 : decode cL_law 1784 = .ok (.iconst 1, 1) := dc_4 (lw_27 (j := 56) rfl (by decide +kernel))
theorem dL_law_1785 : decode cL_law 1785 = .ok (.iadd, 1) := dc_96 (lw_27 (j := 57) rfl (by decide +kernel))
theorem dL_law_1786 : decode cL_law 1786 = .ok (.iaload, 1) := dc_46 (lw_27 (j := 58) rfl (by decide +kernel))
theorem dL_law_1787 : decode cL_law 1787 = .ok (.ifCond .eq 7, 3) := dc_153 (a := 0) (b := 7) (lw_27 (j := 59) rfl (by decide +kernel)) (by decide)
theorem dL_law_1790 : decode cL_law 1790 = .ok (.iconst 1, 1) := dc_4 (lw_27 (j := 62) rfl (by decide +kernel))
theorem dL_law_1791 : decode cL_law 1791 = .ok (.goto 4, 3) := dc_167 (a := 0) (b := 4) (lw_27 (j := 63) rfl (by decide +kernel)) (by decide)
theorem dL_law_1794 : decode cL_law 1794 = .ok (.iconst 0, 1) := dc_3 (lw_28 (j := 2) rfl (by decide +kernel))
theorem dL_law_1795 : decode cL_law 1795 = .ok (.aload_n 0, 1) := dc_42 (lw_28 (j := 3) rfl (by decide +kernel))
theorem dL_law_1796 : decode cL_law 1796 = .ok (.iload_n 3, 1) := dc_29 (lw_28 (j := 4) rfl (by decide +kernel))
theorem dL_law_1797 : decode cL_law 1797 = .ok (.iconst 2, 1) := dc_5 (lw_28 (j := 5) rfl (by decide +kernel))
theorem dL_law_1798 : decode cL_law 1798 = .ok (.iadd, 1) := dc_96 (lw_28 (j := 6) rfl (by decide +kernel))
theorem dL_law_1799 : decode cL_law 1799 = .ok (.iaload, 1) := dc_46 (lw_28 (j := 7) rfl (by decide +kernel))
theorem dL_law_1800 : decode cL_law 1800 = .ok (.aload_n 0, 1) := dc_42 (lw_28 (j := 8) rfl (by decide +kernel))
theorem dL_law_1801 : decode cL_law 1801 = .ok (.iload_n 3, 1) := dc_29 (lw_28 (j := 9) rfl (by decide +kernel))
theorem dL_law_1802 : decode cL_law 1802 = .ok (.iconst 3, 1) := dc_6 (lw_28 (j := 10) rfl (by decide +kernel))
theorem dL_law_1803 : decode cL_law 1803 = .ok (.iadd, 1) := dc_96 (lw_28 (j := 11) rfl (by decide +kernel))
theorem dL_law_1804 : decode cL_law 1804 = .ok (.iaload, 1) := dc_46 (lw_28 (j := 12) rfl (by decide +kernel))
theorem dL_law_1805 : decode cL_law 1805 = .ok (.invokevirtual 206, 3) := dc_182 (a := 0) (b := 206) (lw_28 (j := 13) rfl (by decide +kernel))
theorem dL_law_1808 : decode cL_law 1808 = .ok (.pop, 1) := dc_87 (lw_28 (j := 16) rfl (by decide +kernel))
theorem dL_law_1809 : decode cL_law 1809 = .ok (.goto 154, 3) := dc_167 (a := 0) (b := 154) (lw_28 (j := 17) rfl (by decide +kernel)) (by decide)
theorem dL_law_1812 : decode cL_law 1812 = .ok (.aload_n 1, 1) := dc_43 (lw_28 (j := 20) rfl (by decide +kernel))
theorem dL_law_1813 : decode cL_law 1813 = .ok (.invokevirtual 207, 3) := dc_182 (a := 0) (b := 207) (lw_28 (j := 21) rfl (by decide +kernel))
theorem dL_law_1816 : decode cL_law 1816 = .ok (.pop, 1) := dc_87 (lw_28 (j := 24) rfl (by decide +kernel))
theorem dL_law_1817 : decode cL_law 1817 = .ok (.aload_n 2, 1) := dc_44 (lw_28 (j := 25) rfl (by decide +kernel))
theorem dL_law_1818 : decode cL_law 1818 = .ok (.invokevirtual 210, 3) := dc_182 (a := 0) (b := 210) (lw_28 (j := 26) rfl (by decide +kernel))
theorem dL_law_1821 : decode cL_law 1821 = .ok (.pop, 1) := dc_87 (lw_28 (j := 29) rfl (by decide +kernel))
theorem dL_law_1822 : decode cL_law 1822 = .ok (.goto 141, 3) := dc_167 (a := 0) (b := 141) (lw_28 (j := 30) rfl (by decide +kernel)) (by decide)
theorem dL_law_1848 : decode cL_law 1848 = .ok (.aload_n 1, 1) := dc_43 (lw_28 (j := 56) rfl (by decide +kernel))
theorem dL_law_1849 : decode cL_law 1849 = .ok (.aload_n 0, 1) := dc_42 (lw_28 (j := 57) rfl (by decide +kernel))
theorem dL_law_1850 : decode cL_law 1850 = .ok (.iload_n 3, 1) := dc_29 (lw_28 (j := 58) rfl (by decide +kernel))
theorem dL_law_1851 : decode cL_law 1851 = .ok (.iconst 1, 1) := dc_4 (lw_28 (j := 59) rfl (by decide +kernel))
theorem dL_law_1852 : decode cL_law 1852 = .ok (.iadd, 1) := dc_96 (lw_28 (j := 60) rfl (by decide +kernel))
theorem dL_law_1853 : decode cL_law 1853 = .ok (.iaload, 1) := dc_46 (lw_28 (j := 61) rfl (by decide +kernel))
theorem dL_law_1854 : decode cL_law 1854 = .ok (.aload_n 0, 1) := dc_42 (lw_28 (j := 62) rfl (by decide +kernel))
theorem dL_law_1855 : decode cL_law 1855 = .ok (.iload_n 3, 1) := dc_29 (lw_28 (j := 63) rfl (by decide +kernel))
theorem dL_law_1856 : decode cL_law 1856 = .ok (.iconst 2, 1) := dc_5 (lw_29 (j := 0) rfl (by decide +kernel))
theorem dL_law_1857 : decode cL_law 1857 = .ok (.iadd, 1) := dc_96 (lw_29 (j := 1) rfl (by decide +kernel))
theorem dL_law_1858 : decode cL_law 1858 = .ok (.iaload, 1) := dc_46 (lw_29 (j := 2) rfl (by decide +kernel))
theorem dL_law_1859 : decode cL_law 1859 = .ok (.invokevirtual 215, 3) := dc_182 (a := 0) (b := 215) (lw_29 (j := 3) rfl (by decide +kernel))
theorem dL_law_1862 : decode cL_law 1862 = .ok (.pop, 1) := dc_87 (lw_29 (j := 6) rfl (by decide +kernel))
theorem dL_law_1863 : decode cL_law 1863 = .ok (.aload_n 2, 1) := dc_44 (lw_29 (j := 7) rfl (by decide +kernel))
theorem dL_law_1864 : decode cL_law 1864 = .ok (.aload_n 0, 1) := dc_42 (lw_29 (j := 8) rfl (by decide +kernel))
theorem dL_law_1865 : decode cL_law 1865 = .ok (.iload_n 3, 1) := dc_29 (lw_29 (j := 9) rfl (by decide +kernel))
theorem dL_law_1866 : decode cL_law 1866 = .ok (.iconst 1, 1) := dc_4 (lw_29 (j := 10) rfl (by decide +kernel))
theorem dL_law_1867 : decode cL_law 1867 = .ok (.iadd, 1) := dc_96 (lw_29 (j := 11) rfl (by decide +kernel))
theorem dL_law_1868 : decode cL_law 1868 = .ok (.iaload, 1) := dc_46 (lw_29 (j := 12) rfl (by decide +kernel))
theorem dL_law_1869 : decode cL_law 1869 = .ok (.aload_n 0, 1) := dc_42 (lw_29 (j := 13) rfl (by decide +kernel))
theorem dL_law_1870 : decode cL_law 1870 = .ok (.iload_n 3, 1) := dc_29 (lw_29 (j := 14) rfl (by decide +kernel))
theorem dL_law_1871 : decode cL_law 1871 = .ok (.iconst 2, 1) := dc_5 (lw_29 (j := 15) rfl (by decide +kernel))
theorem dL_law_1872 : decode cL_law 1872 = .ok (.iadd, 1) := dc_96 (lw_29 (j := 16) rfl (by decide +kernel))
theorem dL_law_1873 : decode cL_law 1873 = .ok (.iaload, 1) := dc_46 (lw_29 (j := 17) rfl (by decide +kernel))
theorem dL_law_1874 : decode cL_law 1874 = .ok (.invokevirtual 218, 3) := dc_182 (a := 0) (b := 218) (lw_29 (j := 18) rfl (by decide +kernel))
theorem dL_law_1877 : decode cL_law 1877 = .ok (.pop, 1) := dc_87 (lw_29 (j := 21) rfl (by decide +kernel))
theorem dL_law_1878 : decode cL_law 1878 = .ok (.goto 85, 3) := dc_167 (a := 0) (b := 85) (lw_29 (j := 22) rfl (by decide +kernel)) (by decide)
theorem dL_law_1881 : decode cL_law 1881 = .ok (.aload_n 1, 1) := dc_43 (lw_29 (j := 25) rfl (by decide +kernel))
theorem dL_law_1882 : decode cL_law 1882 = .ok (.invokevirtual 219, 3) := dc_182 (a := 0) (b := 219) (lw_29 (j := 26) rfl (by decide +kernel))
theorem dL_law_1885 : decode cL_law 1885 = .ok (.pop, 1) := dc_87 (lw_29 (j := 29) rfl (by decide +kernel))
theorem dL_law_1886 : decode cL_law 1886 = .ok (.aload_n 2, 1) := dc_44 (lw_29 (j := 30) rfl (by decide +kernel))
theorem dL_law_1887 : decode cL_law 1887 = .ok (.invokevirtual 222, 3) := dc_182 (a := 0) (b := 222) (lw_29 (j := 31) rfl (by decide +kernel))
theorem dL_law_1890 : decode cL_law 1890 = .ok (.pop, 1) := dc_87 (lw_29 (j := 34) rfl (by decide +kernel))
theorem dL_law_1891 : decode cL_law 1891 = .ok (.goto 72, 3) := dc_167 (a := 0) (b := 72) (lw_29 (j := 35) rfl (by decide +kernel)) (by decide)
theorem dL_law_1894 : decode cL_law 1894 = .ok (.aload_n 1, 1) := dc_43 (lw_29 (j := 38) rfl (by decide +kernel))
theorem dL_law_1895 : decode cL_law 1895 = .ok (.aload_n 0, 1) := dc_42 (lw_29 (j := 39) rfl (by decide +kernel))
theorem dL_law_1896 : decode cL_law 1896 = .ok (.iload_n 3, 1) := dc_29 (lw_29 (j := 40) rfl (by decide +kernel))
theorem dL_law_1897 : decode cL_law 1897 = .ok (.iconst 1, 1) := dc_4 (lw_29 (j := 41) rfl (by decide +kernel))
theorem dL_law_1898 : decode cL_law 1898 = .ok (.iadd, 1) := dc_96 (lw_29 (j := 42) rfl (by decide +kernel))
theorem dL_law_1899 : decode cL_law 1899 = .ok (.iaload, 1) := dc_46 (lw_29 (j := 43) rfl (by decide +kernel))
theorem dL_law_1900 : decode cL_law 1900 = .ok (.invokevirtual 223, 3) := dc_182 (a := 0) (b := 223) (lw_29 (j := 44) rfl (by decide +kernel))
theorem dL_law_1903 : decode cL_law 1903 = .ok (.pop, 1) := dc_87 (lw_29 (j := 47) rfl (by decide +kernel))
theorem dL_law_1904 : decode cL_law 1904 = .ok (.aload_n 2, 1) := dc_44 (lw_29 (j := 48) rfl (by decide +kernel))
theorem dL_law_1905 : decode cL_law 1905 = .ok (.aload_n 0, 1) := dc_42 (lw_29 (j := 49) rfl (by decide +kernel))
theorem dL_law_1906 : decode cL_law 1906 = .ok (.iload_n 3, 1) := dc_29 (lw_29 (j := 50) rfl (by decide +kernel))
theorem dL_law_1907 : decode cL_law 1907 = .ok (.iconst 1, 1) := dc_4 (lw_29 (j := 51) rfl (by decide +kernel))
theorem dL_law_1908 : decode cL_law 1908 = .ok (.iadd, 1) := dc_96 (lw_29 (j := 52) rfl (by decide +kernel))
theorem dL_law_1909 : decode cL_law 1909 = .ok (.iaload, 1) := dc_46 (lw_29 (j := 53) rfl (by decide +kernel))
theorem dL_law_1910 : decode cL_law 1910 = .ok (.invokevirtual 226, 3) := dc_182 (a := 0) (b := 226) (lw_29 (j := 54) rfl (by decide +kernel))
theorem dL_law_1913 : decode cL_law 1913 = .ok (.pop, 1) := dc_87 (lw_29 (j := 57) rfl (by decide +kernel))
theorem dL_law_1914 : decode cL_law 1914 = .ok (.goto 49, 3) := dc_167 (a := 0) (b := 49) (lw_29 (j := 58) rfl (by decide +kernel)) (by decide)
theorem dL_law_1917 : decode cL_law 1917 = .ok (.aload_n 1, 1) := dc_43 (lw_29 (j := 61) rfl (by decide +kernel))
theorem dL_law_1918 : decode cL_law 1918 = .ok (.aload_n 0, 1) := dc_42 (lw_29 (j := 62) rfl (by decide +kernel))
theorem dL_law_1919 : decode cL_law 1919 = .ok (.iload_n 3, 1) := dc_29 (lw_29 (j := 63) rfl (by decide +kernel))
theorem dL_law_1920 : decode cL_law 1920 = .ok (.iconst 1, 1) := dc_4 (lw_30 (j := 0) rfl (by decide +kernel))
theorem dL_law_1921 : decode cL_law 1921 = .ok (.iadd, 1) := dc_96 (lw_30 (j := 1) rfl (by decide +kernel))
theorem dL_law_1922 : decode cL_law 1922 = .ok (.iaload, 1) := dc_46 (lw_30 (j := 2) rfl (by decide +kernel))
theorem dL_law_1923 : decode cL_law 1923 = .ok (.aload_n 0, 1) := dc_42 (lw_30 (j := 3) rfl (by decide +kernel))
theorem dL_law_1924 : decode cL_law 1924 = .ok (.iload_n 3, 1) := dc_29 (lw_30 (j := 4) rfl (by decide +kernel))
theorem dL_law_1925 : decode cL_law 1925 = .ok (.iconst 2, 1) := dc_5 (lw_30 (j := 5) rfl (by decide +kernel))
theorem dL_law_1926 : decode cL_law 1926 = .ok (.iadd, 1) := dc_96 (lw_30 (j := 6) rfl (by decide +kernel))
theorem dL_law_1927 : decode cL_law 1927 = .ok (.iaload, 1) := dc_46 (lw_30 (j := 7) rfl (by decide +kernel))
theorem dL_law_1928 : decode cL_law 1928 = .ok (.invokevirtual 227, 3) := dc_182 (a := 0) (b := 227) (lw_30 (j := 8) rfl (by decide +kernel))
theorem dL_law_1931 : decode cL_law 1931 = .ok (.pop, 1) := dc_87 (lw_30 (j := 11) rfl (by decide +kernel))
theorem dL_law_1932 : decode cL_law 1932 = .ok (.aload_n 2, 1) := dc_44 (lw_30 (j := 12) rfl (by decide +kernel))
theorem dL_law_1933 : decode cL_law 1933 = .ok (.aload_n 0, 1) := dc_42 (lw_30 (j := 13) rfl (by decide +kernel))
theorem dL_law_1934 : decode cL_law 1934 = .ok (.iload_n 3, 1) := dc_29 (lw_30 (j := 14) rfl (by decide +kernel))
theorem dL_law_1935 : decode cL_law 1935 = .ok (.iconst 1, 1) := dc_4 (lw_30 (j := 15) rfl (by decide +kernel))
theorem dL_law_1936 : decode cL_law 1936 = .ok (.iadd, 1) := dc_96 (lw_30 (j := 16) rfl (by decide +kernel))
theorem dL_law_1937 : decode cL_law 1937 = .ok (.iaload, 1) := dc_46 (lw_30 (j := 17) rfl (by decide +kernel))
theorem dL_law_1938 : decode cL_law 1938 = .ok (.aload_n 0, 1) := dc_42 (lw_30 (j := 18) rfl (by decide +kernel))
theorem dL_law_1939 : decode cL_law 1939 = .ok (.iload_n 3, 1) := dc_29 (lw_30 (j := 19) rfl (by decide +kernel))
theorem dL_law_1940 : decode cL_law 1940 = .ok (.iconst 2, 1) := dc_5 (lw_30 (j := 20) rfl (by decide +kernel))
theorem dL_law_1941 : decode cL_law 1941 = .ok (.iadd, 1) := dc_96 (lw_30 (j := 21) rfl (by decide +kernel))
theorem dL_law_1942 : decode cL_law 1942 = .ok (.iaload, 1) := dc_46 (lw_30 (j := 22) rfl (by decide +kernel))
theorem dL_law_1943 : decode cL_law 1943 = .ok (.invokevirtual 230, 3) := dc_182 (a := 0) (b := 230) (lw_30 (j := 23) rfl (by decide +kernel))
theorem dL_law_1946 : decode cL_law 1946 = .ok (.pop, 1) := dc_87 (lw_30 (j := 26) rfl (by decide +kernel))
theorem dL_law_1947 : decode cL_law 1947 = .ok (.goto 16, 3) := dc_167 (a := 0) (b := 16) (lw_30 (j := 27) rfl (by decide +kernel)) (by decide)
theorem dL_law_1950 : decode cL_law 1950 = .ok (.aload_n 1, 1) := dc_43 (lw_30 (j := 30) rfl (by decide +kernel))
theorem dL_law_1951 : decode cL_law 1951 = .ok (.invokevirtual 231, 3) := dc_182 (a := 0) (b := 231) (lw_30 (j := 31) rfl (by decide +kernel))
theorem dL_law_1954 : decode cL_law 1954 = .ok (.pop, 1) := dc_87 (lw_30 (j := 34) rfl (by decide +kernel))
theorem dL_law_1955 : decode cL_law 1955 = .ok (.aload_n 2, 1) := dc_44 (lw_30 (j := 35) rfl (by decide +kernel))
theorem dL_law_1956 : decode cL_law 1956 = .ok (.invokevirtual 234, 3) := dc_182 (a := 0) (b := 234) (lw_30 (j := 36) rfl (by decide +kernel))
theorem dL_law_1959 : decode cL_law 1959 = .ok (.pop, 1) := dc_87 (lw_30 (j := 39) rfl (by decide +kernel))
theorem dL_law_1960 : decode cL_law 1960 = .ok (.goto 3, 3) := dc_167 (a := 0) (b := 3) (lw_30 (j := 40) rfl (by decide +kernel)) (by decide)
section LWC
variable {p : Program} {l : Launch} {e : Env} {R : Room} {s : State} {m : MethodId} {args : Array Value} {below : List Frame} {meth : Method} {c : Code} {H : Heap} {locs : List Loc} {Q : State → Prop} {rt : Option FieldType} {ls : Array Slot} {dC : Nat → ClassId} {dI : Nat → Nat → Nat} {cs : Nat → ClassId} {ad : Nat → Nat} {A : Nat → Prop} {D0 : Nat → Nat} {cells slots b L i : Nat} {xs : Nat → Int32}
set_option maxRecDepth 100000 in
set_option maxHeartbeats 4000000 in
theorem lc_0 (F : Fx p s m args meth c cL_law 4 RL rt dC dI cs A) (hX : va_X b L xs s s.heap) (hbl : b < s.heap.size) (hbA : ¬ A b) (hR1 : 8 ≤ R.frames) (hR2 : 340 ≤ R.locals) (hcs : cells ≤ R.cells ∧ slots ≤ R.slots) {S S1 S2 : SS} {r1 r2 : Int32} (hi : i + 6 ≤ L) (hL : L ≤ 3072) (w : Wo dC dI cs ad A s.heap D0 S H locs) (hl : lv_has ls 4 [(0, .ref b), (1, .ref (ad 61)), (2, .ref (ad 0)), (3, .int (nI i))]) (h1 : f_Yard_track (xs (i + 1)) S = some (r1, S1)) (h2 : f_M_track (xs (i + 1)) S1 = some (r2, S2))
    (kk : ∀ (H : Heap) (locs : List Loc), Wo dC dI cs ad A s.heap D0 S2 H locs → W p l e R s m args below meth c H locs cells slots Q (F0 m 1963 ls [])) : W p l e R s m args below meth c H locs cells slots Q (F0 m 260 ls []) := by
  have hx := F.1.1
  have hb := F.1.2.1
  refine lv_aload_n (pc := 260) hx hb dL_law_260 rfl (lv_at hl 1 rfl) ?_
  refine lv_aload_n (pc := 261) hx hb dL_law_261 rfl (lv_at hl 0 rfl) ?_
  refine lv_iload_n (pc := 262) hx hb dL_law_262 rfl (lv_at hl 3 rfl) ?_
  refine lv_iconst (pc := 263) (v := 1) hx hb dL_law_263 (by decide) ?_
  refine lv_iadd (pc := 264) hx hb dL_law_264 ?_
  rw [show nI i + (1 : Int32) = nI (i + 1) from nI_add i 1]
  refine va_sld (pc := 265) hx hb hX hbl hbA w.2.2.1 (vp_in_nI (show i + 1 < L by omega) (by omega)) dL_law_265 ?_
  rw [nI_clamp (show i + 1 < 2 ^ 31 by omega)]
  refine s_cvi (pc := 266) [.int (xs (i + 1))] (fun ad => [.ref (ad 61), .int (xs (i + 1))]) F w (m_Yard_track _ _ _ _ h1) rfl rfl hl.1 ds_61 vc_X11 rfl ok_X11_track rfl kc_X11_track kl_L_13 ki_X11_track kv_X11_track kn_X11 ⟨Nat.le_trans (by decide) hR1, Nat.le_trans (by decide) hR2⟩ hcs (Nat.le_of_ble_eq_true rfl) dL_law_266 (fun H locs w => ?_)
  refine lv_pop (pc := 269) hx hb dL_law_269 rfl ?_
  refine lv_aload_n (pc := 270) hx hb dL_law_270 rfl (lv_at hl 2 rfl) ?_
  refine lv_aload_n (pc := 271) hx hb dL_law_271 rfl (lv_at hl 0 rfl) ?_
  refine lv_iload_n (pc := 272) hx hb dL_law_272 rfl (lv_at hl 3 rfl) ?_
  refine lv_iconst (pc := 273) (v := 1) hx hb dL_law_273 (by decide) ?_
  refine lv_iadd (pc := 274) hx hb dL_law_274 ?_
  rw [show nI i + (1 : Int32) = nI (i + 1) from nI_add i 1]
  refine va_sld (pc := 275) hx hb hX hbl hbA w.2.2.1 (vp_in_nI (show i + 1 < L by omega) (by omega)) dL_law_275 ?_
  rw [nI_clamp (show i + 1 < 2 ^ 31 by omega)]
  refine s_cvi (pc := 276) [.int (xs (i + 1))] (fun ad => [.ref (ad 0), .int (xs (i + 1))]) F w (m_M_track _ _ _ _ h2) rfl rfl hl.1 ds_0 vc_X12 rfl ok_X12_track rfl kc_X12_track kl_L_17 ki_X12_track kv_X12_track kn_X12 ⟨Nat.le_trans (by decide) hR1, Nat.le_trans (by decide) hR2⟩ hcs (Nat.le_of_ble_eq_true rfl) dL_law_276 (fun H locs w => ?_)
  refine lv_pop (pc := 279) hx hb dL_law_279 rfl ?_
  refine lv_goto (pc := 280) (tgt := 1963) hx hb dL_law_280 (by decide) ?_
  exact kk H locs w
set_option maxRecDepth 100000 in
set_option maxHeartbeats 4000000 in
theorem lc_1 (F : Fx p s m args meth c cL_law 4 RL rt dC dI cs A) (hX : va_X b L xs s s.heap) (hbl : b < s.heap.size) (hbA : ¬ A b) (hR1 : 8 ≤ R.frames) (hR2 : 340 ≤ R.locals) (hcs : cells ≤ R.cells ∧ slots ≤ R.slots) {S S1 S2 : SS} {r1 r2 : Int32} (hi : i + 6 ≤ L) (hL : L ≤ 3072) (w : Wo dC dI cs ad A s.heap D0 S H locs) (hl : lv_has ls 4 [(0, .ref b), (1, .ref (ad 61)), (2, .ref (ad 0)), (3, .int (nI i))]) (h1 : f_Yard_point (xs (i + 1)) (xs (i + 2)) S = some (r1, S1)) (h2 : f_M_point (xs (i + 1)) (xs (i + 2)) S1 = some (r2, S2))
    (kk : ∀ (H : Heap) (locs : List Loc), Wo dC dI cs ad A s.heap D0 S2 H locs → W p l e R s m args below meth c H locs cells slots Q (F0 m 1963 ls [])) : W p l e R s m args below meth c H locs cells slots Q (F0 m 283 ls []) := by
  have hx := F.1.1
  have hb := F.1.2.1
  refine lv_aload_n (pc := 283) hx hb dL_law_283 rfl (lv_at hl 1 rfl) ?_
  refine lv_aload_n (pc := 284) hx hb dL_law_284 rfl (lv_at hl 0 rfl) ?_
  refine lv_iload_n (pc := 285) hx hb dL_law_285 rfl (lv_at hl 3 rfl) ?_
  refine lv_iconst (pc := 286) (v := 1) hx hb dL_law_286 (by decide) ?_
  refine lv_iadd (pc := 287) hx hb dL_law_287 ?_
  rw [show nI i + (1 : Int32) = nI (i + 1) from nI_add i 1]
  refine va_sld (pc := 288) hx hb hX hbl hbA w.2.2.1 (vp_in_nI (show i + 1 < L by omega) (by omega)) dL_law_288 ?_
  rw [nI_clamp (show i + 1 < 2 ^ 31 by omega)]
  refine lv_aload_n (pc := 289) hx hb dL_law_289 rfl (lv_at hl 0 rfl) ?_
  refine lv_iload_n (pc := 290) hx hb dL_law_290 rfl (lv_at hl 3 rfl) ?_
  refine lv_iconst (pc := 291) (v := 2) hx hb dL_law_291 (by decide) ?_
  refine lv_iadd (pc := 292) hx hb dL_law_292 ?_
  rw [show nI i + (2 : Int32) = nI (i + 2) from nI_add i 2]
  refine va_sld (pc := 293) hx hb hX hbl hbA w.2.2.1 (vp_in_nI (show i + 2 < L by omega) (by omega)) dL_law_293 ?_
  rw [nI_clamp (show i + 2 < 2 ^ 31 by omega)]
  refine s_cvi (pc := 294) [.int (xs (i + 1)), .int (xs (i + 2))] (fun ad => [.ref (ad 61), .int (xs (i + 1)), .int (xs (i + 2))]) F w (m_Yard_point _ _ _ _ _ h1) rfl rfl hl.1 ds_61 vc_X11 rfl ok_X11_point rfl kc_X11_point kl_L_18 ki_X11_point kv_X11_point kn_X11 ⟨Nat.le_trans (by decide) hR1, Nat.le_trans (by decide) hR2⟩ hcs (Nat.le_of_ble_eq_true rfl) dL_law_294 (fun H locs w => ?_)
  refine lv_pop (pc := 297) hx hb dL_law_297 rfl ?_
  refine lv_aload_n (pc := 298) hx hb dL_law_298 rfl (lv_at hl 2 rfl) ?_
  refine lv_aload_n (pc := 299) hx hb dL_law_299 rfl (lv_at hl 0 rfl) ?_
  refine lv_iload_n (pc := 300) hx hb dL_law_300 rfl (lv_at hl 3 rfl) ?_
  refine lv_iconst (pc := 301) (v := 1) hx hb dL_law_301 (by decide) ?_
  refine lv_iadd (pc := 302) hx hb dL_law_302 ?_
  rw [show nI i + (1 : Int32) = nI (i + 1) from nI_add i 1]
  refine va_sld (pc := 303) hx hb hX hbl hbA w.2.2.1 (vp_in_nI (show i + 1 < L by omega) (by omega)) dL_law_303 ?_
  rw [nI_clamp (show i + 1 < 2 ^ 31 by omega)]
  refine lv_aload_n (pc := 304) hx hb dL_law_304 rfl (lv_at hl 0 rfl) ?_
  refine lv_iload_n (pc := 305) hx hb dL_law_305 rfl (lv_at hl 3 rfl) ?_
  refine lv_iconst (pc := 306) (v := 2) hx hb dL_law_306 (by decide) ?_
  refine lv_iadd (pc := 307) hx hb dL_law_307 ?_
  rw [show nI i + (2 : Int32) = nI (i + 2) from nI_add i 2]
  refine va_sld (pc := 308) hx hb hX hbl hbA w.2.2.1 (vp_in_nI (show i + 2 < L by omega) (by omega)) dL_law_308 ?_
  rw [nI_clamp (show i + 2 < 2 ^ 31 by omega)]
  refine s_cvi (pc := 309) [.int (xs (i + 1)), .int (xs (i + 2))] (fun ad => [.ref (ad 0), .int (xs (i + 1)), .int (xs (i + 2))]) F w (m_M_point _ _ _ _ _ h2) rfl rfl hl.1 ds_0 vc_X12 rfl ok_X12_point rfl kc_X12_point kl_L_22 ki_X12_point kv_X12_point kn_X12 ⟨Nat.le_trans (by decide) hR1, Nat.le_trans (by decide) hR2⟩ hcs (Nat.le_of_ble_eq_true rfl) dL_law_309 (fun H locs w => ?_)
  refine lv_pop (pc := 312) hx hb dL_law_312 rfl ?_
  refine lv_goto (pc := 313) (tgt := 1963) hx hb dL_law_313 (by decide) ?_
  exact kk H locs w
set_option maxRecDepth 100000 in
set_option maxHeartbeats 4000000 in
theorem lc_2 (F : Fx p s m args meth c cL_law 4 RL rt dC dI cs A) (hX : va_X b L xs s s.heap) (hbl : b < s.heap.size) (hbA : ¬ A b) (hR1 : 8 ≤ R.frames) (hR2 : 340 ≤ R.locals) (hcs : cells ≤ R.cells ∧ slots ≤ R.slots) {S S1 S2 : SS} {r1 r2 : Int32} (hi : i + 6 ≤ L) (hL : L ≤ 3072) (w : Wo dC dI cs ad A s.heap D0 S H locs) (hl : lv_has ls 4 [(0, .ref b), (1, .ref (ad 61)), (2, .ref (ad 0)), (3, .int (nI i))]) (h1 : f_Yard_link (xs (i + 1)) (xs (i + 2)) (xs (i + 3)) (xs (i + 4)) S = some (r1, S1)) (h2 : f_M_link (xs (i + 1)) (xs (i + 2)) (xs (i + 3)) (xs (i + 4)) S1 = some (r2, S2))
    (kk : ∀ (H : Heap) (locs : List Loc), Wo dC dI cs ad A s.heap D0 S2 H locs → W p l e R s m args below meth c H locs cells slots Q (F0 m 1963 ls [])) : W p l e R s m args below meth c H locs cells slots Q (F0 m 316 ls []) := by
  have hx := F.1.1
  have hb := F.1.2.1
  refine lv_aload_n (pc := 316) hx hb dL_law_316 rfl (lv_at hl 1 rfl) ?_
  refine lv_aload_n (pc := 317) hx hb dL_law_317 rfl (lv_at hl 0 rfl) ?_
  refine lv_iload_n (pc := 318) hx hb dL_law_318 rfl (lv_at hl 3 rfl) ?_
  refine lv_iconst (pc := 319) (v := 1) hx hb dL_law_319 (by decide) ?_
  refine lv_iadd (pc := 320) hx hb dL_law_320 ?_
  rw [show nI i + (1 : Int32) = nI (i + 1) from nI_add i 1]
  refine va_sld (pc := 321) hx hb hX hbl hbA w.2.2.1 (vp_in_nI (show i + 1 < L by omega) (by omega)) dL_law_321 ?_
  rw [nI_clamp (show i + 1 < 2 ^ 31 by omega)]
  refine lv_aload_n (pc := 322) hx hb dL_law_322 rfl (lv_at hl 0 rfl) ?_
  refine lv_iload_n (pc := 323) hx hb dL_law_323 rfl (lv_at hl 3 rfl) ?_
  refine lv_iconst (pc := 324) (v := 2) hx hb dL_law_324 (by decide) ?_
  refine lv_iadd (pc := 325) hx hb dL_law_325 ?_
  rw [show nI i + (2 : Int32) = nI (i + 2) from nI_add i 2]
  refine va_sld (pc := 326) hx hb hX hbl hbA w.2.2.1 (vp_in_nI (show i + 2 < L by omega) (by omega)) dL_law_326 ?_
  rw [nI_clamp (show i + 2 < 2 ^ 31 by omega)]
  refine lv_aload_n (pc := 327) hx hb dL_law_327 rfl (lv_at hl 0 rfl) ?_
  refine lv_iload_n (pc := 328) hx hb dL_law_328 rfl (lv_at hl 3 rfl) ?_
  refine lv_iconst (pc := 329) (v := 3) hx hb dL_law_329 (by decide) ?_
  refine lv_iadd (pc := 330) hx hb dL_law_330 ?_
  rw [show nI i + (3 : Int32) = nI (i + 3) from nI_add i 3]
  refine va_sld (pc := 331) hx hb hX hbl hbA w.2.2.1 (vp_in_nI (show i + 3 < L by omega) (by omega)) dL_law_331 ?_
  rw [nI_clamp (show i + 3 < 2 ^ 31 by omega)]
  refine lv_aload_n (pc := 332) hx hb dL_law_332 rfl (lv_at hl 0 rfl) ?_
  refine lv_iload_n (pc := 333) hx hb dL_law_333 rfl (lv_at hl 3 rfl) ?_
  refine lv_iconst (pc := 334) (v := 4) hx hb dL_law_334 (by decide) ?_
  refine lv_iadd (pc := 335) hx hb dL_law_335 ?_
  rw [show nI i + (4 : Int32) = nI (i + 4) from nI_add i 4]
  refine va_sld (pc := 336) hx hb hX hbl hbA w.2.2.1 (vp_in_nI (show i + 4 < L by omega) (by omega)) dL_law_336 ?_
  rw [nI_clamp (show i + 4 < 2 ^ 31 by omega)]
  refine s_cvi (pc := 337) [.int (xs (i + 1)), .int (xs (i + 2)), .int (xs (i + 3)), .int (xs (i + 4))] (fun ad => [.ref (ad 61), .int (xs (i + 1)), .int (xs (i + 2)), .int (xs (i + 3)), .int (xs (i + 4))]) F w (m_Yard_link _ _ _ _ _ _ _ h1) rfl rfl hl.1 ds_61 vc_X11 rfl ok_X11_link rfl kc_X11_link kl_L_23 ki_X11_link kv_X11_link kn_X11 ⟨Nat.le_trans (by decide) hR1, Nat.le_trans (by decide) hR2⟩ hcs (Nat.le_of_ble_eq_true rfl) dL_law_337 (fun H locs w => ?_)
  refine lv_pop (pc := 340) hx hb dL_law_340 rfl ?_
  refine lv_aload_n (pc := 341) hx hb dL_law_341 rfl (lv_at hl 2 rfl) ?_
  refine lv_aload_n (pc := 342) hx hb dL_law_342 rfl (lv_at hl 0 rfl) ?_
  refine lv_iload_n (pc := 343) hx hb dL_law_343 rfl (lv_at hl 3 rfl) ?_
  refine lv_iconst (pc := 344) (v := 1) hx hb dL_law_344 (by decide) ?_
  refine lv_iadd (pc := 345) hx hb dL_law_345 ?_
  rw [show nI i + (1 : Int32) = nI (i + 1) from nI_add i 1]
  refine va_sld (pc := 346) hx hb hX hbl hbA w.2.2.1 (vp_in_nI (show i + 1 < L by omega) (by omega)) dL_law_346 ?_
  rw [nI_clamp (show i + 1 < 2 ^ 31 by omega)]
  refine lv_aload_n (pc := 347) hx hb dL_law_347 rfl (lv_at hl 0 rfl) ?_
  refine lv_iload_n (pc := 348) hx hb dL_law_348 rfl (lv_at hl 3 rfl) ?_
  refine lv_iconst (pc := 349) (v := 2) hx hb dL_law_349 (by decide) ?_
  refine lv_iadd (pc := 350) hx hb dL_law_350 ?_
  rw [show nI i + (2 : Int32) = nI (i + 2) from nI_add i 2]
  refine va_sld (pc := 351) hx hb hX hbl hbA w.2.2.1 (vp_in_nI (show i + 2 < L by omega) (by omega)) dL_law_351 ?_
  rw [nI_clamp (show i + 2 < 2 ^ 31 by omega)]
  refine lv_aload_n (pc := 352) hx hb dL_law_352 rfl (lv_at hl 0 rfl) ?_
  refine lv_iload_n (pc := 353) hx hb dL_law_353 rfl (lv_at hl 3 rfl) ?_
  refine lv_iconst (pc := 354) (v := 3) hx hb dL_law_354 (by decide) ?_
  refine lv_iadd (pc := 355) hx hb dL_law_355 ?_
  rw [show nI i + (3 : Int32) = nI (i + 3) from nI_add i 3]
  refine va_sld (pc := 356) hx hb hX hbl hbA w.2.2.1 (vp_in_nI (show i + 3 < L by omega) (by omega)) dL_law_356 ?_
  rw [nI_clamp (show i + 3 < 2 ^ 31 by omega)]
  refine lv_aload_n (pc := 357) hx hb dL_law_357 rfl (lv_at hl 0 rfl) ?_
  refine lv_iload_n (pc := 358) hx hb dL_law_358 rfl (lv_at hl 3 rfl) ?_
  refine lv_iconst (pc := 359) (v := 4) hx hb dL_law_359 (by decide) ?_
  refine lv_iadd (pc := 360) hx hb dL_law_360 ?_
  rw [show nI i + (4 : Int32) = nI (i + 4) from nI_add i 4]
  refine va_sld (pc := 361) hx hb hX hbl hbA w.2.2.1 (vp_in_nI (show i + 4 < L by omega) (by omega)) dL_law_361 ?_
  rw [nI_clamp (show i + 4 < 2 ^ 31 by omega)]
  refine s_cvi (pc := 362) [.int (xs (i + 1)), .int (xs (i + 2)), .int (xs (i + 3)), .int (xs (i + 4))] (fun ad => [.ref (ad 0), .int (xs (i + 1)), .int (xs (i + 2)), .int (xs (i + 3)), .int (xs (i + 4))]) F w (m_M_link _ _ _ _ _ _ _ h2) rfl rfl hl.1 ds_0 vc_X12 rfl ok_X12_link rfl kc_X12_link kl_L_27 ki_X12_link kv_X12_link kn_X12 ⟨Nat.le_trans (by decide) hR1, Nat.le_trans (by decide) hR2⟩ hcs (Nat.le_of_ble_eq_true rfl) dL_law_362 (fun H locs w => ?_)
  refine lv_pop (pc := 365) hx hb dL_law_365 rfl ?_
  refine lv_goto (pc := 366) (tgt := 1963) hx hb dL_law_366 (by decide) ?_
  exact kk H locs w
set_option maxRecDepth 100000 in
set_option maxHeartbeats 4000000 in
theorem lc_3 (F : Fx p s m args meth c cL_law 4 RL rt dC dI cs A) (hX : va_X b L xs s s.heap) (hbl : b < s.heap.size) (hbA : ¬ A b) (hR1 : 8 ≤ R.frames) (hR2 : 340 ≤ R.locals) (hcs : cells ≤ R.cells ∧ slots ≤ R.slots) {S S1 S2 : SS} {r1 r2 : Int32} (hi : i + 6 ≤ L) (hL : L ≤ 3072) (w : Wo dC dI cs ad A s.heap D0 S H locs) (hl : lv_has ls 4 [(0, .ref b), (1, .ref (ad 61)), (2, .ref (ad 0)), (3, .int (nI i))]) (h1 : f_Yard_exit (xs (i + 1)) (xs (i + 2)) ((if xs (i + 3) = 0 then (0 : Int32) else 1)) S = some (r1, S1)) (h2 : f_M_exit (xs (i + 1)) (xs (i + 2)) ((if xs (i + 3) = 0 then (0 : Int32) else 1)) S1 = some (r2, S2))
    (kk : ∀ (H : Heap) (locs : List Loc), Wo dC dI cs ad A s.heap D0 S2 H locs → W p l e R s m args below meth c H locs cells slots Q (F0 m 1963 ls [])) : W p l e R s m args below meth c H locs cells slots Q (F0 m 369 ls []) := by
  have hx := F.1.1
  have hb := F.1.2.1
  refine lv_aload_n (pc := 369) hx hb dL_law_369 rfl (lv_at hl 1 rfl) ?_
  refine lv_aload_n (pc := 370) hx hb dL_law_370 rfl (lv_at hl 0 rfl) ?_
  refine lv_iload_n (pc := 371) hx hb dL_law_371 rfl (lv_at hl 3 rfl) ?_
  refine lv_iconst (pc := 372) (v := 1) hx hb dL_law_372 (by decide) ?_
  refine lv_iadd (pc := 373) hx hb dL_law_373 ?_
  rw [show nI i + (1 : Int32) = nI (i + 1) from nI_add i 1]
  refine va_sld (pc := 374) hx hb hX hbl hbA w.2.2.1 (vp_in_nI (show i + 1 < L by omega) (by omega)) dL_law_374 ?_
  rw [nI_clamp (show i + 1 < 2 ^ 31 by omega)]
  refine lv_aload_n (pc := 375) hx hb dL_law_375 rfl (lv_at hl 0 rfl) ?_
  refine lv_iload_n (pc := 376) hx hb dL_law_376 rfl (lv_at hl 3 rfl) ?_
  refine lv_iconst (pc := 377) (v := 2) hx hb dL_law_377 (by decide) ?_
  refine lv_iadd (pc := 378) hx hb dL_law_378 ?_
  rw [show nI i + (2 : Int32) = nI (i + 2) from nI_add i 2]
  refine va_sld (pc := 379) hx hb hX hbl hbA w.2.2.1 (vp_in_nI (show i + 2 < L by omega) (by omega)) dL_law_379 ?_
  rw [nI_clamp (show i + 2 < 2 ^ 31 by omega)]
  refine lv_aload_n (pc := 380) hx hb dL_law_380 rfl (lv_at hl 0 rfl) ?_
  refine lv_iload_n (pc := 381) hx hb dL_law_381 rfl (lv_at hl 3 rfl) ?_
  refine lv_iconst (pc := 382) (v := 3) hx hb dL_law_382 (by decide) ?_
  refine lv_iadd (pc := 383) hx hb dL_law_383 ?_
  rw [show nI i + (3 : Int32) = nI (i + 3) from nI_add i 3]
  refine va_sld (pc := 384) hx hb hX hbl hbA w.2.2.1 (vp_in_nI (show i + 3 < L by omega) (by omega)) dL_law_384 ?_
  rw [nI_clamp (show i + 3 < 2 ^ 31 by omega)]
  suffices hj : W p l e R s m args below meth c H locs cells slots Q (F0 m 393 ls (.int (if xs (i + 3) = 0 then (0 : Int32) else 1) :: [.int (xs (i + 2)), .int (xs (i + 1)), .ref (ad 61)])) by
    refine lv_if_eq (pc := 385) (tgt := 392) hx hb dL_law_385 (by decide) (fun q => ?_) (fun q => ?_)
    · refine lv_iconst (pc := 392) (v := 0) hx hb dL_law_392 (by decide) ?_
      rw [if_pos q] at hj
      exact hj
    · refine lv_iconst (pc := 388) (v := 1) hx hb dL_law_388 (by decide) ?_
      refine lv_goto (pc := 389) (tgt := 393) hx hb dL_law_389 (by decide) ?_
      rw [if_neg q] at hj
      exact hj
  refine s_cvi (pc := 393) [.int (xs (i + 1)), .int (xs (i + 2)), .int ((if xs (i + 3) = 0 then (0 : Int32) else 1))] (fun ad => [.ref (ad 61), .int (xs (i + 1)), .int (xs (i + 2)), .int ((if xs (i + 3) = 0 then (0 : Int32) else 1))]) F w (m_Yard_exit _ _ _ _ _ _ h1) rfl rfl hl.1 ds_61 vc_X11 rfl ok_X11_exit rfl kc_X11_exit kl_L_28 ki_X11_exit kv_X11_exit kn_X11 ⟨Nat.le_trans (by decide) hR1, Nat.le_trans (by decide) hR2⟩ hcs (Nat.le_of_ble_eq_true rfl) dL_law_393 (fun H locs w => ?_)
  refine lv_pop (pc := 396) hx hb dL_law_396 rfl ?_
  refine lv_aload_n (pc := 397) hx hb dL_law_397 rfl (lv_at hl 2 rfl) ?_
  refine lv_aload_n (pc := 398) hx hb dL_law_398 rfl (lv_at hl 0 rfl) ?_
  refine lv_iload_n (pc := 399) hx hb dL_law_399 rfl (lv_at hl 3 rfl) ?_
  refine lv_iconst (pc := 400) (v := 1) hx hb dL_law_400 (by decide) ?_
  refine lv_iadd (pc := 401) hx hb dL_law_401 ?_
  rw [show nI i + (1 : Int32) = nI (i + 1) from nI_add i 1]
  refine va_sld (pc := 402) hx hb hX hbl hbA w.2.2.1 (vp_in_nI (show i + 1 < L by omega) (by omega)) dL_law_402 ?_
  rw [nI_clamp (show i + 1 < 2 ^ 31 by omega)]
  refine lv_aload_n (pc := 403) hx hb dL_law_403 rfl (lv_at hl 0 rfl) ?_
  refine lv_iload_n (pc := 404) hx hb dL_law_404 rfl (lv_at hl 3 rfl) ?_
  refine lv_iconst (pc := 405) (v := 2) hx hb dL_law_405 (by decide) ?_
  refine lv_iadd (pc := 406) hx hb dL_law_406 ?_
  rw [show nI i + (2 : Int32) = nI (i + 2) from nI_add i 2]
  refine va_sld (pc := 407) hx hb hX hbl hbA w.2.2.1 (vp_in_nI (show i + 2 < L by omega) (by omega)) dL_law_407 ?_
  rw [nI_clamp (show i + 2 < 2 ^ 31 by omega)]
  refine lv_aload_n (pc := 408) hx hb dL_law_408 rfl (lv_at hl 0 rfl) ?_
  refine lv_iload_n (pc := 409) hx hb dL_law_409 rfl (lv_at hl 3 rfl) ?_
  refine lv_iconst (pc := 410) (v := 3) hx hb dL_law_410 (by decide) ?_
  refine lv_iadd (pc := 411) hx hb dL_law_411 ?_
  rw [show nI i + (3 : Int32) = nI (i + 3) from nI_add i 3]
  refine va_sld (pc := 412) hx hb hX hbl hbA w.2.2.1 (vp_in_nI (show i + 3 < L by omega) (by omega)) dL_law_412 ?_
  rw [nI_clamp (show i + 3 < 2 ^ 31 by omega)]
  suffices hj : W p l e R s m args below meth c H locs cells slots Q (F0 m 421 ls (.int (if xs (i + 3) = 0 then (0 : Int32) else 1) :: [.int (xs (i + 2)), .int (xs (i + 1)), .ref (ad 0)])) by
    refine lv_if_eq (pc := 413) (tgt := 420) hx hb dL_law_413 (by decide) (fun q => ?_) (fun q => ?_)
    · refine lv_iconst (pc := 420) (v := 0) hx hb dL_law_420 (by decide) ?_
      rw [if_pos q] at hj
      exact hj
    · refine lv_iconst (pc := 416) (v := 1) hx hb dL_law_416 (by decide) ?_
      refine lv_goto (pc := 417) (tgt := 421) hx hb dL_law_417 (by decide) ?_
      rw [if_neg q] at hj
      exact hj
  refine s_cvi (pc := 421) [.int (xs (i + 1)), .int (xs (i + 2)), .int ((if xs (i + 3) = 0 then (0 : Int32) else 1))] (fun ad => [.ref (ad 0), .int (xs (i + 1)), .int (xs (i + 2)), .int ((if xs (i + 3) = 0 then (0 : Int32) else 1))]) F w (m_M_exit _ _ _ _ _ _ h2) rfl rfl hl.1 ds_0 vc_X12 rfl ok_X12_exit rfl kc_X12_exit kl_L_32 ki_X12_exit kv_X12_exit kn_X12 ⟨Nat.le_trans (by decide) hR1, Nat.le_trans (by decide) hR2⟩ hcs (Nat.le_of_ble_eq_true rfl) dL_law_421 (fun H locs w => ?_)
  refine lv_pop (pc := 424) hx hb dL_law_424 rfl ?_
  refine lv_goto (pc := 425) (tgt := 1963) hx hb dL_law_425 (by decide) ?_
  exact kk H locs w
set_option maxRecDepth 100000 in
set_option maxHeartbeats 4000000 in
theorem lc_4 (F : Fx p s m args meth c cL_law 4 RL rt dC dI cs A) (hX : va_X b L xs s s.heap) (hbl : b < s.heap.size) (hbA : ¬ A b) (hR1 : 8 ≤ R.frames) (hR2 : 340 ≤ R.locals) (hcs : cells ≤ R.cells ∧ slots ≤ R.slots) {S S1 S2 : SS} {r1 r2 : Int32} (hi : i + 6 ≤ L) (hL : L ≤ 3072) (w : Wo dC dI cs ad A s.heap D0 S H locs) (hl : lv_has ls 4 [(0, .ref b), (1, .ref (ad 61)), (2, .ref (ad 0)), (3, .int (nI i))]) (h1 : f_Yard_wagon (xs (i + 1)) (xs (i + 2)) (xs (i + 3)) (xs (i + 4)) (xs (i + 5)) S = some (r1, S1)) (h2 : f_M_wagon (xs (i + 1)) (xs (i + 2)) (xs (i + 3)) (xs (i + 4)) (xs (i + 5)) S1 = some (r2, S2))
    (kk : ∀ (H : Heap) (locs : List Loc), Wo dC dI cs ad A s.heap D0 S2 H locs → W p l e R s m args below meth c H locs cells slots Q (F0 m 1963 ls [])) : W p l e R s m args below meth c H locs cells slots Q (F0 m 428 ls []) := by
  have hx := F.1.1
  have hb := F.1.2.1
  refine lv_aload_n (pc := 428) hx hb dL_law_428 rfl (lv_at hl 1 rfl) ?_
  refine lv_aload_n (pc := 429) hx hb dL_law_429 rfl (lv_at hl 0 rfl) ?_
  refine lv_iload_n (pc := 430) hx hb dL_law_430 rfl (lv_at hl 3 rfl) ?_
  refine lv_iconst (pc := 431) (v := 1) hx hb dL_law_431 (by decide) ?_
  refine lv_iadd (pc := 432) hx hb dL_law_432 ?_
  rw [show nI i + (1 : Int32) = nI (i + 1) from nI_add i 1]
  refine va_sld (pc := 433) hx hb hX hbl hbA w.2.2.1 (vp_in_nI (show i + 1 < L by omega) (by omega)) dL_law_433 ?_
  rw [nI_clamp (show i + 1 < 2 ^ 31 by omega)]
  refine lv_aload_n (pc := 434) hx hb dL_law_434 rfl (lv_at hl 0 rfl) ?_
  refine lv_iload_n (pc := 435) hx hb dL_law_435 rfl (lv_at hl 3 rfl) ?_
  refine lv_iconst (pc := 436) (v := 2) hx hb dL_law_436 (by decide) ?_
  refine lv_iadd (pc := 437) hx hb dL_law_437 ?_
  rw [show nI i + (2 : Int32) = nI (i + 2) from nI_add i 2]
  refine va_sld (pc := 438) hx hb hX hbl hbA w.2.2.1 (vp_in_nI (show i + 2 < L by omega) (by omega)) dL_law_438 ?_
  rw [nI_clamp (show i + 2 < 2 ^ 31 by omega)]
  refine lv_aload_n (pc := 439) hx hb dL_law_439 rfl (lv_at hl 0 rfl) ?_
  refine lv_iload_n (pc := 440) hx hb dL_law_440 rfl (lv_at hl 3 rfl) ?_
  refine lv_iconst (pc := 441) (v := 3) hx hb dL_law_441 (by decide) ?_
  refine lv_iadd (pc := 442) hx hb dL_law_442 ?_
  rw [show nI i + (3 : Int32) = nI (i + 3) from nI_add i 3]
  refine va_sld (pc := 443) hx hb hX hbl hbA w.2.2.1 (vp_in_nI (show i + 3 < L by omega) (by omega)) dL_law_443 ?_
  rw [nI_clamp (show i + 3 < 2 ^ 31 by omega)]
  refine lv_aload_n (pc := 444) hx hb dL_law_444 rfl (lv_at hl 0 rfl) ?_
  refine lv_iload_n (pc := 445) hx hb dL_law_445 rfl (lv_at hl 3 rfl) ?_
  refine lv_iconst (pc := 446) (v := 4) hx hb dL_law_446 (by decide) ?_
  refine lv_iadd (pc := 447) hx hb dL_law_447 ?_
  rw [show nI i + (4 : Int32) = nI (i + 4) from nI_add i 4]
  refine va_sld (pc := 448) hx hb hX hbl hbA w.2.2.1 (vp_in_nI (show i + 4 < L by omega) (by omega)) dL_law_448 ?_
  rw [nI_clamp (show i + 4 < 2 ^ 31 by omega)]
  refine lv_aload_n (pc := 449) hx hb dL_law_449 rfl (lv_at hl 0 rfl) ?_
  refine lv_iload_n (pc := 450) hx hb dL_law_450 rfl (lv_at hl 3 rfl) ?_
  refine lv_iconst (pc := 451) (v := 5) hx hb dL_law_451 (by decide) ?_
  refine lv_iadd (pc := 452) hx hb dL_law_452 ?_
  rw [show nI i + (5 : Int32) = nI (i + 5) from nI_add i 5]
  refine va_sld (pc := 453) hx hb hX hbl hbA w.2.2.1 (vp_in_nI (show i + 5 < L by omega) (by omega)) dL_law_453 ?_
  rw [nI_clamp (show i + 5 < 2 ^ 31 by omega)]
  refine s_cvi (pc := 454) [.int (xs (i + 1)), .int (xs (i + 2)), .int (xs (i + 3)), .int (xs (i + 4)), .int (xs (i + 5))] (fun ad => [.ref (ad 61), .int (xs (i + 1)), .int (xs (i + 2)), .int (xs (i + 3)), .int (xs (i + 4)), .int (xs (i + 5))]) F w (m_Yard_wagon _ _ _ _ _ _ _ _ h1) rfl rfl hl.1 ds_61 vc_X11 rfl ok_X11_wagon rfl kc_X11_wagon kl_L_33 ki_X11_wagon kv_X11_wagon kn_X11 ⟨Nat.le_trans (by decide) hR1, Nat.le_trans (by decide) hR2⟩ hcs (Nat.le_of_ble_eq_true rfl) dL_law_454 (fun H locs w => ?_)
  refine lv_pop (pc := 457) hx hb dL_law_457 rfl ?_
  refine lv_aload_n (pc := 458) hx hb dL_law_458 rfl (lv_at hl 2 rfl) ?_
  refine lv_aload_n (pc := 459) hx hb dL_law_459 rfl (lv_at hl 0 rfl) ?_
  refine lv_iload_n (pc := 460) hx hb dL_law_460 rfl (lv_at hl 3 rfl) ?_
  refine lv_iconst (pc := 461) (v := 1) hx hb dL_law_461 (by decide) ?_
  refine lv_iadd (pc := 462) hx hb dL_law_462 ?_
  rw [show nI i + (1 : Int32) = nI (i + 1) from nI_add i 1]
  refine va_sld (pc := 463) hx hb hX hbl hbA w.2.2.1 (vp_in_nI (show i + 1 < L by omega) (by omega)) dL_law_463 ?_
  rw [nI_clamp (show i + 1 < 2 ^ 31 by omega)]
  refine lv_aload_n (pc := 464) hx hb dL_law_464 rfl (lv_at hl 0 rfl) ?_
  refine lv_iload_n (pc := 465) hx hb dL_law_465 rfl (lv_at hl 3 rfl) ?_
  refine lv_iconst (pc := 466) (v := 2) hx hb dL_law_466 (by decide) ?_
  refine lv_iadd (pc := 467) hx hb dL_law_467 ?_
  rw [show nI i + (2 : Int32) = nI (i + 2) from nI_add i 2]
  refine va_sld (pc := 468) hx hb hX hbl hbA w.2.2.1 (vp_in_nI (show i + 2 < L by omega) (by omega)) dL_law_468 ?_
  rw [nI_clamp (show i + 2 < 2 ^ 31 by omega)]
  refine lv_aload_n (pc := 469) hx hb dL_law_469 rfl (lv_at hl 0 rfl) ?_
  refine lv_iload_n (pc := 470) hx hb dL_law_470 rfl (lv_at hl 3 rfl) ?_
  refine lv_iconst (pc := 471) (v := 3) hx hb dL_law_471 (by decide) ?_
  refine lv_iadd (pc := 472) hx hb dL_law_472 ?_
  rw [show nI i + (3 : Int32) = nI (i + 3) from nI_add i 3]
  refine va_sld (pc := 473) hx hb hX hbl hbA w.2.2.1 (vp_in_nI (show i + 3 < L by omega) (by omega)) dL_law_473 ?_
  rw [nI_clamp (show i + 3 < 2 ^ 31 by omega)]
  refine lv_aload_n (pc := 474) hx hb dL_law_474 rfl (lv_at hl 0 rfl) ?_
  refine lv_iload_n (pc := 475) hx hb dL_law_475 rfl (lv_at hl 3 rfl) ?_
  refine lv_iconst (pc := 476) (v := 4) hx hb dL_law_476 (by decide) ?_
  refine lv_iadd (pc := 477) hx hb dL_law_477 ?_
  rw [show nI i + (4 : Int32) = nI (i + 4) from nI_add i 4]
  refine va_sld (pc := 478) hx hb hX hbl hbA w.2.2.1 (vp_in_nI (show i + 4 < L by omega) (by omega)) dL_law_478 ?_
  rw [nI_clamp (show i + 4 < 2 ^ 31 by omega)]
  refine lv_aload_n (pc := 479) hx hb dL_law_479 rfl (lv_at hl 0 rfl) ?_
  refine lv_iload_n (pc := 480) hx hb dL_law_480 rfl (lv_at hl 3 rfl) ?_
  refine lv_iconst (pc := 481) (v := 5) hx hb dL_law_481 (by decide) ?_
  refine lv_iadd (pc := 482) hx hb dL_law_482 ?_
  rw [show nI i + (5 : Int32) = nI (i + 5) from nI_add i 5]
  refine va_sld (pc := 483) hx hb hX hbl hbA w.2.2.1 (vp_in_nI (show i + 5 < L by omega) (by omega)) dL_law_483 ?_
  rw [nI_clamp (show i + 5 < 2 ^ 31 by omega)]
  refine s_cvi (pc := 484) [.int (xs (i + 1)), .int (xs (i + 2)), .int (xs (i + 3)), .int (xs (i + 4)), .int (xs (i + 5))] (fun ad => [.ref (ad 0), .int (xs (i + 1)), .int (xs (i + 2)), .int (xs (i + 3)), .int (xs (i + 4)), .int (xs (i + 5))]) F w (m_M_wagon _ _ _ _ _ _ _ _ h2) rfl rfl hl.1 ds_0 vc_X12 rfl ok_X12_wagon rfl kc_X12_wagon kl_L_37 ki_X12_wagon kv_X12_wagon kn_X12 ⟨Nat.le_trans (by decide) hR1, Nat.le_trans (by decide) hR2⟩ hcs (Nat.le_of_ble_eq_true rfl) dL_law_484 (fun H locs w => ?_)
  refine lv_pop (pc := 487) hx hb dL_law_487 rfl ?_
  refine lv_goto (pc := 488) (tgt := 1963) hx hb dL_law_488 (by decide) ?_
  exact kk H locs w
set_option maxRecDepth 100000 in
set_option maxHeartbeats 4000000 in
theorem lc_5 (F : Fx p s m args meth c cL_law 4 RL rt dC dI cs A) (hX : va_X b L xs s s.heap) (hbl : b < s.heap.size) (hbA : ¬ A b) (hR1 : 8 ≤ R.frames) (hR2 : 340 ≤ R.locals) (hcs : cells ≤ R.cells ∧ slots ≤ R.slots) {S S1 S2 : SS} {r1 r2 : Int32} (hi : i + 6 ≤ L) (hL : L ≤ 3072) (w : Wo dC dI cs ad A s.heap D0 S H locs) (hl : lv_has ls 4 [(0, .ref b), (1, .ref (ad 61)), (2, .ref (ad 0)), (3, .int (nI i))]) (h1 : f_Yard_engine ((if xs (i + 1) = 0 then (0 : Int32) else 1)) (xs (i + 2)) (xs (i + 3)) (xs (i + 4)) S = some (r1, S1)) (h2 : f_M_engine ((if xs (i + 1) = 0 then (0 : Int32) else 1)) (xs (i + 2)) (xs (i + 3)) (xs (i + 4)) S1 = some (r2, S2))
    (kk : ∀ (H : Heap) (locs : List Loc), Wo dC dI cs ad A s.heap D0 S2 H locs → W p l e R s m args below meth c H locs cells slots Q (F0 m 1963 ls [])) : W p l e R s m args below meth c H locs cells slots Q (F0 m 491 ls []) := by
  have hx := F.1.1
  have hb := F.1.2.1
  refine lv_aload_n (pc := 491) hx hb dL_law_491 rfl (lv_at hl 1 rfl) ?_
  refine lv_aload_n (pc := 492) hx hb dL_law_492 rfl (lv_at hl 0 rfl) ?_
  refine lv_iload_n (pc := 493) hx hb dL_law_493 rfl (lv_at hl 3 rfl) ?_
  refine lv_iconst (pc := 494) (v := 1) hx hb dL_law_494 (by decide) ?_
  refine lv_iadd (pc := 495) hx hb dL_law_495 ?_
  rw [show nI i + (1 : Int32) = nI (i + 1) from nI_add i 1]
  refine va_sld (pc := 496) hx hb hX hbl hbA w.2.2.1 (vp_in_nI (show i + 1 < L by omega) (by omega)) dL_law_496 ?_
  rw [nI_clamp (show i + 1 < 2 ^ 31 by omega)]
  suffices hj : W p l e R s m args below meth c H locs cells slots Q (F0 m 505 ls (.int (if xs (i + 1) = 0 then (0 : Int32) else 1) :: [.ref (ad 61)])) by
    refine lv_if_eq (pc := 497) (tgt := 504) hx hb dL_law_497 (by decide) (fun q => ?_) (fun q => ?_)
    · refine lv_iconst (pc := 504) (v := 0) hx hb dL_law_504 (by decide) ?_
      rw [if_pos q] at hj
      exact hj
    · refine lv_iconst (pc := 500) (v := 1) hx hb dL_law_500 (by decide) ?_
      refine lv_goto (pc := 501) (tgt := 505) hx hb dL_law_501 (by decide) ?_
      rw [if_neg q] at hj
      exact hj
  refine lv_aload_n (pc := 505) hx hb dL_law_505 rfl (lv_at hl 0 rfl) ?_
  refine lv_iload_n (pc := 506) hx hb dL_law_506 rfl (lv_at hl 3 rfl) ?_
  refine lv_iconst (pc := 507) (v := 2) hx hb dL_law_507 (by decide) ?_
  refine lv_iadd (pc := 508) hx hb dL_law_508 ?_
  rw [show nI i + (2 : Int32) = nI (i + 2) from nI_add i 2]
  refine va_sld (pc := 509) hx hb hX hbl hbA w.2.2.1 (vp_in_nI (show i + 2 < L by omega) (by omega)) dL_law_509 ?_
  rw [nI_clamp (show i + 2 < 2 ^ 31 by omega)]
  refine lv_aload_n (pc := 510) hx hb dL_law_510 rfl (lv_at hl 0 rfl) ?_
  refine lv_iload_n (pc := 511) hx hb dL_law_511 rfl (lv_at hl 3 rfl) ?_
  refine lv_iconst (pc := 512) (v := 3) hx hb dL_law_512 (by decide) ?_
  refine lv_iadd (pc := 513) hx hb dL_law_513 ?_
  rw [show nI i + (3 : Int32) = nI (i + 3) from nI_add i 3]
  refine va_sld (pc := 514) hx hb hX hbl hbA w.2.2.1 (vp_in_nI (show i + 3 < L by omega) (by omega)) dL_law_514 ?_
  rw [nI_clamp (show i + 3 < 2 ^ 31 by omega)]
  refine lv_aload_n (pc := 515) hx hb dL_law_515 rfl (lv_at hl 0 rfl) ?_
  refine lv_iload_n (pc := 516) hx hb dL_law_516 rfl (lv_at hl 3 rfl) ?_
  refine lv_iconst (pc := 517) (v := 4) hx hb dL_law_517 (by decide) ?_
  refine lv_iadd (pc := 518) hx hb dL_law_518 ?_
  rw [show nI i + (4 : Int32) = nI (i + 4) from nI_add i 4]
  refine va_sld (pc := 519) hx hb hX hbl hbA w.2.2.1 (vp_in_nI (show i + 4 < L by omega) (by omega)) dL_law_519 ?_
  rw [nI_clamp (show i + 4 < 2 ^ 31 by omega)]
  refine s_cvi (pc := 520) [.int ((if xs (i + 1) = 0 then (0 : Int32) else 1)), .int (xs (i + 2)), .int (xs (i + 3)), .int (xs (i + 4))] (fun ad => [.ref (ad 61), .int ((if xs (i + 1) = 0 then (0 : Int32) else 1)), .int (xs (i + 2)), .int (xs (i + 3)), .int (xs (i + 4))]) F w (m_Yard_engine _ _ _ _ _ _ _ h1) rfl rfl hl.1 ds_61 vc_X11 rfl ok_X11_engine rfl kc_X11_engine kl_L_38 ki_X11_engine kv_X11_engine kn_X11 ⟨Nat.le_trans (by decide) hR1, Nat.le_trans (by decide) hR2⟩ hcs (Nat.le_of_ble_eq_true rfl) dL_law_520 (fun H locs w => ?_)
  refine lv_pop (pc := 523) hx hb dL_law_523 rfl ?_
  refine lv_aload_n (pc := 524) hx hb dL_law_524 rfl (lv_at hl 2 rfl) ?_
  refine lv_aload_n (pc := 525) hx hb dL_law_525 rfl (lv_at hl 0 rfl) ?_
  refine lv_iload_n (pc := 526) hx hb dL_law_526 rfl (lv_at hl 3 rfl) ?_
  refine lv_iconst (pc := 527) (v := 1) hx hb dL_law_527 (by decide) ?_
  refine lv_iadd (pc := 528) hx hb dL_law_528 ?_
  rw [show nI i + (1 : Int32) = nI (i + 1) from nI_add i 1]
  refine va_sld (pc := 529) hx hb hX hbl hbA w.2.2.1 (vp_in_nI (show i + 1 < L by omega) (by omega)) dL_law_529 ?_
  rw [nI_clamp (show i + 1 < 2 ^ 31 by omega)]
  suffices hj : W p l e R s m args below meth c H locs cells slots Q (F0 m 538 ls (.int (if xs (i + 1) = 0 then (0 : Int32) else 1) :: [.ref (ad 0)])) by
    refine lv_if_eq (pc := 530) (tgt := 537) hx hb dL_law_530 (by decide) (fun q => ?_) (fun q => ?_)
    · refine lv_iconst (pc := 537) (v := 0) hx hb dL_law_537 (by decide) ?_
      rw [if_pos q] at hj
      exact hj
    · refine lv_iconst (pc := 533) (v := 1) hx hb dL_law_533 (by decide) ?_
      refine lv_goto (pc := 534) (tgt := 538) hx hb dL_law_534 (by decide) ?_
      rw [if_neg q] at hj
      exact hj
  refine lv_aload_n (pc := 538) hx hb dL_law_538 rfl (lv_at hl 0 rfl) ?_
  refine lv_iload_n (pc := 539) hx hb dL_law_539 rfl (lv_at hl 3 rfl) ?_
  refine lv_iconst (pc := 540) (v := 2) hx hb dL_law_540 (by decide) ?_
  refine lv_iadd (pc := 541) hx hb dL_law_541 ?_
  rw [show nI i + (2 : Int32) = nI (i + 2) from nI_add i 2]
  refine va_sld (pc := 542) hx hb hX hbl hbA w.2.2.1 (vp_in_nI (show i + 2 < L by omega) (by omega)) dL_law_542 ?_
  rw [nI_clamp (show i + 2 < 2 ^ 31 by omega)]
  refine lv_aload_n (pc := 543) hx hb dL_law_543 rfl (lv_at hl 0 rfl) ?_
  refine lv_iload_n (pc := 544) hx hb dL_law_544 rfl (lv_at hl 3 rfl) ?_
  refine lv_iconst (pc := 545) (v := 3) hx hb dL_law_545 (by decide) ?_
  refine lv_iadd (pc := 546) hx hb dL_law_546 ?_
  rw [show nI i + (3 : Int32) = nI (i + 3) from nI_add i 3]
  refine va_sld (pc := 547) hx hb hX hbl hbA w.2.2.1 (vp_in_nI (show i + 3 < L by omega) (by omega)) dL_law_547 ?_
  rw [nI_clamp (show i + 3 < 2 ^ 31 by omega)]
  refine lv_aload_n (pc := 548) hx hb dL_law_548 rfl (lv_at hl 0 rfl) ?_
  refine lv_iload_n (pc := 549) hx hb dL_law_549 rfl (lv_at hl 3 rfl) ?_
  refine lv_iconst (pc := 550) (v := 4) hx hb dL_law_550 (by decide) ?_
  refine lv_iadd (pc := 551) hx hb dL_law_551 ?_
  rw [show nI i + (4 : Int32) = nI (i + 4) from nI_add i 4]
  refine va_sld (pc := 552) hx hb hX hbl hbA w.2.2.1 (vp_in_nI (show i + 4 < L by omega) (by omega)) dL_law_552 ?_
  rw [nI_clamp (show i + 4 < 2 ^ 31 by omega)]
  refine s_cvi (pc := 553) [.int ((if xs (i + 1) = 0 then (0 : Int32) else 1)), .int (xs (i + 2)), .int (xs (i + 3)), .int (xs (i + 4))] (fun ad => [.ref (ad 0), .int ((if xs (i + 1) = 0 then (0 : Int32) else 1)), .int (xs (i + 2)), .int (xs (i + 3)), .int (xs (i + 4))]) F w (m_M_engine _ _ _ _ _ _ _ h2) rfl rfl hl.1 ds_0 vc_X12 rfl ok_X12_engine rfl kc_X12_engine kl_L_42 ki_X12_engine kv_X12_engine kn_X12 ⟨Nat.le_trans (by decide) hR1, Nat.le_trans (by decide) hR2⟩ hcs (Nat.le_of_ble_eq_true rfl) dL_law_553 (fun H locs w => ?_)
  refine lv_pop (pc := 556) hx hb dL_law_556 rfl ?_
  refine lv_goto (pc := 557) (tgt := 1963) hx hb dL_law_557 (by decide) ?_
  exact kk H locs w
set_option maxRecDepth 100000 in
set_option maxHeartbeats 4000000 in
theorem lc_6 (F : Fx p s m args meth c cL_law 4 RL rt dC dI cs A) (hX : va_X b L xs s s.heap) (hbl : b < s.heap.size) (hbA : ¬ A b) (hR1 : 8 ≤ R.frames) (hR2 : 340 ≤ R.locals) (hcs : cells ≤ R.cells ∧ slots ≤ R.slots) {S S1 S2 : SS} {r1 r2 : Int32} (hi : i + 6 ≤ L) (hL : L ≤ 3072) (w : Wo dC dI cs ad A s.heap D0 S H locs) (hl : lv_has ls 4 [(0, .ref b), (1, .ref (ad 61)), (2, .ref (ad 0)), (3, .int (nI i))]) (h1 : f_Yard_bar (xs (i + 1)) (xs (i + 2)) ((if xs (i + 3) = 0 then (0 : Int32) else 1)) S = some (r1, S1)) (h2 : f_M_bar (xs (i + 1)) (xs (i + 2)) ((if xs (i + 3) = 0 then (0 : Int32) else 1)) S1 = some (r2, S2))
    (kk : ∀ (H : Heap) (locs : List Loc), Wo dC dI cs ad A s.heap D0 S2 H locs → W p l e R s m args below meth c H locs cells slots Q (F0 m 1963 ls [])) : W p l e R s m args below meth c H locs cells slots Q (F0 m 560 ls []) := by
  have hx := F.1.1
  have hb := F.1.2.1
  refine lv_aload_n (pc := 560) hx hb dL_law_560 rfl (lv_at hl 1 rfl) ?_
  refine lv_aload_n (pc := 561) hx hb dL_law_561 rfl (lv_at hl 0 rfl) ?_
  refine lv_iload_n (pc := 562) hx hb dL_law_562 rfl (lv_at hl 3 rfl) ?_
  refine lv_iconst (pc := 563) (v := 1) hx hb dL_law_563 (by decide) ?_
  refine lv_iadd (pc := 564) hx hb dL_law_564 ?_
  rw [show nI i + (1 : Int32) = nI (i + 1) from nI_add i 1]
  refine va_sld (pc := 565) hx hb hX hbl hbA w.2.2.1 (vp_in_nI (show i + 1 < L by omega) (by omega)) dL_law_565 ?_
  rw [nI_clamp (show i + 1 < 2 ^ 31 by omega)]
  refine lv_aload_n (pc := 566) hx hb dL_law_566 rfl (lv_at hl 0 rfl) ?_
  refine lv_iload_n (pc := 567) hx hb dL_law_567 rfl (lv_at hl 3 rfl) ?_
  refine lv_iconst (pc := 568) (v := 2) hx hb dL_law_568 (by decide) ?_
  refine lv_iadd (pc := 569) hx hb dL_law_569 ?_
  rw [show nI i + (2 : Int32) = nI (i + 2) from nI_add i 2]
  refine va_sld (pc := 570) hx hb hX hbl hbA w.2.2.1 (vp_in_nI (show i + 2 < L by omega) (by omega)) dL_law_570 ?_
  rw [nI_clamp (show i + 2 < 2 ^ 31 by omega)]
  refine lv_aload_n (pc := 571) hx hb dL_law_571 rfl (lv_at hl 0 rfl) ?_
  refine lv_iload_n (pc := 572) hx hb dL_law_572 rfl (lv_at hl 3 rfl) ?_
  refine lv_iconst (pc := 573) (v := 3) hx hb dL_law_573 (by decide) ?_
  refine lv_iadd (pc := 574) hx hb dL_law_574 ?_
  rw [show nI i + (3 : Int32) = nI (i + 3) from nI_add i 3]
  refine va_sld (pc := 575) hx hb hX hbl hbA w.2.2.1 (vp_in_nI (show i + 3 < L by omega) (by omega)) dL_law_575 ?_
  rw [nI_clamp (show i + 3 < 2 ^ 31 by omega)]
  suffices hj : W p l e R s m args below meth c H locs cells slots Q (F0 m 584 ls (.int (if xs (i + 3) = 0 then (0 : Int32) else 1) :: [.int (xs (i + 2)), .int (xs (i + 1)), .ref (ad 61)])) by
    refine lv_if_eq (pc := 576) (tgt := 583) hx hb dL_law_576 (by decide) (fun q => ?_) (fun q => ?_)
    · refine lv_iconst (pc := 583) (v := 0) hx hb dL_law_583 (by decide) ?_
      rw [if_pos q] at hj
      exact hj
    · refine lv_iconst (pc := 579) (v := 1) hx hb dL_law_579 (by decide) ?_
      refine lv_goto (pc := 580) (tgt := 584) hx hb dL_law_580 (by decide) ?_
      rw [if_neg q] at hj
      exact hj
  refine s_cvi (pc := 584) [.int (xs (i + 1)), .int (xs (i + 2)), .int ((if xs (i + 3) = 0 then (0 : Int32) else 1))] (fun ad => [.ref (ad 61), .int (xs (i + 1)), .int (xs (i + 2)), .int ((if xs (i + 3) = 0 then (0 : Int32) else 1))]) F w (m_Yard_bar _ _ _ _ _ _ h1) rfl rfl hl.1 ds_61 vc_X11 rfl ok_X11_bar rfl kc_X11_bar kl_L_43 ki_X11_bar kv_X11_bar kn_X11 ⟨Nat.le_trans (by decide) hR1, Nat.le_trans (by decide) hR2⟩ hcs (Nat.le_of_ble_eq_true rfl) dL_law_584 (fun H locs w => ?_)
  refine lv_pop (pc := 587) hx hb dL_law_587 rfl ?_
  refine lv_aload_n (pc := 588) hx hb dL_law_588 rfl (lv_at hl 2 rfl) ?_
  refine lv_aload_n (pc := 589) hx hb dL_law_589 rfl (lv_at hl 0 rfl) ?_
  refine lv_iload_n (pc := 590) hx hb dL_law_590 rfl (lv_at hl 3 rfl) ?_
  refine lv_iconst (pc := 591) (v := 1) hx hb dL_law_591 (by decide) ?_
  refine lv_iadd (pc := 592) hx hb dL_law_592 ?_
  rw [show nI i + (1 : Int32) = nI (i + 1) from nI_add i 1]
  refine va_sld (pc := 593) hx hb hX hbl hbA w.2.2.1 (vp_in_nI (show i + 1 < L by omega) (by omega)) dL_law_593 ?_
  rw [nI_clamp (show i + 1 < 2 ^ 31 by omega)]
  refine lv_aload_n (pc := 594) hx hb dL_law_594 rfl (lv_at hl 0 rfl) ?_
  refine lv_iload_n (pc := 595) hx hb dL_law_595 rfl (lv_at hl 3 rfl) ?_
  refine lv_iconst (pc := 596) (v := 2) hx hb dL_law_596 (by decide) ?_
  refine lv_iadd (pc := 597) hx hb dL_law_597 ?_
  rw [show nI i + (2 : Int32) = nI (i + 2) from nI_add i 2]
  refine va_sld (pc := 598) hx hb hX hbl hbA w.2.2.1 (vp_in_nI (show i + 2 < L by omega) (by omega)) dL_law_598 ?_
  rw [nI_clamp (show i + 2 < 2 ^ 31 by omega)]
  refine lv_aload_n (pc := 599) hx hb dL_law_599 rfl (lv_at hl 0 rfl) ?_
  refine lv_iload_n (pc := 600) hx hb dL_law_600 rfl (lv_at hl 3 rfl) ?_
  refine lv_iconst (pc := 601) (v := 3) hx hb dL_law_601 (by decide) ?_
  refine lv_iadd (pc := 602) hx hb dL_law_602 ?_
  rw [show nI i + (3 : Int32) = nI (i + 3) from nI_add i 3]
  refine va_sld (pc := 603) hx hb hX hbl hbA w.2.2.1 (vp_in_nI (show i + 3 < L by omega) (by omega)) dL_law_603 ?_
  rw [nI_clamp (show i + 3 < 2 ^ 31 by omega)]
  suffices hj : W p l e R s m args below meth c H locs cells slots Q (F0 m 612 ls (.int (if xs (i + 3) = 0 then (0 : Int32) else 1) :: [.int (xs (i + 2)), .int (xs (i + 1)), .ref (ad 0)])) by
    refine lv_if_eq (pc := 604) (tgt := 611) hx hb dL_law_604 (by decide) (fun q => ?_) (fun q => ?_)
    · refine lv_iconst (pc := 611) (v := 0) hx hb dL_law_611 (by decide) ?_
      rw [if_pos q] at hj
      exact hj
    · refine lv_iconst (pc := 607) (v := 1) hx hb dL_law_607 (by decide) ?_
      refine lv_goto (pc := 608) (tgt := 612) hx hb dL_law_608 (by decide) ?_
      rw [if_neg q] at hj
      exact hj
  refine s_cvi (pc := 612) [.int (xs (i + 1)), .int (xs (i + 2)), .int ((if xs (i + 3) = 0 then (0 : Int32) else 1))] (fun ad => [.ref (ad 0), .int (xs (i + 1)), .int (xs (i + 2)), .int ((if xs (i + 3) = 0 then (0 : Int32) else 1))]) F w (m_M_bar _ _ _ _ _ _ h2) rfl rfl hl.1 ds_0 vc_X12 rfl ok_X12_bar rfl kc_X12_bar kl_L_46 ki_X12_bar kv_X12_bar kn_X12 ⟨Nat.le_trans (by decide) hR1, Nat.le_trans (by decide) hR2⟩ hcs (Nat.le_of_ble_eq_true rfl) dL_law_612 (fun H locs w => ?_)
  refine lv_pop (pc := 615) hx hb dL_law_615 rfl ?_
  refine lv_goto (pc := 616) (tgt := 1963) hx hb dL_law_616 (by decide) ?_
  exact kk H locs w
set_option maxRecDepth 100000 in
set_option maxHeartbeats 4000000 in
theorem lc_7 (F : Fx p s m args meth c cL_law 4 RL rt dC dI cs A) (hX : va_X b L xs s s.heap) (hbl : b < s.heap.size) (hbA : ¬ A b) (hR1 : 8 ≤ R.frames) (hR2 : 340 ≤ R.locals) (hcs : cells ≤ R.cells ∧ slots ≤ R.slots) {S S1 S2 : SS} {r1 r2 : Int32} (hi : i + 6 ≤ L) (hL : L ≤ 3072) (w : Wo dC dI cs ad A s.heap D0 S H locs) (hl : lv_has ls 4 [(0, .ref b), (1, .ref (ad 61)), (2, .ref (ad 0)), (3, .int (nI i))]) (h1 : f_Yard_table (xs (i + 1)) (xs (i + 2)) S = some (r1, S1)) (h2 : f_M_table (xs (i + 1)) (xs (i + 2)) S1 = some (r2, S2))
    (kk : ∀ (H : Heap) (locs : List Loc), Wo dC dI cs ad A s.heap D0 S2 H locs → W p l e R s m args below meth c H locs cells slots Q (F0 m 1963 ls [])) : W p l e R s m args below meth c H locs cells slots Q (F0 m 619 ls []) := by
  have hx := F.1.1
  have hb := F.1.2.1
  refine lv_aload_n (pc := 619) hx hb dL_law_619 rfl (lv_at hl 1 rfl) ?_
  refine lv_aload_n (pc := 620) hx hb dL_law_620 rfl (lv_at hl 0 rfl) ?_
  refine lv_iload_n (pc := 621) hx hb dL_law_621 rfl (lv_at hl 3 rfl) ?_
  refine lv_iconst (pc := 622) (v := 1) hx hb dL_law_622 (by decide) ?_
  refine lv_iadd (pc := 623) hx hb dL_law_623 ?_
  rw [show nI i + (1 : Int32) = nI (i + 1) from nI_add i 1]
  refine va_sld (pc := 624) hx hb hX hbl hbA w.2.2.1 (vp_in_nI (show i + 1 < L by omega) (by omega)) dL_law_624 ?_
  rw [nI_clamp (show i + 1 < 2 ^ 31 by omega)]
  refine lv_aload_n (pc := 625) hx hb dL_law_625 rfl (lv_at hl 0 rfl) ?_
  refine lv_iload_n (pc := 626) hx hb dL_law_626 rfl (lv_at hl 3 rfl) ?_
  refine lv_iconst (pc := 627) (v := 2) hx hb dL_law_627 (by decide) ?_
  refine lv_iadd (pc := 628) hx hb dL_law_628 ?_
  rw [show nI i + (2 : Int32) = nI (i + 2) from nI_add i 2]
  refine va_sld (pc := 629) hx hb hX hbl hbA w.2.2.1 (vp_in_nI (show i + 2 < L by omega) (by omega)) dL_law_629 ?_
  rw [nI_clamp (show i + 2 < 2 ^ 31 by omega)]
  refine s_cvi (pc := 630) [.int (xs (i + 1)), .int (xs (i + 2))] (fun ad => [.ref (ad 61), .int (xs (i + 1)), .int (xs (i + 2))]) F w (m_Yard_table _ _ _ _ _ h1) rfl rfl hl.1 ds_61 vc_X11 rfl ok_X11_table rfl kc_X11_table kl_L_47 ki_X11_table kv_X11_table kn_X11 ⟨Nat.le_trans (by decide) hR1, Nat.le_trans (by decide) hR2⟩ hcs (Nat.le_of_ble_eq_true rfl) dL_law_630 (fun H locs w => ?_)
  refine lv_pop (pc := 633) hx hb dL_law_633 rfl ?_
  refine lv_aload_n (pc := 634) hx hb dL_law_634 rfl (lv_at hl 2 rfl) ?_
  refine lv_aload_n (pc := 635) hx hb dL_law_635 rfl (lv_at hl 0 rfl) ?_
  refine lv_iload_n (pc := 636) hx hb dL_law_636 rfl (lv_at hl 3 rfl) ?_
  refine lv_iconst (pc := 637) (v := 1) hx hb dL_law_637 (by decide) ?_
  refine lv_iadd (pc := 638) hx hb dL_law_638 ?_
  rw [show nI i + (1 : Int32) = nI (i + 1) from nI_add i 1]
  refine va_sld (pc := 639) hx hb hX hbl hbA w.2.2.1 (vp_in_nI (show i + 1 < L by omega) (by omega)) dL_law_639 ?_
  rw [nI_clamp (show i + 1 < 2 ^ 31 by omega)]
  refine lv_aload_n (pc := 640) hx hb dL_law_640 rfl (lv_at hl 0 rfl) ?_
  refine lv_iload_n (pc := 641) hx hb dL_law_641 rfl (lv_at hl 3 rfl) ?_
  refine lv_iconst (pc := 642) (v := 2) hx hb dL_law_642 (by decide) ?_
  refine lv_iadd (pc := 643) hx hb dL_law_643 ?_
  rw [show nI i + (2 : Int32) = nI (i + 2) from nI_add i 2]
  refine va_sld (pc := 644) hx hb hX hbl hbA w.2.2.1 (vp_in_nI (show i + 2 < L by omega) (by omega)) dL_law_644 ?_
  rw [nI_clamp (show i + 2 < 2 ^ 31 by omega)]
  refine s_cvi (pc := 645) [.int (xs (i + 1)), .int (xs (i + 2))] (fun ad => [.ref (ad 0), .int (xs (i + 1)), .int (xs (i + 2))]) F w (m_M_table _ _ _ _ _ h2) rfl rfl hl.1 ds_0 vc_X12 rfl ok_X12_table rfl kc_X12_table kl_L_50 ki_X12_table kv_X12_table kn_X12 ⟨Nat.le_trans (by decide) hR1, Nat.le_trans (by decide) hR2⟩ hcs (Nat.le_of_ble_eq_true rfl) dL_law_645 (fun H locs w => ?_)
  refine lv_pop (pc := 648) hx hb dL_law_648 rfl ?_
  refine lv_goto (pc := 649) (tgt := 1963) hx hb dL_law_649 (by decide) ?_
  exact kk H locs w
set_option maxRecDepth 100000 in
set_option maxHeartbeats 4000000 in
theorem lc_8 (F : Fx p s m args meth c cL_law 4 RL rt dC dI cs A) (hX : va_X b L xs s s.heap) (hbl : b < s.heap.size) (hbA : ¬ A b) (hR1 : 8 ≤ R.frames) (hR2 : 340 ≤ R.locals) (hcs : cells ≤ R.cells ∧ slots ≤ R.slots) {S S1 S2 : SS} {r1 r2 : Int32} (hi : i + 6 ≤ L) (hL : L ≤ 3072) (w : Wo dC dI cs ad A s.heap D0 S H locs) (hl : lv_has ls 4 [(0, .ref b), (1, .ref (ad 61)), (2, .ref (ad 0)), (3, .int (nI i))]) (h1 : f_Yard_route  S = some (r1, S1)) (h2 : f_M_route  S1 = some (r2, S2))
    (kk : ∀ (H : Heap) (locs : List Loc), Wo dC dI cs ad A s.heap D0 S2 H locs → W p l e R s m args below meth c H locs cells slots Q (F0 m 1963 ls [])) : W p l e R s m args below meth c H locs cells slots Q (F0 m 652 ls []) := by
  have hx := F.1.1
  have hb := F.1.2.1
  refine lv_aload_n (pc := 652) hx hb dL_law_652 rfl (lv_at hl 1 rfl) ?_
  refine s_cvi (pc := 653) [] (fun ad => [.ref (ad 61)]) F w (m_Yard_route  _ _ _ h1) rfl rfl hl.1 ds_61 vc_X11 rfl ok_X11_route rfl kc_X11_route kl_L_51 ki_X11_route kv_X11_route kn_X11 ⟨Nat.le_trans (by decide) hR1, Nat.le_trans (by decide) hR2⟩ hcs (Nat.le_of_ble_eq_true rfl) dL_law_653 (fun H locs w => ?_)
  refine lv_pop (pc := 656) hx hb dL_law_656 rfl ?_
  refine lv_aload_n (pc := 657) hx hb dL_law_657 rfl (lv_at hl 2 rfl) ?_
  refine s_cvi (pc := 658) [] (fun ad => [.ref (ad 0)]) F w (m_M_route  _ _ _ h2) rfl rfl hl.1 ds_0 vc_X12 rfl ok_X12_route rfl kc_X12_route kl_L_55 ki_X12_route kv_X12_route kn_X12 ⟨Nat.le_trans (by decide) hR1, Nat.le_trans (by decide) hR2⟩ hcs (Nat.le_of_ble_eq_true rfl) dL_law_658 (fun H locs w => ?_)
  refine lv_pop (pc := 661) hx hb dL_law_661 rfl ?_
  refine lv_goto (pc := 662) (tgt := 1963) hx hb dL_law_662 (by decide) ?_
  exact kk H locs w
set_option maxRecDepth 100000 in
set_option maxHeartbeats 4000000 in
theorem lc_9 (F : Fx p s m args meth c cL_law 4 RL rt dC dI cs A) (hX : va_X b L xs s s.heap) (hbl : b < s.heap.size) (hbA : ¬ A b) (hR1 : 8 ≤ R.frames) (hR2 : 340 ≤ R.locals) (hcs : cells ≤ R.cells ∧ slots ≤ R.slots) {S S1 S2 : SS} {r1 r2 : Int32} (hi : i + 6 ≤ L) (hL : L ≤ 3072) (w : Wo dC dI cs ad A s.heap D0 S H locs) (hl : lv_has ls 4 [(0, .ref b), (1, .ref (ad 61)), (2, .ref (ad 0)), (3, .int (nI i))]) (h1 : f_Yard_via (xs (i + 1)) (xs (i + 2)) (xs (i + 3)) (xs (i + 4)) S = some (r1, S1)) (h2 : f_M_via (xs (i + 1)) (xs (i + 2)) (xs (i + 3)) (xs (i + 4)) S1 = some (r2, S2))
    (kk : ∀ (H : Heap) (locs : List Loc), Wo dC dI cs ad A s.heap D0 S2 H locs → W p l e R s m args below meth c H locs cells slots Q (F0 m 1963 ls [])) : W p l e R s m args below meth c H locs cells slots Q (F0 m 665 ls []) := by
  have hx := F.1.1
  have hb := F.1.2.1
  refine lv_aload_n (pc := 665) hx hb dL_law_665 rfl (lv_at hl 1 rfl) ?_
  refine lv_aload_n (pc := 666) hx hb dL_law_666 rfl (lv_at hl 0 rfl) ?_
  refine lv_iload_n (pc := 667) hx hb dL_law_667 rfl (lv_at hl 3 rfl) ?_
  refine lv_iconst (pc := 668) (v := 1) hx hb dL_law_668 (by decide) ?_
  refine lv_iadd (pc := 669) hx hb dL_law_669 ?_
  rw [show nI i + (1 : Int32) = nI (i + 1) from nI_add i 1]
  refine va_sld (pc := 670) hx hb hX hbl hbA w.2.2.1 (vp_in_nI (show i + 1 < L by omega) (by omega)) dL_law_670 ?_
  rw [nI_clamp (show i + 1 < 2 ^ 31 by omega)]
  refine lv_aload_n (pc := 671) hx hb dL_law_671 rfl (lv_at hl 0 rfl) ?_
  refine lv_iload_n (pc := 672) hx hb dL_law_672 rfl (lv_at hl 3 rfl) ?_
  refine lv_iconst (pc := 673) (v := 2) hx hb dL_law_673 (by decide) ?_
  refine lv_iadd (pc := 674) hx hb dL_law_674 ?_
  rw [show nI i + (2 : Int32) = nI (i + 2) from nI_add i 2]
  refine va_sld (pc := 675) hx hb hX hbl hbA w.2.2.1 (vp_in_nI (show i + 2 < L by omega) (by omega)) dL_law_675 ?_
  rw [nI_clamp (show i + 2 < 2 ^ 31 by omega)]
  refine lv_aload_n (pc := 676) hx hb dL_law_676 rfl (lv_at hl 0 rfl) ?_
  refine lv_iload_n (pc := 677) hx hb dL_law_677 rfl (lv_at hl 3 rfl) ?_
  refine lv_iconst (pc := 678) (v := 3) hx hb dL_law_678 (by decide) ?_
  refine lv_iadd (pc := 679) hx hb dL_law_679 ?_
  rw [show nI i + (3 : Int32) = nI (i + 3) from nI_add i 3]
  refine va_sld (pc := 680) hx hb hX hbl hbA w.2.2.1 (vp_in_nI (show i + 3 < L by omega) (by omega)) dL_law_680 ?_
  rw [nI_clamp (show i + 3 < 2 ^ 31 by omega)]
  refine lv_aload_n (pc := 681) hx hb dL_law_681 rfl (lv_at hl 0 rfl) ?_
  refine lv_iload_n (pc := 682) hx hb dL_law_682 rfl (lv_at hl 3 rfl) ?_
  refine lv_iconst (pc := 683) (v := 4) hx hb dL_law_683 (by decide) ?_
  refine lv_iadd (pc := 684) hx hb dL_law_684 ?_
  rw [show nI i + (4 : Int32) = nI (i + 4) from nI_add i 4]
  refine va_sld (pc := 685) hx hb hX hbl hbA w.2.2.1 (vp_in_nI (show i + 4 < L by omega) (by omega)) dL_law_685 ?_
  rw [nI_clamp (show i + 4 < 2 ^ 31 by omega)]
  refine s_cvi (pc := 686) [.int (xs (i + 1)), .int (xs (i + 2)), .int (xs (i + 3)), .int (xs (i + 4))] (fun ad => [.ref (ad 61), .int (xs (i + 1)), .int (xs (i + 2)), .int (xs (i + 3)), .int (xs (i + 4))]) F w (m_Yard_via _ _ _ _ _ _ _ h1) rfl rfl hl.1 ds_61 vc_X11 rfl ok_X11_via rfl kc_X11_via kl_L_56 ki_X11_via kv_X11_via kn_X11 ⟨Nat.le_trans (by decide) hR1, Nat.le_trans (by decide) hR2⟩ hcs (Nat.le_of_ble_eq_true rfl) dL_law_686 (fun H locs w => ?_)
  refine lv_pop (pc := 689) hx hb dL_law_689 rfl ?_
  refine lv_aload_n (pc := 690) hx hb dL_law_690 rfl (lv_at hl 2 rfl) ?_
  refine lv_aload_n (pc := 691) hx hb dL_law_691 rfl (lv_at hl 0 rfl) ?_
  refine lv_iload_n (pc := 692) hx hb dL_law_692 rfl (lv_at hl 3 rfl) ?_
  refine lv_iconst (pc := 693) (v := 1) hx hb dL_law_693 (by decide) ?_
  refine lv_iadd (pc := 694) hx hb dL_law_694 ?_
  rw [show nI i + (1 : Int32) = nI (i + 1) from nI_add i 1]
  refine va_sld (pc := 695) hx hb hX hbl hbA w.2.2.1 (vp_in_nI (show i + 1 < L by omega) (by omega)) dL_law_695 ?_
  rw [nI_clamp (show i + 1 < 2 ^ 31 by omega)]
  refine lv_aload_n (pc := 696) hx hb dL_law_696 rfl (lv_at hl 0 rfl) ?_
  refine lv_iload_n (pc := 697) hx hb dL_law_697 rfl (lv_at hl 3 rfl) ?_
  refine lv_iconst (pc := 698) (v := 2) hx hb dL_law_698 (by decide) ?_
  refine lv_iadd (pc := 699) hx hb dL_law_699 ?_
  rw [show nI i + (2 : Int32) = nI (i + 2) from nI_add i 2]
  refine va_sld (pc := 700) hx hb hX hbl hbA w.2.2.1 (vp_in_nI (show i + 2 < L by omega) (by omega)) dL_law_700 ?_
  rw [nI_clamp (show i + 2 < 2 ^ 31 by omega)]
  refine lv_aload_n (pc := 701) hx hb dL_law_701 rfl (lv_at hl 0 rfl) ?_
  refine lv_iload_n (pc := 702) hx hb dL_law_702 rfl (lv_at hl 3 rfl) ?_
  refine lv_iconst (pc := 703) (v := 3) hx hb dL_law_703 (by decide) ?_
  refine lv_iadd (pc := 704) hx hb dL_law_704 ?_
  rw [show nI i + (3 : Int32) = nI (i + 3) from nI_add i 3]
  refine va_sld (pc := 705) hx hb hX hbl hbA w.2.2.1 (vp_in_nI (show i + 3 < L by omega) (by omega)) dL_law_705 ?_
  rw [nI_clamp (show i + 3 < 2 ^ 31 by omega)]
  refine lv_aload_n (pc := 706) hx hb dL_law_706 rfl (lv_at hl 0 rfl) ?_
  refine lv_iload_n (pc := 707) hx hb dL_law_707 rfl (lv_at hl 3 rfl) ?_
  refine lv_iconst (pc := 708) (v := 4) hx hb dL_law_708 (by decide) ?_
  refine lv_iadd (pc := 709) hx hb dL_law_709 ?_
  rw [show nI i + (4 : Int32) = nI (i + 4) from nI_add i 4]
  refine va_sld (pc := 710) hx hb hX hbl hbA w.2.2.1 (vp_in_nI (show i + 4 < L by omega) (by omega)) dL_law_710 ?_
  rw [nI_clamp (show i + 4 < 2 ^ 31 by omega)]
  refine s_cvi (pc := 711) [.int (xs (i + 1)), .int (xs (i + 2)), .int (xs (i + 3)), .int (xs (i + 4))] (fun ad => [.ref (ad 0), .int (xs (i + 1)), .int (xs (i + 2)), .int (xs (i + 3)), .int (xs (i + 4))]) F w (m_M_via _ _ _ _ _ _ _ h2) rfl rfl hl.1 ds_0 vc_X12 rfl ok_X12_via rfl kc_X12_via kl_L_59 ki_X12_via kv_X12_via kn_X12 ⟨Nat.le_trans (by decide) hR1, Nat.le_trans (by decide) hR2⟩ hcs (Nat.le_of_ble_eq_true rfl) dL_law_711 (fun H locs w => ?_)
  refine lv_pop (pc := 714) hx hb dL_law_714 rfl ?_
  refine lv_goto (pc := 715) (tgt := 1963) hx hb dL_law_715 (by decide) ?_
  exact kk H locs w
set_option maxRecDepth 100000 in
set_option maxHeartbeats 4000000 in
theorem lc_10 (F : Fx p s m args meth c cL_law 4 RL rt dC dI cs A) (hX : va_X b L xs s s.heap) (hbl : b < s.heap.size) (hbA : ¬ A b) (hR1 : 8 ≤ R.frames) (hR2 : 340 ≤ R.locals) (hcs : cells ≤ R.cells ∧ slots ≤ R.slots) {S S1 S2 : SS} {r1 r2 : Int32} (hi : i + 6 ≤ L) (hL : L ≤ 3072) (w : Wo dC dI cs ad A s.heap D0 S H locs) (hl : lv_has ls 4 [(0, .ref b), (1, .ref (ad 61)), (2, .ref (ad 0)), (3, .int (nI i))]) (h1 : f_Yard_load (xs (i + 1)) (xs (i + 2)) (xs (i + 3)) S = some (r1, S1)) (h2 : f_M_load (xs (i + 1)) (xs (i + 2)) (xs (i + 3)) S1 = some (r2, S2))
    (kk : ∀ (H : Heap) (locs : List Loc), Wo dC dI cs ad A s.heap D0 S2 H locs → W p l e R s m args below meth c H locs cells slots Q (F0 m 1963 ls [])) : W p l e R s m args below meth c H locs cells slots Q (F0 m 718 ls []) := by
  have hx := F.1.1
  have hb := F.1.2.1
  refine lv_aload_n (pc := 718) hx hb dL_law_718 rfl (lv_at hl 1 rfl) ?_
  refine lv_aload_n (pc := 719) hx hb dL_law_719 rfl (lv_at hl 0 rfl) ?_
  refine lv_iload_n (pc := 720) hx hb dL_law_720 rfl (lv_at hl 3 rfl) ?_
  refine lv_iconst (pc := 721) (v := 1) hx hb dL_law_721 (by decide) ?_
  refine lv_iadd (pc := 722) hx hb dL_law_722 ?_
  rw [show nI i + (1 : Int32) = nI (i + 1) from nI_add i 1]
  refine va_sld (pc := 723) hx hb hX hbl hbA w.2.2.1 (vp_in_nI (show i + 1 < L by omega) (by omega)) dL_law_723 ?_
  rw [nI_clamp (show i + 1 < 2 ^ 31 by omega)]
  refine lv_aload_n (pc := 724) hx hb dL_law_724 rfl (lv_at hl 0 rfl) ?_
  refine lv_iload_n (pc := 725) hx hb dL_law_725 rfl (lv_at hl 3 rfl) ?_
  refine lv_iconst (pc := 726) (v := 2) hx hb dL_law_726 (by decide) ?_
  refine lv_iadd (pc := 727) hx hb dL_law_727 ?_
  rw [show nI i + (2 : Int32) = nI (i + 2) from nI_add i 2]
  refine va_sld (pc := 728) hx hb hX hbl hbA w.2.2.1 (vp_in_nI (show i + 2 < L by omega) (by omega)) dL_law_728 ?_
  rw [nI_clamp (show i + 2 < 2 ^ 31 by omega)]
  refine lv_aload_n (pc := 729) hx hb dL_law_729 rfl (lv_at hl 0 rfl) ?_
  refine lv_iload_n (pc := 730) hx hb dL_law_730 rfl (lv_at hl 3 rfl) ?_
  refine lv_iconst (pc := 731) (v := 3) hx hb dL_law_731 (by decide) ?_
  refine lv_iadd (pc := 732) hx hb dL_law_732 ?_
  rw [show nI i + (3 : Int32) = nI (i + 3) from nI_add i 3]
  refine va_sld (pc := 733) hx hb hX hbl hbA w.2.2.1 (vp_in_nI (show i + 3 < L by omega) (by omega)) dL_law_733 ?_
  rw [nI_clamp (show i + 3 < 2 ^ 31 by omega)]
  refine s_cvi (pc := 734) [.int (xs (i + 1)), .int (xs (i + 2)), .int (xs (i + 3))] (fun ad => [.ref (ad 61), .int (xs (i + 1)), .int (xs (i + 2)), .int (xs (i + 3))]) F w (m_Yard_load _ _ _ _ _ _ h1) rfl rfl hl.1 ds_61 vc_X11 rfl ok_X11_load rfl kc_X11_load kl_L_60 ki_X11_load kv_X11_load kn_X11 ⟨Nat.le_trans (by decide) hR1, Nat.le_trans (by decide) hR2⟩ hcs (Nat.le_of_ble_eq_true rfl) dL_law_734 (fun H locs w => ?_)
  refine lv_pop (pc := 737) hx hb dL_law_737 rfl ?_
  refine lv_aload_n (pc := 738) hx hb dL_law_738 rfl (lv_at hl 2 rfl) ?_
  refine lv_aload_n (pc := 739) hx hb dL_law_739 rfl (lv_at hl 0 rfl) ?_
  refine lv_iload_n (pc := 740) hx hb dL_law_740 rfl (lv_at hl 3 rfl) ?_
  refine lv_iconst (pc := 741) (v := 1) hx hb dL_law_741 (by decide) ?_
  refine lv_iadd (pc := 742) hx hb dL_law_742 ?_
  rw [show nI i + (1 : Int32) = nI (i + 1) from nI_add i 1]
  refine va_sld (pc := 743) hx hb hX hbl hbA w.2.2.1 (vp_in_nI (show i + 1 < L by omega) (by omega)) dL_law_743 ?_
  rw [nI_clamp (show i + 1 < 2 ^ 31 by omega)]
  refine lv_aload_n (pc := 744) hx hb dL_law_744 rfl (lv_at hl 0 rfl) ?_
  refine lv_iload_n (pc := 745) hx hb dL_law_745 rfl (lv_at hl 3 rfl) ?_
  refine lv_iconst (pc := 746) (v := 2) hx hb dL_law_746 (by decide) ?_
  refine lv_iadd (pc := 747) hx hb dL_law_747 ?_
  rw [show nI i + (2 : Int32) = nI (i + 2) from nI_add i 2]
  refine va_sld (pc := 748) hx hb hX hbl hbA w.2.2.1 (vp_in_nI (show i + 2 < L by omega) (by omega)) dL_law_748 ?_
  rw [nI_clamp (show i + 2 < 2 ^ 31 by omega)]
  refine lv_aload_n (pc := 749) hx hb dL_law_749 rfl (lv_at hl 0 rfl) ?_
  refine lv_iload_n (pc := 750) hx hb dL_law_750 rfl (lv_at hl 3 rfl) ?_
  refine lv_iconst (pc := 751) (v := 3) hx hb dL_law_751 (by decide) ?_
  refine lv_iadd (pc := 752) hx hb dL_law_752 ?_
  rw [show nI i + (3 : Int32) = nI (i + 3) from nI_add i 3]
  refine va_sld (pc := 753) hx hb hX hbl hbA w.2.2.1 (vp_in_nI (show i + 3 < L by omega) (by omega)) dL_law_753 ?_
  rw [nI_clamp (show i + 3 < 2 ^ 31 by omega)]
  refine s_cvi (pc := 754) [.int (xs (i + 1)), .int (xs (i + 2)), .int (xs (i + 3))] (fun ad => [.ref (ad 0), .int (xs (i + 1)), .int (xs (i + 2)), .int (xs (i + 3))]) F w (m_M_load _ _ _ _ _ _ h2) rfl rfl hl.1 ds_0 vc_X12 rfl ok_X12_load rfl kc_X12_load kl_L_64 ki_X12_load kv_X12_load kn_X12 ⟨Nat.le_trans (by decide) hR1, Nat.le_trans (by decide) hR2⟩ hcs (Nat.le_of_ble_eq_true rfl) dL_law_754 (fun H locs w => ?_)
  refine lv_pop (pc := 757) hx hb dL_law_757 rfl ?_
  refine lv_goto (pc := 758) (tgt := 1963) hx hb dL_law_758 (by decide) ?_
  exact kk H locs w
set_option maxRecDepth 100000 in
set_option maxHeartbeats 4000000 in
theorem lc_11 (F : Fx p s m args meth c cL_law 4 RL rt dC dI cs A) (hX : va_X b L xs s s.heap) (hbl : b < s.heap.size) (hbA : ¬ A b) (hR1 : 8 ≤ R.frames) (hR2 : 340 ≤ R.locals) (hcs : cells ≤ R.cells ∧ slots ≤ R.slots) {S S1 S2 : SS} {r1 r2 : Int32} (hi : i + 6 ≤ L) (hL : L ≤ 3072) (w : Wo dC dI cs ad A s.heap D0 S H locs) (hl : lv_has ls 4 [(0, .ref b), (1, .ref (ad 61)), (2, .ref (ad 0)), (3, .int (nI i))]) (h1 : f_Yard_piece (xs (i + 1)) (xs (i + 2)) (xs (i + 3)) (xs (i + 4)) S = some (r1, S1)) (h2 : f_M_piece (xs (i + 1)) (xs (i + 2)) (xs (i + 3)) (xs (i + 4)) S1 = some (r2, S2))
    (kk : ∀ (H : Heap) (locs : List Loc), Wo dC dI cs ad A s.heap D0 S2 H locs → W p l e R s m args below meth c H locs cells slots Q (F0 m 1963 ls [])) : W p l e R s m args below meth c H locs cells slots Q (F0 m 761 ls []) := by
  have hx := F.1.1
  have hb := F.1.2.1
  refine lv_aload_n (pc := 761) hx hb dL_law_761 rfl (lv_at hl 1 rfl) ?_
  refine lv_aload_n (pc := 762) hx hb dL_law_762 rfl (lv_at hl 0 rfl) ?_
  refine lv_iload_n (pc := 763) hx hb dL_law_763 rfl (lv_at hl 3 rfl) ?_
  refine lv_iconst (pc := 764) (v := 1) hx hb dL_law_764 (by decide) ?_
  refine lv_iadd (pc := 765) hx hb dL_law_765 ?_
  rw [show nI i + (1 : Int32) = nI (i + 1) from nI_add i 1]
  refine va_sld (pc := 766) hx hb hX hbl hbA w.2.2.1 (vp_in_nI (show i + 1 < L by omega) (by omega)) dL_law_766 ?_
  rw [nI_clamp (show i + 1 < 2 ^ 31 by omega)]
  refine lv_aload_n (pc := 767) hx hb dL_law_767 rfl (lv_at hl 0 rfl) ?_
  refine lv_iload_n (pc := 768) hx hb dL_law_768 rfl (lv_at hl 3 rfl) ?_
  refine lv_iconst (pc := 769) (v := 2) hx hb dL_law_769 (by decide) ?_
  refine lv_iadd (pc := 770) hx hb dL_law_770 ?_
  rw [show nI i + (2 : Int32) = nI (i + 2) from nI_add i 2]
  refine va_sld (pc := 771) hx hb hX hbl hbA w.2.2.1 (vp_in_nI (show i + 2 < L by omega) (by omega)) dL_law_771 ?_
  rw [nI_clamp (show i + 2 < 2 ^ 31 by omega)]
  refine lv_aload_n (pc := 772) hx hb dL_law_772 rfl (lv_at hl 0 rfl) ?_
  refine lv_iload_n (pc := 773) hx hb dL_law_773 rfl (lv_at hl 3 rfl) ?_
  refine lv_iconst (pc := 774) (v := 3) hx hb dL_law_774 (by decide) ?_
  refine lv_iadd (pc := 775) hx hb dL_law_775 ?_
  rw [show nI i + (3 : Int32) = nI (i + 3) from nI_add i 3]
  refine va_sld (pc := 776) hx hb hX hbl hbA w.2.2.1 (vp_in_nI (show i + 3 < L by omega) (by omega)) dL_law_776 ?_
  rw [nI_clamp (show i + 3 < 2 ^ 31 by omega)]
  refine lv_aload_n (pc := 777) hx hb dL_law_777 rfl (lv_at hl 0 rfl) ?_
  refine lv_iload_n (pc := 778) hx hb dL_law_778 rfl (lv_at hl 3 rfl) ?_
  refine lv_iconst (pc := 779) (v := 4) hx hb dL_law_779 (by decide) ?_
  refine lv_iadd (pc := 780) hx hb dL_law_780 ?_
  rw [show nI i + (4 : Int32) = nI (i + 4) from nI_add i 4]
  refine va_sld (pc := 781) hx hb hX hbl hbA w.2.2.1 (vp_in_nI (show i + 4 < L by omega) (by omega)) dL_law_781 ?_
  rw [nI_clamp (show i + 4 < 2 ^ 31 by omega)]
  refine s_cvi (pc := 782) [.int (xs (i + 1)), .int (xs (i + 2)), .int (xs (i + 3)), .int (xs (i + 4))] (fun ad => [.ref (ad 61), .int (xs (i + 1)), .int (xs (i + 2)), .int (xs (i + 3)), .int (xs (i + 4))]) F w (m_Yard_piece _ _ _ _ _ _ _ h1) rfl rfl hl.1 ds_61 vc_X11 rfl ok_X11_piece rfl kc_X11_piece kl_L_65 ki_X11_piece kv_X11_piece kn_X11 ⟨Nat.le_trans (by decide) hR1, Nat.le_trans (by decide) hR2⟩ hcs (Nat.le_of_ble_eq_true rfl) dL_law_782 (fun H locs w => ?_)
  refine lv_pop (pc := 785) hx hb dL_law_785 rfl ?_
  refine lv_aload_n (pc := 786) hx hb dL_law_786 rfl (lv_at hl 2 rfl) ?_
  refine lv_aload_n (pc := 787) hx hb dL_law_787 rfl (lv_at hl 0 rfl) ?_
  refine lv_iload_n (pc := 788) hx hb dL_law_788 rfl (lv_at hl 3 rfl) ?_
  refine lv_iconst (pc := 789) (v := 1) hx hb dL_law_789 (by decide) ?_
  refine lv_iadd (pc := 790) hx hb dL_law_790 ?_
  rw [show nI i + (1 : Int32) = nI (i + 1) from nI_add i 1]
  refine va_sld (pc := 791) hx hb hX hbl hbA w.2.2.1 (vp_in_nI (show i + 1 < L by omega) (by omega)) dL_law_791 ?_
  rw [nI_clamp (show i + 1 < 2 ^ 31 by omega)]
  refine lv_aload_n (pc := 792) hx hb dL_law_792 rfl (lv_at hl 0 rfl) ?_
  refine lv_iload_n (pc := 793) hx hb dL_law_793 rfl (lv_at hl 3 rfl) ?_
  refine lv_iconst (pc := 794) (v := 2) hx hb dL_law_794 (by decide) ?_
  refine lv_iadd (pc := 795) hx hb dL_law_795 ?_
  rw [show nI i + (2 : Int32) = nI (i + 2) from nI_add i 2]
  refine va_sld (pc := 796) hx hb hX hbl hbA w.2.2.1 (vp_in_nI (show i + 2 < L by omega) (by omega)) dL_law_796 ?_
  rw [nI_clamp (show i + 2 < 2 ^ 31 by omega)]
  refine lv_aload_n (pc := 797) hx hb dL_law_797 rfl (lv_at hl 0 rfl) ?_
  refine lv_iload_n (pc := 798) hx hb dL_law_798 rfl (lv_at hl 3 rfl) ?_
  refine lv_iconst (pc := 799) (v := 3) hx hb dL_law_799 (by decide) ?_
  refine lv_iadd (pc := 800) hx hb dL_law_800 ?_
  rw [show nI i + (3 : Int32) = nI (i + 3) from nI_add i 3]
  refine va_sld (pc := 801) hx hb hX hbl hbA w.2.2.1 (vp_in_nI (show i + 3 < L by omega) (by omega)) dL_law_801 ?_
  rw [nI_clamp (show i + 3 < 2 ^ 31 by omega)]
  refine lv_aload_n (pc := 802) hx hb dL_law_802 rfl (lv_at hl 0 rfl) ?_
  refine lv_iload_n (pc := 803) hx hb dL_law_803 rfl (lv_at hl 3 rfl) ?_
  refine lv_iconst (pc := 804) (v := 4) hx hb dL_law_804 (by decide) ?_
  refine lv_iadd (pc := 805) hx hb dL_law_805 ?_
  rw [show nI i + (4 : Int32) = nI (i + 4) from nI_add i 4]
  refine va_sld (pc := 806) hx hb hX hbl hbA w.2.2.1 (vp_in_nI (show i + 4 < L by omega) (by omega)) dL_law_806 ?_
  rw [nI_clamp (show i + 4 < 2 ^ 31 by omega)]
  refine s_cvi (pc := 807) [.int (xs (i + 1)), .int (xs (i + 2)), .int (xs (i + 3)), .int (xs (i + 4))] (fun ad => [.ref (ad 0), .int (xs (i + 1)), .int (xs (i + 2)), .int (xs (i + 3)), .int (xs (i + 4))]) F w (m_M_piece _ _ _ _ _ _ _ h2) rfl rfl hl.1 ds_0 vc_X12 rfl ok_X12_piece rfl kc_X12_piece kl_L_68 ki_X12_piece kv_X12_piece kn_X12 ⟨Nat.le_trans (by decide) hR1, Nat.le_trans (by decide) hR2⟩ hcs (Nat.le_of_ble_eq_true rfl) dL_law_807 (fun H locs w => ?_)
  refine lv_pop (pc := 810) hx hb dL_law_810 rfl ?_
  refine lv_goto (pc := 811) (tgt := 1963) hx hb dL_law_811 (by decide) ?_
  exact kk H locs w
set_option maxRecDepth 100000 in
set_option maxHeartbeats 4000000 in
theorem lc_12 (F : Fx p s m args meth c cL_law 4 RL rt dC dI cs A) (hX : va_X b L xs s s.heap) (hbl : b < s.heap.size) (hbA : ¬ A b) (hR1 : 8 ≤ R.frames) (hR2 : 340 ≤ R.locals) (hcs : cells ≤ R.cells ∧ slots ≤ R.slots) {S S1 S2 : SS} {r1 r2 : Int32} (hi : i + 6 ≤ L) (hL : L ≤ 3072) (w : Wo dC dI cs ad A s.heap D0 S H locs) (hl : lv_has ls 4 [(0, .ref b), (1, .ref (ad 61)), (2, .ref (ad 0)), (3, .int (nI i))]) (h1 : f_Yard_danger (xs (i + 1)) (xs (i + 2)) S = some (r1, S1)) (h2 : f_M_danger (xs (i + 1)) (xs (i + 2)) S1 = some (r2, S2))
    (kk : ∀ (H : Heap) (locs : List Loc), Wo dC dI cs ad A s.heap D0 S2 H locs → W p l e R s m args below meth c H locs cells slots Q (F0 m 1963 ls [])) : W p l e R s m args below meth c H locs cells slots Q (F0 m 814 ls []) := by
  have hx := F.1.1
  have hb := F.1.2.1
  refine lv_aload_n (pc := 814) hx hb dL_law_814 rfl (lv_at hl 1 rfl) ?_
  refine lv_aload_n (pc := 815) hx hb dL_law_815 rfl (lv_at hl 0 rfl) ?_
  refine lv_iload_n (pc := 816) hx hb dL_law_816 rfl (lv_at hl 3 rfl) ?_
  refine lv_iconst (pc := 817) (v := 1) hx hb dL_law_817 (by decide) ?_
  refine lv_iadd (pc := 818) hx hb dL_law_818 ?_
  rw [show nI i + (1 : Int32) = nI (i + 1) from nI_add i 1]
  refine va_sld (pc := 819) hx hb hX hbl hbA w.2.2.1 (vp_in_nI (show i + 1 < L by omega) (by omega)) dL_law_819 ?_
  rw [nI_clamp (show i + 1 < 2 ^ 31 by omega)]
  refine lv_aload_n (pc := 820) hx hb dL_law_820 rfl (lv_at hl 0 rfl) ?_
  refine lv_iload_n (pc := 821) hx hb dL_law_821 rfl (lv_at hl 3 rfl) ?_
  refine lv_iconst (pc := 822) (v := 2) hx hb dL_law_822 (by decide) ?_
  refine lv_iadd (pc := 823) hx hb dL_law_823 ?_
  rw [show nI i + (2 : Int32) = nI (i + 2) from nI_add i 2]
  refine va_sld (pc := 824) hx hb hX hbl hbA w.2.2.1 (vp_in_nI (show i + 2 < L by omega) (by omega)) dL_law_824 ?_
  rw [nI_clamp (show i + 2 < 2 ^ 31 by omega)]
  refine s_cvi (pc := 825) [.int (xs (i + 1)), .int (xs (i + 2))] (fun ad => [.ref (ad 61), .int (xs (i + 1)), .int (xs (i + 2))]) F w (m_Yard_danger _ _ _ _ _ h1) rfl rfl hl.1 ds_61 vc_X11 rfl ok_X11_danger rfl kc_X11_danger kl_L_69 ki_X11_danger kv_X11_danger kn_X11 ⟨Nat.le_trans (by decide) hR1, Nat.le_trans (by decide) hR2⟩ hcs (Nat.le_of_ble_eq_true rfl) dL_law_825 (fun H locs w => ?_)
  refine lv_pop (pc := 828) hx hb dL_law_828 rfl ?_
  refine lv_aload_n (pc := 829) hx hb dL_law_829 rfl (lv_at hl 2 rfl) ?_
  refine lv_aload_n (pc := 830) hx hb dL_law_830 rfl (lv_at hl 0 rfl) ?_
  refine lv_iload_n (pc := 831) hx hb dL_law_831 rfl (lv_at hl 3 rfl) ?_
  refine lv_iconst (pc := 832) (v := 1) hx hb dL_law_832 (by decide) ?_
  refine lv_iadd (pc := 833) hx hb dL_law_833 ?_
  rw [show nI i + (1 : Int32) = nI (i + 1) from nI_add i 1]
  refine va_sld (pc := 834) hx hb hX hbl hbA w.2.2.1 (vp_in_nI (show i + 1 < L by omega) (by omega)) dL_law_834 ?_
  rw [nI_clamp (show i + 1 < 2 ^ 31 by omega)]
  refine lv_aload_n (pc := 835) hx hb dL_law_835 rfl (lv_at hl 0 rfl) ?_
  refine lv_iload_n (pc := 836) hx hb dL_law_836 rfl (lv_at hl 3 rfl) ?_
  refine lv_iconst (pc := 837) (v := 2) hx hb dL_law_837 (by decide) ?_
  refine lv_iadd (pc := 838) hx hb dL_law_838 ?_
  rw [show nI i + (2 : Int32) = nI (i + 2) from nI_add i 2]
  refine va_sld (pc := 839) hx hb hX hbl hbA w.2.2.1 (vp_in_nI (show i + 2 < L by omega) (by omega)) dL_law_839 ?_
  rw [nI_clamp (show i + 2 < 2 ^ 31 by omega)]
  refine s_cvi (pc := 840) [.int (xs (i + 1)), .int (xs (i + 2))] (fun ad => [.ref (ad 0), .int (xs (i + 1)), .int (xs (i + 2))]) F w (m_M_danger _ _ _ _ _ h2) rfl rfl hl.1 ds_0 vc_X12 rfl ok_X12_danger rfl kc_X12_danger kl_L_72 ki_X12_danger kv_X12_danger kn_X12 ⟨Nat.le_trans (by decide) hR1, Nat.le_trans (by decide) hR2⟩ hcs (Nat.le_of_ble_eq_true rfl) dL_law_840 (fun H locs w => ?_)
  refine lv_pop (pc := 843) hx hb dL_law_843 rfl ?_
  refine lv_goto (pc := 844) (tgt := 1963) hx hb dL_law_844 (by decide) ?_
  exact kk H locs w
set_option maxRecDepth 100000 in
set_option maxHeartbeats 4000000 in
theorem lc_13 (F : Fx p s m args meth c cL_law 4 RL rt dC dI cs A) (hX : va_X b L xs s s.heap) (hbl : b < s.heap.size) (hbA : ¬ A b) (hR1 : 8 ≤ R.frames) (hR2 : 340 ≤ R.locals) (hcs : cells ≤ R.cells ∧ slots ≤ R.slots) {S S1 S2 : SS} {r1 r2 : Int32} (hi : i + 6 ≤ L) (hL : L ≤ 3072) (w : Wo dC dI cs ad A s.heap D0 S H locs) (hl : lv_has ls 4 [(0, .ref b), (1, .ref (ad 61)), (2, .ref (ad 0)), (3, .int (nI i))]) (h1 : f_Yard_hold (xs (i + 1)) (xs (i + 2)) S = some (r1, S1)) (h2 : f_M_hold (xs (i + 1)) (xs (i + 2)) S1 = some (r2, S2))
    (kk : ∀ (H : Heap) (locs : List Loc), Wo dC dI cs ad A s.heap D0 S2 H locs → W p l e R s m args below meth c H locs cells slots Q (F0 m 1963 ls [])) : W p l e R s m args below meth c H locs cells slots Q (F0 m 847 ls []) := by
  have hx := F.1.1
  have hb := F.1.2.1
  refine lv_aload_n (pc := 847) hx hb dL_law_847 rfl (lv_at hl 1 rfl) ?_
  refine lv_aload_n (pc := 848) hx hb dL_law_848 rfl (lv_at hl 0 rfl) ?_
  refine lv_iload_n (pc := 849) hx hb dL_law_849 rfl (lv_at hl 3 rfl) ?_
  refine lv_iconst (pc := 850) (v := 1) hx hb dL_law_850 (by decide) ?_
  refine lv_iadd (pc := 851) hx hb dL_law_851 ?_
  rw [show nI i + (1 : Int32) = nI (i + 1) from nI_add i 1]
  refine va_sld (pc := 852) hx hb hX hbl hbA w.2.2.1 (vp_in_nI (show i + 1 < L by omega) (by omega)) dL_law_852 ?_
  rw [nI_clamp (show i + 1 < 2 ^ 31 by omega)]
  refine lv_aload_n (pc := 853) hx hb dL_law_853 rfl (lv_at hl 0 rfl) ?_
  refine lv_iload_n (pc := 854) hx hb dL_law_854 rfl (lv_at hl 3 rfl) ?_
  refine lv_iconst (pc := 855) (v := 2) hx hb dL_law_855 (by decide) ?_
  refine lv_iadd (pc := 856) hx hb dL_law_856 ?_
  rw [show nI i + (2 : Int32) = nI (i + 2) from nI_add i 2]
  refine va_sld (pc := 857) hx hb hX hbl hbA w.2.2.1 (vp_in_nI (show i + 2 < L by omega) (by omega)) dL_law_857 ?_
  rw [nI_clamp (show i + 2 < 2 ^ 31 by omega)]
  refine s_cvi (pc := 858) [.int (xs (i + 1)), .int (xs (i + 2))] (fun ad => [.ref (ad 61), .int (xs (i + 1)), .int (xs (i + 2))]) F w (m_Yard_hold _ _ _ _ _ h1) rfl rfl hl.1 ds_61 vc_X11 rfl ok_X11_hold rfl kc_X11_hold kl_L_73 ki_X11_hold kv_X11_hold kn_X11 ⟨Nat.le_trans (by decide) hR1, Nat.le_trans (by decide) hR2⟩ hcs (Nat.le_of_ble_eq_true rfl) dL_law_858 (fun H locs w => ?_)
  refine lv_pop (pc := 861) hx hb dL_law_861 rfl ?_
  refine lv_aload_n (pc := 862) hx hb dL_law_862 rfl (lv_at hl 2 rfl) ?_
  refine lv_aload_n (pc := 863) hx hb dL_law_863 rfl (lv_at hl 0 rfl) ?_
  refine lv_iload_n (pc := 864) hx hb dL_law_864 rfl (lv_at hl 3 rfl) ?_
  refine lv_iconst (pc := 865) (v := 1) hx hb dL_law_865 (by decide) ?_
  refine lv_iadd (pc := 866) hx hb dL_law_866 ?_
  rw [show nI i + (1 : Int32) = nI (i + 1) from nI_add i 1]
  refine va_sld (pc := 867) hx hb hX hbl hbA w.2.2.1 (vp_in_nI (show i + 1 < L by omega) (by omega)) dL_law_867 ?_
  rw [nI_clamp (show i + 1 < 2 ^ 31 by omega)]
  refine lv_aload_n (pc := 868) hx hb dL_law_868 rfl (lv_at hl 0 rfl) ?_
  refine lv_iload_n (pc := 869) hx hb dL_law_869 rfl (lv_at hl 3 rfl) ?_
  refine lv_iconst (pc := 870) (v := 2) hx hb dL_law_870 (by decide) ?_
  refine lv_iadd (pc := 871) hx hb dL_law_871 ?_
  rw [show nI i + (2 : Int32) = nI (i + 2) from nI_add i 2]
  refine va_sld (pc := 872) hx hb hX hbl hbA w.2.2.1 (vp_in_nI (show i + 2 < L by omega) (by omega)) dL_law_872 ?_
  rw [nI_clamp (show i + 2 < 2 ^ 31 by omega)]
  refine s_cvi (pc := 873) [.int (xs (i + 1)), .int (xs (i + 2))] (fun ad => [.ref (ad 0), .int (xs (i + 1)), .int (xs (i + 2))]) F w (m_M_hold _ _ _ _ _ h2) rfl rfl hl.1 ds_0 vc_X12 rfl ok_X12_hold rfl kc_X12_hold kl_L_76 ki_X12_hold kv_X12_hold kn_X12 ⟨Nat.le_trans (by decide) hR1, Nat.le_trans (by decide) hR2⟩ hcs (Nat.le_of_ble_eq_true rfl) dL_law_873 (fun H locs w => ?_)
  refine lv_pop (pc := 876) hx hb dL_law_876 rfl ?_
  refine lv_goto (pc := 877) (tgt := 1963) hx hb dL_law_877 (by decide) ?_
  exact kk H locs w
set_option maxRecDepth 100000 in
set_option maxHeartbeats 4000000 in
theorem lc_14 (F : Fx p s m args meth c cL_law 4 RL rt dC dI cs A) (hX : va_X b L xs s s.heap) (hbl : b < s.heap.size) (hbA : ¬ A b) (hR1 : 8 ≤ R.frames) (hR2 : 340 ≤ R.locals) (hcs : cells ≤ R.cells ∧ slots ≤ R.slots) {S S1 S2 : SS} {r1 r2 : Int32} (hi : i + 6 ≤ L) (hL : L ≤ 3072) (w : Wo dC dI cs ad A s.heap D0 S H locs) (hl : lv_has ls 4 [(0, .ref b), (1, .ref (ad 61)), (2, .ref (ad 0)), (3, .int (nI i))]) (h1 : f_Yard_jam (xs (i + 1)) (xs (i + 2)) S = some (r1, S1)) (h2 : f_M_jam (xs (i + 1)) (xs (i + 2)) S1 = some (r2, S2))
    (kk : ∀ (H : Heap) (locs : List Loc), Wo dC dI cs ad A s.heap D0 S2 H locs → W p l e R s m args below meth c H locs cells slots Q (F0 m 1963 ls [])) : W p l e R s m args below meth c H locs cells slots Q (F0 m 880 ls []) := by
  have hx := F.1.1
  have hb := F.1.2.1
  refine lv_aload_n (pc := 880) hx hb dL_law_880 rfl (lv_at hl 1 rfl) ?_
  refine lv_aload_n (pc := 881) hx hb dL_law_881 rfl (lv_at hl 0 rfl) ?_
  refine lv_iload_n (pc := 882) hx hb dL_law_882 rfl (lv_at hl 3 rfl) ?_
  refine lv_iconst (pc := 883) (v := 1) hx hb dL_law_883 (by decide) ?_
  refine lv_iadd (pc := 884) hx hb dL_law_884 ?_
  rw [show nI i + (1 : Int32) = nI (i + 1) from nI_add i 1]
  refine va_sld (pc := 885) hx hb hX hbl hbA w.2.2.1 (vp_in_nI (show i + 1 < L by omega) (by omega)) dL_law_885 ?_
  rw [nI_clamp (show i + 1 < 2 ^ 31 by omega)]
  refine lv_aload_n (pc := 886) hx hb dL_law_886 rfl (lv_at hl 0 rfl) ?_
  refine lv_iload_n (pc := 887) hx hb dL_law_887 rfl (lv_at hl 3 rfl) ?_
  refine lv_iconst (pc := 888) (v := 2) hx hb dL_law_888 (by decide) ?_
  refine lv_iadd (pc := 889) hx hb dL_law_889 ?_
  rw [show nI i + (2 : Int32) = nI (i + 2) from nI_add i 2]
  refine va_sld (pc := 890) hx hb hX hbl hbA w.2.2.1 (vp_in_nI (show i + 2 < L by omega) (by omega)) dL_law_890 ?_
  rw [nI_clamp (show i + 2 < 2 ^ 31 by omega)]
  refine s_cvi (pc := 891) [.int (xs (i + 1)), .int (xs (i + 2))] (fun ad => [.ref (ad 61), .int (xs (i + 1)), .int (xs (i + 2))]) F w (m_Yard_jam _ _ _ _ _ h1) rfl rfl hl.1 ds_61 vc_X11 rfl ok_X11_jam rfl kc_X11_jam kl_L_77 ki_X11_jam kv_X11_jam kn_X11 ⟨Nat.le_trans (by decide) hR1, Nat.le_trans (by decide) hR2⟩ hcs (Nat.le_of_ble_eq_true rfl) dL_law_891 (fun H locs w => ?_)
  refine lv_pop (pc := 894) hx hb dL_law_894 rfl ?_
  refine lv_aload_n (pc := 895) hx hb dL_law_895 rfl (lv_at hl 2 rfl) ?_
  refine lv_aload_n (pc := 896) hx hb dL_law_896 rfl (lv_at hl 0 rfl) ?_
  refine lv_iload_n (pc := 897) hx hb dL_law_897 rfl (lv_at hl 3 rfl) ?_
  refine lv_iconst (pc := 898) (v := 1) hx hb dL_law_898 (by decide) ?_
  refine lv_iadd (pc := 899) hx hb dL_law_899 ?_
  rw [show nI i + (1 : Int32) = nI (i + 1) from nI_add i 1]
  refine va_sld (pc := 900) hx hb hX hbl hbA w.2.2.1 (vp_in_nI (show i + 1 < L by omega) (by omega)) dL_law_900 ?_
  rw [nI_clamp (show i + 1 < 2 ^ 31 by omega)]
  refine lv_aload_n (pc := 901) hx hb dL_law_901 rfl (lv_at hl 0 rfl) ?_
  refine lv_iload_n (pc := 902) hx hb dL_law_902 rfl (lv_at hl 3 rfl) ?_
  refine lv_iconst (pc := 903) (v := 2) hx hb dL_law_903 (by decide) ?_
  refine lv_iadd (pc := 904) hx hb dL_law_904 ?_
  rw [show nI i + (2 : Int32) = nI (i + 2) from nI_add i 2]
  refine va_sld (pc := 905) hx hb hX hbl hbA w.2.2.1 (vp_in_nI (show i + 2 < L by omega) (by omega)) dL_law_905 ?_
  rw [nI_clamp (show i + 2 < 2 ^ 31 by omega)]
  refine s_cvi (pc := 906) [.int (xs (i + 1)), .int (xs (i + 2))] (fun ad => [.ref (ad 0), .int (xs (i + 1)), .int (xs (i + 2))]) F w (m_M_jam _ _ _ _ _ h2) rfl rfl hl.1 ds_0 vc_X12 rfl ok_X12_jam rfl kc_X12_jam kl_L_80 ki_X12_jam kv_X12_jam kn_X12 ⟨Nat.le_trans (by decide) hR1, Nat.le_trans (by decide) hR2⟩ hcs (Nat.le_of_ble_eq_true rfl) dL_law_906 (fun H locs w => ?_)
  refine lv_pop (pc := 909) hx hb dL_law_909 rfl ?_
  refine lv_goto (pc := 910) (tgt := 1963) hx hb dL_law_910 (by decide) ?_
  exact kk H locs w
set_option maxRecDepth 100000 in
set_option maxHeartbeats 4000000 in
theorem lc_15 (F : Fx p s m args meth c cL_law 4 RL rt dC dI cs A) (hX : va_X b L xs s s.heap) (hbl : b < s.heap.size) (hbA : ¬ A b) (hR1 : 8 ≤ R.frames) (hR2 : 340 ≤ R.locals) (hcs : cells ≤ R.cells ∧ slots ≤ R.slots) {S S1 S2 : SS} {r1 r2 : Int32} (hi : i + 6 ≤ L) (hL : L ≤ 3072) (w : Wo dC dI cs ad A s.heap D0 S H locs) (hl : lv_has ls 4 [(0, .ref b), (1, .ref (ad 61)), (2, .ref (ad 0)), (3, .int (nI i))]) (h1 : f_Yard_raise (xs (i + 1)) S = some (r1, S1)) (h2 : f_M_raise (xs (i + 1)) S1 = some (r2, S2))
    (kk : ∀ (H : Heap) (locs : List Loc), Wo dC dI cs ad A s.heap D0 S2 H locs → W p l e R s m args below meth c H locs cells slots Q (F0 m 1963 ls [])) : W p l e R s m args below meth c H locs cells slots Q (F0 m 913 ls []) := by
  have hx := F.1.1
  have hb := F.1.2.1
  refine lv_aload_n (pc := 913) hx hb dL_law_913 rfl (lv_at hl 1 rfl) ?_
  refine lv_aload_n (pc := 914) hx hb dL_law_914 rfl (lv_at hl 0 rfl) ?_
  refine lv_iload_n (pc := 915) hx hb dL_law_915 rfl (lv_at hl 3 rfl) ?_
  refine lv_iconst (pc := 916) (v := 1) hx hb dL_law_916 (by decide) ?_
  refine lv_iadd (pc := 917) hx hb dL_law_917 ?_
  rw [show nI i + (1 : Int32) = nI (i + 1) from nI_add i 1]
  refine va_sld (pc := 918) hx hb hX hbl hbA w.2.2.1 (vp_in_nI (show i + 1 < L by omega) (by omega)) dL_law_918 ?_
  rw [nI_clamp (show i + 1 < 2 ^ 31 by omega)]
  refine s_cvi (pc := 919) [.int (xs (i + 1))] (fun ad => [.ref (ad 61), .int (xs (i + 1))]) F w (m_Yard_raise _ _ _ _ h1) rfl rfl hl.1 ds_61 vc_X11 rfl ok_X11_raise rfl kc_X11_raise kl_L_81 ki_X11_raise kv_X11_raise kn_X11 ⟨Nat.le_trans (by decide) hR1, Nat.le_trans (by decide) hR2⟩ hcs (Nat.le_of_ble_eq_true rfl) dL_law_919 (fun H locs w => ?_)
  refine lv_pop (pc := 922) hx hb dL_law_922 rfl ?_
  refine lv_aload_n (pc := 923) hx hb dL_law_923 rfl (lv_at hl 2 rfl) ?_
  refine lv_aload_n (pc := 924) hx hb dL_law_924 rfl (lv_at hl 0 rfl) ?_
  refine lv_iload_n (pc := 925) hx hb dL_law_925 rfl (lv_at hl 3 rfl) ?_
  refine lv_iconst (pc := 926) (v := 1) hx hb dL_law_926 (by decide) ?_
  refine lv_iadd (pc := 927) hx hb dL_law_927 ?_
  rw [show nI i + (1 : Int32) = nI (i + 1) from nI_add i 1]
  refine va_sld (pc := 928) hx hb hX hbl hbA w.2.2.1 (vp_in_nI (show i + 1 < L by omega) (by omega)) dL_law_928 ?_
  rw [nI_clamp (show i + 1 < 2 ^ 31 by omega)]
  refine s_cvi (pc := 929) [.int (xs (i + 1))] (fun ad => [.ref (ad 0), .int (xs (i + 1))]) F w (m_M_raise _ _ _ _ h2) rfl rfl hl.1 ds_0 vc_X12 rfl ok_X12_raise rfl kc_X12_raise kl_L_84 ki_X12_raise kv_X12_raise kn_X12 ⟨Nat.le_trans (by decide) hR1, Nat.le_trans (by decide) hR2⟩ hcs (Nat.le_of_ble_eq_true rfl) dL_law_929 (fun H locs w => ?_)
  refine lv_pop (pc := 932) hx hb dL_law_932 rfl ?_
  refine lv_goto (pc := 933) (tgt := 1963) hx hb dL_law_933 (by decide) ?_
  exact kk H locs w
set_option maxRecDepth 100000 in
set_option maxHeartbeats 4000000 in
theorem lc_16 (F : Fx p s m args meth c cL_law 4 RL rt dC dI cs A) (hX : va_X b L xs s s.heap) (hbl : b < s.heap.size) (hbA : ¬ A b) (hR1 : 8 ≤ R.frames) (hR2 : 340 ≤ R.locals) (hcs : cells ≤ R.cells ∧ slots ≤ R.slots) {S S1 S2 : SS} {r1 r2 : Int32} (hi : i + 6 ≤ L) (hL : L ≤ 3072) (w : Wo dC dI cs ad A s.heap D0 S H locs) (hl : lv_has ls 4 [(0, .ref b), (1, .ref (ad 61)), (2, .ref (ad 0)), (3, .int (nI i))]) (h1 : f_Yard_turn (xs (i + 1)) (xs (i + 2)) S = some (r1, S1)) (h2 : f_M_turn (xs (i + 1)) (xs (i + 2)) S1 = some (r2, S2))
    (kk : ∀ (H : Heap) (locs : List Loc), Wo dC dI cs ad A s.heap D0 S2 H locs → W p l e R s m args below meth c H locs cells slots Q (F0 m 1963 ls [])) : W p l e R s m args below meth c H locs cells slots Q (F0 m 936 ls []) := by
  have hx := F.1.1
  have hb := F.1.2.1
  refine lv_aload_n (pc := 936) hx hb dL_law_936 rfl (lv_at hl 1 rfl) ?_
  refine lv_aload_n (pc := 937) hx hb dL_law_937 rfl (lv_at hl 0 rfl) ?_
  refine lv_iload_n (pc := 938) hx hb dL_law_938 rfl (lv_at hl 3 rfl) ?_
  refine lv_iconst (pc := 939) (v := 1) hx hb dL_law_939 (by decide) ?_
  refine lv_iadd (pc := 940) hx hb dL_law_940 ?_
  rw [show nI i + (1 : Int32) = nI (i + 1) from nI_add i 1]
  refine va_sld (pc := 941) hx hb hX hbl hbA w.2.2.1 (vp_in_nI (show i + 1 < L by omega) (by omega)) dL_law_941 ?_
  rw [nI_clamp (show i + 1 < 2 ^ 31 by omega)]
  refine lv_aload_n (pc := 942) hx hb dL_law_942 rfl (lv_at hl 0 rfl) ?_
  refine lv_iload_n (pc := 943) hx hb dL_law_943 rfl (lv_at hl 3 rfl) ?_
  refine lv_iconst (pc := 944) (v := 2) hx hb dL_law_944 (by decide) ?_
  refine lv_iadd (pc := 945) hx hb dL_law_945 ?_
  rw [show nI i + (2 : Int32) = nI (i + 2) from nI_add i 2]
  refine va_sld (pc := 946) hx hb hX hbl hbA w.2.2.1 (vp_in_nI (show i + 2 < L by omega) (by omega)) dL_law_946 ?_
  rw [nI_clamp (show i + 2 < 2 ^ 31 by omega)]
  refine s_cvi (pc := 947) [.int (xs (i + 1)), .int (xs (i + 2))] (fun ad => [.ref (ad 61), .int (xs (i + 1)), .int (xs (i + 2))]) F w (m_Yard_turn _ _ _ _ _ h1) rfl rfl hl.1 ds_61 vc_X11 rfl ok_X11_turn rfl kc_X11_turn kl_L_85 ki_X11_turn kv_X11_turn kn_X11 ⟨Nat.le_trans (by decide) hR1, Nat.le_trans (by decide) hR2⟩ hcs (Nat.le_of_ble_eq_true rfl) dL_law_947 (fun H locs w => ?_)
  refine lv_pop (pc := 950) hx hb dL_law_950 rfl ?_
  refine lv_aload_n (pc := 951) hx hb dL_law_951 rfl (lv_at hl 2 rfl) ?_
  refine lv_aload_n (pc := 952) hx hb dL_law_952 rfl (lv_at hl 0 rfl) ?_
  refine lv_iload_n (pc := 953) hx hb dL_law_953 rfl (lv_at hl 3 rfl) ?_
  refine lv_iconst (pc := 954) (v := 1) hx hb dL_law_954 (by decide) ?_
  refine lv_iadd (pc := 955) hx hb dL_law_955 ?_
  rw [show nI i + (1 : Int32) = nI (i + 1) from nI_add i 1]
  refine va_sld (pc := 956) hx hb hX hbl hbA w.2.2.1 (vp_in_nI (show i + 1 < L by omega) (by omega)) dL_law_956 ?_
  rw [nI_clamp (show i + 1 < 2 ^ 31 by omega)]
  refine lv_aload_n (pc := 957) hx hb dL_law_957 rfl (lv_at hl 0 rfl) ?_
  refine lv_iload_n (pc := 958) hx hb dL_law_958 rfl (lv_at hl 3 rfl) ?_
  refine lv_iconst (pc := 959) (v := 2) hx hb dL_law_959 (by decide) ?_
  refine lv_iadd (pc := 960) hx hb dL_law_960 ?_
  rw [show nI i + (2 : Int32) = nI (i + 2) from nI_add i 2]
  refine va_sld (pc := 961) hx hb hX hbl hbA w.2.2.1 (vp_in_nI (show i + 2 < L by omega) (by omega)) dL_law_961 ?_
  rw [nI_clamp (show i + 2 < 2 ^ 31 by omega)]
  refine s_cvi (pc := 962) [.int (xs (i + 1)), .int (xs (i + 2))] (fun ad => [.ref (ad 0), .int (xs (i + 1)), .int (xs (i + 2))]) F w (m_M_turn _ _ _ _ _ h2) rfl rfl hl.1 ds_0 vc_X12 rfl ok_X12_turn rfl kc_X12_turn kl_L_88 ki_X12_turn kv_X12_turn kn_X12 ⟨Nat.le_trans (by decide) hR1, Nat.le_trans (by decide) hR2⟩ hcs (Nat.le_of_ble_eq_true rfl) dL_law_962 (fun H locs w => ?_)
  refine lv_pop (pc := 965) hx hb dL_law_965 rfl ?_
  refine lv_goto (pc := 966) (tgt := 1963) hx hb dL_law_966 (by decide) ?_
  exact kk H locs w
set_option maxRecDepth 100000 in
set_option maxHeartbeats 4000000 in
theorem lc_17 (F : Fx p s m args meth c cL_law 4 RL rt dC dI cs A) (hX : va_X b L xs s s.heap) (hbl : b < s.heap.size) (hbA : ¬ A b) (hR1 : 8 ≤ R.frames) (hR2 : 340 ≤ R.locals) (hcs : cells ≤ R.cells ∧ slots ≤ R.slots) {S S1 S2 : SS} {r1 r2 : Int32} (hi : i + 6 ≤ L) (hL : L ≤ 3072) (w : Wo dC dI cs ad A s.heap D0 S H locs) (hl : lv_has ls 4 [(0, .ref b), (1, .ref (ad 61)), (2, .ref (ad 0)), (3, .int (nI i))]) (h1 : f_Yard_lock (xs (i + 1)) S = some (r1, S1)) (h2 : f_M_lock (xs (i + 1)) S1 = some (r2, S2))
    (kk : ∀ (H : Heap) (locs : List Loc), Wo dC dI cs ad A s.heap D0 S2 H locs → W p l e R s m args below meth c H locs cells slots Q (F0 m 1963 ls [])) : W p l e R s m args below meth c H locs cells slots Q (F0 m 969 ls []) := by
  have hx := F.1.1
  have hb := F.1.2.1
  refine lv_aload_n (pc := 969) hx hb dL_law_969 rfl (lv_at hl 1 rfl) ?_
  refine lv_aload_n (pc := 970) hx hb dL_law_970 rfl (lv_at hl 0 rfl) ?_
  refine lv_iload_n (pc := 971) hx hb dL_law_971 rfl (lv_at hl 3 rfl) ?_
  refine lv_iconst (pc := 972) (v := 1) hx hb dL_law_972 (by decide) ?_
  refine lv_iadd (pc := 973) hx hb dL_law_973 ?_
  rw [show nI i + (1 : Int32) = nI (i + 1) from nI_add i 1]
  refine va_sld (pc := 974) hx hb hX hbl hbA w.2.2.1 (vp_in_nI (show i + 1 < L by omega) (by omega)) dL_law_974 ?_
  rw [nI_clamp (show i + 1 < 2 ^ 31 by omega)]
  refine s_cvi (pc := 975) [.int (xs (i + 1))] (fun ad => [.ref (ad 61), .int (xs (i + 1))]) F w (m_Yard_lock _ _ _ _ h1) rfl rfl hl.1 ds_61 vc_X11 rfl ok_X11_lock rfl kc_X11_lock kl_L_89 ki_X11_lock kv_X11_lock kn_X11 ⟨Nat.le_trans (by decide) hR1, Nat.le_trans (by decide) hR2⟩ hcs (Nat.le_of_ble_eq_true rfl) dL_law_975 (fun H locs w => ?_)
  refine lv_pop (pc := 978) hx hb dL_law_978 rfl ?_
  refine lv_aload_n (pc := 979) hx hb dL_law_979 rfl (lv_at hl 2 rfl) ?_
  refine lv_aload_n (pc := 980) hx hb dL_law_980 rfl (lv_at hl 0 rfl) ?_
  refine lv_iload_n (pc := 981) hx hb dL_law_981 rfl (lv_at hl 3 rfl) ?_
  refine lv_iconst (pc := 982) (v := 1) hx hb dL_law_982 (by decide) ?_
  refine lv_iadd (pc := 983) hx hb dL_law_983 ?_
  rw [show nI i + (1 : Int32) = nI (i + 1) from nI_add i 1]
  refine va_sld (pc := 984) hx hb hX hbl hbA w.2.2.1 (vp_in_nI (show i + 1 < L by omega) (by omega)) dL_law_984 ?_
  rw [nI_clamp (show i + 1 < 2 ^ 31 by omega)]
  refine s_cvi (pc := 985) [.int (xs (i + 1))] (fun ad => [.ref (ad 0), .int (xs (i + 1))]) F w (m_M_lock _ _ _ _ h2) rfl rfl hl.1 ds_0 vc_X12 rfl ok_X12_lock rfl kc_X12_lock kl_L_92 ki_X12_lock kv_X12_lock kn_X12 ⟨Nat.le_trans (by decide) hR1, Nat.le_trans (by decide) hR2⟩ hcs (Nat.le_of_ble_eq_true rfl) dL_law_985 (fun H locs w => ?_)
  refine lv_pop (pc := 988) hx hb dL_law_988 rfl ?_
  refine lv_goto (pc := 989) (tgt := 1963) hx hb dL_law_989 (by decide) ?_
  exact kk H locs w
set_option maxRecDepth 100000 in
set_option maxHeartbeats 4000000 in
theorem lc_18 (F : Fx p s m args meth c cL_law 4 RL rt dC dI cs A) (hX : va_X b L xs s s.heap) (hbl : b < s.heap.size) (hbA : ¬ A b) (hR1 : 8 ≤ R.frames) (hR2 : 340 ≤ R.locals) (hcs : cells ≤ R.cells ∧ slots ≤ R.slots) {S S1 S2 : SS} {r1 r2 : Int32} (hi : i + 6 ≤ L) (hL : L ≤ 3072) (w : Wo dC dI cs ad A s.heap D0 S H locs) (hl : lv_has ls 4 [(0, .ref b), (1, .ref (ad 61)), (2, .ref (ad 0)), (3, .int (nI i))]) (h1 : f_Yard_free (xs (i + 1)) S = some (r1, S1)) (h2 : f_M_free (xs (i + 1)) S1 = some (r2, S2))
    (kk : ∀ (H : Heap) (locs : List Loc), Wo dC dI cs ad A s.heap D0 S2 H locs → W p l e R s m args below meth c H locs cells slots Q (F0 m 1963 ls [])) : W p l e R s m args below meth c H locs cells slots Q (F0 m 992 ls []) := by
  have hx := F.1.1
  have hb := F.1.2.1
  refine lv_aload_n (pc := 992) hx hb dL_law_992 rfl (lv_at hl 1 rfl) ?_
  refine lv_aload_n (pc := 993) hx hb dL_law_993 rfl (lv_at hl 0 rfl) ?_
  refine lv_iload_n (pc := 994) hx hb dL_law_994 rfl (lv_at hl 3 rfl) ?_
  refine lv_iconst (pc := 995) (v := 1) hx hb dL_law_995 (by decide) ?_
  refine lv_iadd (pc := 996) hx hb dL_law_996 ?_
  rw [show nI i + (1 : Int32) = nI (i + 1) from nI_add i 1]
  refine va_sld (pc := 997) hx hb hX hbl hbA w.2.2.1 (vp_in_nI (show i + 1 < L by omega) (by omega)) dL_law_997 ?_
  rw [nI_clamp (show i + 1 < 2 ^ 31 by omega)]
  refine s_cvi (pc := 998) [.int (xs (i + 1))] (fun ad => [.ref (ad 61), .int (xs (i + 1))]) F w (m_Yard_free _ _ _ _ h1) rfl rfl hl.1 ds_61 vc_X11 rfl ok_X11_free rfl kc_X11_free kl_L_93 ki_X11_free kv_X11_free kn_X11 ⟨Nat.le_trans (by decide) hR1, Nat.le_trans (by decide) hR2⟩ hcs (Nat.le_of_ble_eq_true rfl) dL_law_998 (fun H locs w => ?_)
  refine lv_pop (pc := 1001) hx hb dL_law_1001 rfl ?_
  refine lv_aload_n (pc := 1002) hx hb dL_law_1002 rfl (lv_at hl 2 rfl) ?_
  refine lv_aload_n (pc := 1003) hx hb dL_law_1003 rfl (lv_at hl 0 rfl) ?_
  refine lv_iload_n (pc := 1004) hx hb dL_law_1004 rfl (lv_at hl 3 rfl) ?_
  refine lv_iconst (pc := 1005) (v := 1) hx hb dL_law_1005 (by decide) ?_
  refine lv_iadd (pc := 1006) hx hb dL_law_1006 ?_
  rw [show nI i + (1 : Int32) = nI (i + 1) from nI_add i 1]
  refine va_sld (pc := 1007) hx hb hX hbl hbA w.2.2.1 (vp_in_nI (show i + 1 < L by omega) (by omega)) dL_law_1007 ?_
  rw [nI_clamp (show i + 1 < 2 ^ 31 by omega)]
  refine s_cvi (pc := 1008) [.int (xs (i + 1))] (fun ad => [.ref (ad 0), .int (xs (i + 1))]) F w (m_M_free _ _ _ _ h2) rfl rfl hl.1 ds_0 vc_X12 rfl ok_X12_free rfl kc_X12_free kl_L_96 ki_X12_free kv_X12_free kn_X12 ⟨Nat.le_trans (by decide) hR1, Nat.le_trans (by decide) hR2⟩ hcs (Nat.le_of_ble_eq_true rfl) dL_law_1008 (fun H locs w => ?_)
  refine lv_pop (pc := 1011) hx hb dL_law_1011 rfl ?_
  refine lv_goto (pc := 1012) (tgt := 1963) hx hb dL_law_1012 (by decide) ?_
  exact kk H locs w
set_option maxRecDepth 100000 in
set_option maxHeartbeats 4000000 in
theorem lc_19 (F : Fx p s m args meth c cL_law 4 RL rt dC dI cs A) (hX : va_X b L xs s s.heap) (hbl : b < s.heap.size) (hbA : ¬ A b) (hR1 : 8 ≤ R.frames) (hR2 : 340 ≤ R.locals) (hcs : cells ≤ R.cells ∧ slots ≤ R.slots) {S S1 S2 : SS} {r1 r2 : Int32} (hi : i + 6 ≤ L) (hL : L ≤ 3072) (w : Wo dC dI cs ad A s.heap D0 S H locs) (hl : lv_has ls 4 [(0, .ref b), (1, .ref (ad 61)), (2, .ref (ad 0)), (3, .int (nI i))]) (h1 : f_Yard_couple (xs (i + 1)) (xs (i + 2)) S = some (r1, S1)) (h2 : f_M_couple (xs (i + 1)) (xs (i + 2)) S1 = some (r2, S2))
    (kk : ∀ (H : Heap) (locs : List Loc), Wo dC dI cs ad A s.heap D0 S2 H locs → W p l e R s m args below meth c H locs cells slots Q (F0 m 1963 ls [])) : W p l e R s m args below meth c H locs cells slots Q (F0 m 1015 ls []) := by
  have hx := F.1.1
  have hb := F.1.2.1
  refine lv_aload_n (pc := 1015) hx hb dL_law_1015 rfl (lv_at hl 1 rfl) ?_
  refine lv_aload_n (pc := 1016) hx hb dL_law_1016 rfl (lv_at hl 0 rfl) ?_
  refine lv_iload_n (pc := 1017) hx hb dL_law_1017 rfl (lv_at hl 3 rfl) ?_
  refine lv_iconst (pc := 1018) (v := 1) hx hb dL_law_1018 (by decide) ?_
  refine lv_iadd (pc := 1019) hx hb dL_law_1019 ?_
  rw [show nI i + (1 : Int32) = nI (i + 1) from nI_add i 1]
  refine va_sld (pc := 1020) hx hb hX hbl hbA w.2.2.1 (vp_in_nI (show i + 1 < L by omega) (by omega)) dL_law_1020 ?_
  rw [nI_clamp (show i + 1 < 2 ^ 31 by omega)]
  refine lv_aload_n (pc := 1021) hx hb dL_law_1021 rfl (lv_at hl 0 rfl) ?_
  refine lv_iload_n (pc := 1022) hx hb dL_law_1022 rfl (lv_at hl 3 rfl) ?_
  refine lv_iconst (pc := 1023) (v := 2) hx hb dL_law_1023 (by decide) ?_
  refine lv_iadd (pc := 1024) hx hb dL_law_1024 ?_
  rw [show nI i + (2 : Int32) = nI (i + 2) from nI_add i 2]
  refine va_sld (pc := 1025) hx hb hX hbl hbA w.2.2.1 (vp_in_nI (show i + 2 < L by omega) (by omega)) dL_law_1025 ?_
  rw [nI_clamp (show i + 2 < 2 ^ 31 by omega)]
  refine s_cvi (pc := 1026) [.int (xs (i + 1)), .int (xs (i + 2))] (fun ad => [.ref (ad 61), .int (xs (i + 1)), .int (xs (i + 2))]) F w (m_Yard_couple _ _ _ _ _ h1) rfl rfl hl.1 ds_61 vc_X11 rfl ok_X11_couple rfl kc_X11_couple kl_L_97 ki_X11_couple kv_X11_couple kn_X11 ⟨Nat.le_trans (by decide) hR1, Nat.le_trans (by decide) hR2⟩ hcs (Nat.le_of_ble_eq_true rfl) dL_law_1026 (fun H locs w => ?_)
  refine lv_pop (pc := 1029) hx hb dL_law_1029 rfl ?_
  refine lv_aload_n (pc := 1030) hx hb dL_law_1030 rfl (lv_at hl 2 rfl) ?_
  refine lv_aload_n (pc := 1031) hx hb dL_law_1031 rfl (lv_at hl 0 rfl) ?_
  refine lv_iload_n (pc := 1032) hx hb dL_law_1032 rfl (lv_at hl 3 rfl) ?_
  refine lv_iconst (pc := 1033) (v := 1) hx hb dL_law_1033 (by decide) ?_
  refine lv_iadd (pc := 1034) hx hb dL_law_1034 ?_
  rw [show nI i + (1 : Int32) = nI (i + 1) from nI_add i 1]
  refine va_sld (pc := 1035) hx hb hX hbl hbA w.2.2.1 (vp_in_nI (show i + 1 < L by omega) (by omega)) dL_law_1035 ?_
  rw [nI_clamp (show i + 1 < 2 ^ 31 by omega)]
  refine lv_aload_n (pc := 1036) hx hb dL_law_1036 rfl (lv_at hl 0 rfl) ?_
  refine lv_iload_n (pc := 1037) hx hb dL_law_1037 rfl (lv_at hl 3 rfl) ?_
  refine lv_iconst (pc := 1038) (v := 2) hx hb dL_law_1038 (by decide) ?_
  refine lv_iadd (pc := 1039) hx hb dL_law_1039 ?_
  rw [show nI i + (2 : Int32) = nI (i + 2) from nI_add i 2]
  refine va_sld (pc := 1040) hx hb hX hbl hbA w.2.2.1 (vp_in_nI (show i + 2 < L by omega) (by omega)) dL_law_1040 ?_
  rw [nI_clamp (show i + 2 < 2 ^ 31 by omega)]
  refine s_cvi (pc := 1041) [.int (xs (i + 1)), .int (xs (i + 2))] (fun ad => [.ref (ad 0), .int (xs (i + 1)), .int (xs (i + 2))]) F w (m_M_couple _ _ _ _ _ h2) rfl rfl hl.1 ds_0 vc_X12 rfl ok_X12_couple rfl kc_X12_couple kl_L_100 ki_X12_couple kv_X12_couple kn_X12 ⟨Nat.le_trans (by decide) hR1, Nat.le_trans (by decide) hR2⟩ hcs (Nat.le_of_ble_eq_true rfl) dL_law_1041 (fun H locs w => ?_)
  refine lv_pop (pc := 1044) hx hb dL_law_1044 rfl ?_
  refine lv_goto (pc := 1045) (tgt := 1963) hx hb dL_law_1045 (by decide) ?_
  exact kk H locs w
set_option maxRecDepth 100000 in
set_option maxHeartbeats 4000000 in
theorem lc_20 (F : Fx p s m args meth c cL_law 4 RL rt dC dI cs A) (hX : va_X b L xs s s.heap) (hbl : b < s.heap.size) (hbA : ¬ A b) (hR1 : 8 ≤ R.frames) (hR2 : 340 ≤ R.locals) (hcs : cells ≤ R.cells ∧ slots ≤ R.slots) {S S1 S2 : SS} {r1 r2 : Int32} (hi : i + 6 ≤ L) (hL : L ≤ 3072) (w : Wo dC dI cs ad A s.heap D0 S H locs) (hl : lv_has ls 4 [(0, .ref b), (1, .ref (ad 61)), (2, .ref (ad 0)), (3, .int (nI i))]) (h1 : f_Yard_part (xs (i + 1)) (xs (i + 2)) S = some (r1, S1)) (h2 : f_M_part (xs (i + 1)) (xs (i + 2)) S1 = some (r2, S2))
    (kk : ∀ (H : Heap) (locs : List Loc), Wo dC dI cs ad A s.heap D0 S2 H locs → W p l e R s m args below meth c H locs cells slots Q (F0 m 1963 ls [])) : W p l e R s m args below meth c H locs cells slots Q (F0 m 1048 ls []) := by
  have hx := F.1.1
  have hb := F.1.2.1
  refine lv_aload_n (pc := 1048) hx hb dL_law_1048 rfl (lv_at hl 1 rfl) ?_
  refine lv_aload_n (pc := 1049) hx hb dL_law_1049 rfl (lv_at hl 0 rfl) ?_
  refine lv_iload_n (pc := 1050) hx hb dL_law_1050 rfl (lv_at hl 3 rfl) ?_
  refine lv_iconst (pc := 1051) (v := 1) hx hb dL_law_1051 (by decide) ?_
  refine lv_iadd (pc := 1052) hx hb dL_law_1052 ?_
  rw [show nI i + (1 : Int32) = nI (i + 1) from nI_add i 1]
  refine va_sld (pc := 1053) hx hb hX hbl hbA w.2.2.1 (vp_in_nI (show i + 1 < L by omega) (by omega)) dL_law_1053 ?_
  rw [nI_clamp (show i + 1 < 2 ^ 31 by omega)]
  refine lv_aload_n (pc := 1054) hx hb dL_law_1054 rfl (lv_at hl 0 rfl) ?_
  refine lv_iload_n (pc := 1055) hx hb dL_law_1055 rfl (lv_at hl 3 rfl) ?_
  refine lv_iconst (pc := 1056) (v := 2) hx hb dL_law_1056 (by decide) ?_
  refine lv_iadd (pc := 1057) hx hb dL_law_1057 ?_
  rw [show nI i + (2 : Int32) = nI (i + 2) from nI_add i 2]
  refine va_sld (pc := 1058) hx hb hX hbl hbA w.2.2.1 (vp_in_nI (show i + 2 < L by omega) (by omega)) dL_law_1058 ?_
  rw [nI_clamp (show i + 2 < 2 ^ 31 by omega)]
  refine s_cvi (pc := 1059) [.int (xs (i + 1)), .int (xs (i + 2))] (fun ad => [.ref (ad 61), .int (xs (i + 1)), .int (xs (i + 2))]) F w (m_Yard_part _ _ _ _ _ h1) rfl rfl hl.1 ds_61 vc_X11 rfl ok_X11_part rfl kc_X11_part kl_L_101 ki_X11_part kv_X11_part kn_X11 ⟨Nat.le_trans (by decide) hR1, Nat.le_trans (by decide) hR2⟩ hcs (Nat.le_of_ble_eq_true rfl) dL_law_1059 (fun H locs w => ?_)
  refine lv_pop (pc := 1062) hx hb dL_law_1062 rfl ?_
  refine lv_aload_n (pc := 1063) hx hb dL_law_1063 rfl (lv_at hl 2 rfl) ?_
  refine lv_aload_n (pc := 1064) hx hb dL_law_1064 rfl (lv_at hl 0 rfl) ?_
  refine lv_iload_n (pc := 1065) hx hb dL_law_1065 rfl (lv_at hl 3 rfl) ?_
  refine lv_iconst (pc := 1066) (v := 1) hx hb dL_law_1066 (by decide) ?_
  refine lv_iadd (pc := 1067) hx hb dL_law_1067 ?_
  rw [show nI i + (1 : Int32) = nI (i + 1) from nI_add i 1]
  refine va_sld (pc := 1068) hx hb hX hbl hbA w.2.2.1 (vp_in_nI (show i + 1 < L by omega) (by omega)) dL_law_1068 ?_
  rw [nI_clamp (show i + 1 < 2 ^ 31 by omega)]
  refine lv_aload_n (pc := 1069) hx hb dL_law_1069 rfl (lv_at hl 0 rfl) ?_
  refine lv_iload_n (pc := 1070) hx hb dL_law_1070 rfl (lv_at hl 3 rfl) ?_
  refine lv_iconst (pc := 1071) (v := 2) hx hb dL_law_1071 (by decide) ?_
  refine lv_iadd (pc := 1072) hx hb dL_law_1072 ?_
  rw [show nI i + (2 : Int32) = nI (i + 2) from nI_add i 2]
  refine va_sld (pc := 1073) hx hb hX hbl hbA w.2.2.1 (vp_in_nI (show i + 2 < L by omega) (by omega)) dL_law_1073 ?_
  rw [nI_clamp (show i + 2 < 2 ^ 31 by omega)]
  refine s_cvi (pc := 1074) [.int (xs (i + 1)), .int (xs (i + 2))] (fun ad => [.ref (ad 0), .int (xs (i + 1)), .int (xs (i + 2))]) F w (m_M_part _ _ _ _ _ h2) rfl rfl hl.1 ds_0 vc_X12 rfl ok_X12_part rfl kc_X12_part kl_L_104 ki_X12_part kv_X12_part kn_X12 ⟨Nat.le_trans (by decide) hR1, Nat.le_trans (by decide) hR2⟩ hcs (Nat.le_of_ble_eq_true rfl) dL_law_1074 (fun H locs w => ?_)
  refine lv_pop (pc := 1077) hx hb dL_law_1077 rfl ?_
  refine lv_goto (pc := 1078) (tgt := 1963) hx hb dL_law_1078 (by decide) ?_
  exact kk H locs w
set_option maxRecDepth 100000 in
set_option maxHeartbeats 4000000 in
theorem lc_21 (F : Fx p s m args meth c cL_law 4 RL rt dC dI cs A) (hX : va_X b L xs s s.heap) (hbl : b < s.heap.size) (hbA : ¬ A b) (hR1 : 8 ≤ R.frames) (hR2 : 340 ≤ R.locals) (hcs : cells ≤ R.cells ∧ slots ≤ R.slots) {S S1 S2 : SS} {r1 r2 : Int32} (hi : i + 6 ≤ L) (hL : L ≤ 3072) (w : Wo dC dI cs ad A s.heap D0 S H locs) (hl : lv_has ls 4 [(0, .ref b), (1, .ref (ad 61)), (2, .ref (ad 0)), (3, .int (nI i))]) (h1 : f_Yard_pull (xs (i + 1)) (xs (i + 2)) (xs (i + 3)) S = some (r1, S1)) (h2 : f_M_pull (xs (i + 1)) (xs (i + 2)) (xs (i + 3)) S1 = some (r2, S2))
    (kk : ∀ (H : Heap) (locs : List Loc), Wo dC dI cs ad A s.heap D0 S2 H locs → W p l e R s m args below meth c H locs cells slots Q (F0 m 1963 ls [])) : W p l e R s m args below meth c H locs cells slots Q (F0 m 1081 ls []) := by
  have hx := F.1.1
  have hb := F.1.2.1
  refine lv_aload_n (pc := 1081) hx hb dL_law_1081 rfl (lv_at hl 1 rfl) ?_
  refine lv_aload_n (pc := 1082) hx hb dL_law_1082 rfl (lv_at hl 0 rfl) ?_
  refine lv_iload_n (pc := 1083) hx hb dL_law_1083 rfl (lv_at hl 3 rfl) ?_
  refine lv_iconst (pc := 1084) (v := 1) hx hb dL_law_1084 (by decide) ?_
  refine lv_iadd (pc := 1085) hx hb dL_law_1085 ?_
  rw [show nI i + (1 : Int32) = nI (i + 1) from nI_add i 1]
  refine va_sld (pc := 1086) hx hb hX hbl hbA w.2.2.1 (vp_in_nI (show i + 1 < L by omega) (by omega)) dL_law_1086 ?_
  rw [nI_clamp (show i + 1 < 2 ^ 31 by omega)]
  refine lv_aload_n (pc := 1087) hx hb dL_law_1087 rfl (lv_at hl 0 rfl) ?_
  refine lv_iload_n (pc := 1088) hx hb dL_law_1088 rfl (lv_at hl 3 rfl) ?_
  refine lv_iconst (pc := 1089) (v := 2) hx hb dL_law_1089 (by decide) ?_
  refine lv_iadd (pc := 1090) hx hb dL_law_1090 ?_
  rw [show nI i + (2 : Int32) = nI (i + 2) from nI_add i 2]
  refine va_sld (pc := 1091) hx hb hX hbl hbA w.2.2.1 (vp_in_nI (show i + 2 < L by omega) (by omega)) dL_law_1091 ?_
  rw [nI_clamp (show i + 2 < 2 ^ 31 by omega)]
  refine lv_aload_n (pc := 1092) hx hb dL_law_1092 rfl (lv_at hl 0 rfl) ?_
  refine lv_iload_n (pc := 1093) hx hb dL_law_1093 rfl (lv_at hl 3 rfl) ?_
  refine lv_iconst (pc := 1094) (v := 3) hx hb dL_law_1094 (by decide) ?_
  refine lv_iadd (pc := 1095) hx hb dL_law_1095 ?_
  rw [show nI i + (3 : Int32) = nI (i + 3) from nI_add i 3]
  refine va_sld (pc := 1096) hx hb hX hbl hbA w.2.2.1 (vp_in_nI (show i + 3 < L by omega) (by omega)) dL_law_1096 ?_
  rw [nI_clamp (show i + 3 < 2 ^ 31 by omega)]
  refine s_cvi (pc := 1097) [.int (xs (i + 1)), .int (xs (i + 2)), .int (xs (i + 3))] (fun ad => [.ref (ad 61), .int (xs (i + 1)), .int (xs (i + 2)), .int (xs (i + 3))]) F w (m_Yard_pull _ _ _ _ _ _ h1) rfl rfl hl.1 ds_61 vc_X11 rfl ok_X11_pull rfl kc_X11_pull kl_L_105 ki_X11_pull kv_X11_pull kn_X11 ⟨Nat.le_trans (by decide) hR1, Nat.le_trans (by decide) hR2⟩ hcs (Nat.le_of_ble_eq_true rfl) dL_law_1097 (fun H locs w => ?_)
  refine lv_pop (pc := 1100) hx hb dL_law_1100 rfl ?_
  refine lv_aload_n (pc := 1101) hx hb dL_law_1101 rfl (lv_at hl 2 rfl) ?_
  refine lv_aload_n (pc := 1102) hx hb dL_law_1102 rfl (lv_at hl 0 rfl) ?_
  refine lv_iload_n (pc := 1103) hx hb dL_law_1103 rfl (lv_at hl 3 rfl) ?_
  refine lv_iconst (pc := 1104) (v := 1) hx hb dL_law_1104 (by decide) ?_
  refine lv_iadd (pc := 1105) hx hb dL_law_1105 ?_
  rw [show nI i + (1 : Int32) = nI (i + 1) from nI_add i 1]
  refine va_sld (pc := 1106) hx hb hX hbl hbA w.2.2.1 (vp_in_nI (show i + 1 < L by omega) (by omega)) dL_law_1106 ?_
  rw [nI_clamp (show i + 1 < 2 ^ 31 by omega)]
  refine lv_aload_n (pc := 1107) hx hb dL_law_1107 rfl (lv_at hl 0 rfl) ?_
  refine lv_iload_n (pc := 1108) hx hb dL_law_1108 rfl (lv_at hl 3 rfl) ?_
  refine lv_iconst (pc := 1109) (v := 2) hx hb dL_law_1109 (by decide) ?_
  refine lv_iadd (pc := 1110) hx hb dL_law_1110 ?_
  rw [show nI i + (2 : Int32) = nI (i + 2) from nI_add i 2]
  refine va_sld (pc := 1111) hx hb hX hbl hbA w.2.2.1 (vp_in_nI (show i + 2 < L by omega) (by omega)) dL_law_1111 ?_
  rw [nI_clamp (show i + 2 < 2 ^ 31 by omega)]
  refine lv_aload_n (pc := 1112) hx hb dL_law_1112 rfl (lv_at hl 0 rfl) ?_
  refine lv_iload_n (pc := 1113) hx hb dL_law_1113 rfl (lv_at hl 3 rfl) ?_
  refine lv_iconst (pc := 1114) (v := 3) hx hb dL_law_1114 (by decide) ?_
  refine lv_iadd (pc := 1115) hx hb dL_law_1115 ?_
  rw [show nI i + (3 : Int32) = nI (i + 3) from nI_add i 3]
  refine va_sld (pc := 1116) hx hb hX hbl hbA w.2.2.1 (vp_in_nI (show i + 3 < L by omega) (by omega)) dL_law_1116 ?_
  rw [nI_clamp (show i + 3 < 2 ^ 31 by omega)]
  refine s_cvi (pc := 1117) [.int (xs (i + 1)), .int (xs (i + 2)), .int (xs (i + 3))] (fun ad => [.ref (ad 0), .int (xs (i + 1)), .int (xs (i + 2)), .int (xs (i + 3))]) F w (m_M_pull _ _ _ _ _ _ h2) rfl rfl hl.1 ds_0 vc_X12 rfl ok_X12_pull rfl kc_X12_pull kl_L_108 ki_X12_pull kv_X12_pull kn_X12 ⟨Nat.le_trans (by decide) hR1, Nat.le_trans (by decide) hR2⟩ hcs (Nat.le_of_ble_eq_true rfl) dL_law_1117 (fun H locs w => ?_)
  refine lv_pop (pc := 1120) hx hb dL_law_1120 rfl ?_
  refine lv_goto (pc := 1121) (tgt := 1963) hx hb dL_law_1121 (by decide) ?_
  exact kk H locs w
set_option maxRecDepth 100000 in
set_option maxHeartbeats 4000000 in
theorem lc_22 (F : Fx p s m args meth c cL_law 4 RL rt dC dI cs A) (hX : va_X b L xs s s.heap) (hbl : b < s.heap.size) (hbA : ¬ A b) (hR1 : 8 ≤ R.frames) (hR2 : 340 ≤ R.locals) (hcs : cells ≤ R.cells ∧ slots ≤ R.slots) {S S1 S2 : SS} {r1 r2 : Int32} (hi : i + 6 ≤ L) (hL : L ≤ 3072) (w : Wo dC dI cs ad A s.heap D0 S H locs) (hl : lv_has ls 4 [(0, .ref b), (1, .ref (ad 61)), (2, .ref (ad 0)), (3, .int (nI i))]) (h1 : f_Yard_kick (xs (i + 1)) (xs (i + 2)) S = some (r1, S1)) (h2 : f_M_kick (xs (i + 1)) (xs (i + 2)) S1 = some (r2, S2))
    (kk : ∀ (H : Heap) (locs : List Loc), Wo dC dI cs ad A s.heap D0 S2 H locs → W p l e R s m args below meth c H locs cells slots Q (F0 m 1963 ls [])) : W p l e R s m args below meth c H locs cells slots Q (F0 m 1124 ls []) := by
  have hx := F.1.1
  have hb := F.1.2.1
  refine lv_aload_n (pc := 1124) hx hb dL_law_1124 rfl (lv_at hl 1 rfl) ?_
  refine lv_aload_n (pc := 1125) hx hb dL_law_1125 rfl (lv_at hl 0 rfl) ?_
  refine lv_iload_n (pc := 1126) hx hb dL_law_1126 rfl (lv_at hl 3 rfl) ?_
  refine lv_iconst (pc := 1127) (v := 1) hx hb dL_law_1127 (by decide) ?_
  refine lv_iadd (pc := 1128) hx hb dL_law_1128 ?_
  rw [show nI i + (1 : Int32) = nI (i + 1) from nI_add i 1]
  refine va_sld (pc := 1129) hx hb hX hbl hbA w.2.2.1 (vp_in_nI (show i + 1 < L by omega) (by omega)) dL_law_1129 ?_
  rw [nI_clamp (show i + 1 < 2 ^ 31 by omega)]
  refine lv_aload_n (pc := 1130) hx hb dL_law_1130 rfl (lv_at hl 0 rfl) ?_
  refine lv_iload_n (pc := 1131) hx hb dL_law_1131 rfl (lv_at hl 3 rfl) ?_
  refine lv_iconst (pc := 1132) (v := 2) hx hb dL_law_1132 (by decide) ?_
  refine lv_iadd (pc := 1133) hx hb dL_law_1133 ?_
  rw [show nI i + (2 : Int32) = nI (i + 2) from nI_add i 2]
  refine va_sld (pc := 1134) hx hb hX hbl hbA w.2.2.1 (vp_in_nI (show i + 2 < L by omega) (by omega)) dL_law_1134 ?_
  rw [nI_clamp (show i + 2 < 2 ^ 31 by omega)]
  refine s_cvi (pc := 1135) [.int (xs (i + 1)), .int (xs (i + 2))] (fun ad => [.ref (ad 61), .int (xs (i + 1)), .int (xs (i + 2))]) F w (m_Yard_kick _ _ _ _ _ h1) rfl rfl hl.1 ds_61 vc_X11 rfl ok_X11_kick rfl kc_X11_kick kl_L_109 ki_X11_kick kv_X11_kick kn_X11 ⟨Nat.le_trans (by decide) hR1, Nat.le_trans (by decide) hR2⟩ hcs (Nat.le_of_ble_eq_true rfl) dL_law_1135 (fun H locs w => ?_)
  refine lv_pop (pc := 1138) hx hb dL_law_1138 rfl ?_
  refine lv_aload_n (pc := 1139) hx hb dL_law_1139 rfl (lv_at hl 2 rfl) ?_
  refine lv_aload_n (pc := 1140) hx hb dL_law_1140 rfl (lv_at hl 0 rfl) ?_
  refine lv_iload_n (pc := 1141) hx hb dL_law_1141 rfl (lv_at hl 3 rfl) ?_
  refine lv_iconst (pc := 1142) (v := 1) hx hb dL_law_1142 (by decide) ?_
  refine lv_iadd (pc := 1143) hx hb dL_law_1143 ?_
  rw [show nI i + (1 : Int32) = nI (i + 1) from nI_add i 1]
  refine va_sld (pc := 1144) hx hb hX hbl hbA w.2.2.1 (vp_in_nI (show i + 1 < L by omega) (by omega)) dL_law_1144 ?_
  rw [nI_clamp (show i + 1 < 2 ^ 31 by omega)]
  refine lv_aload_n (pc := 1145) hx hb dL_law_1145 rfl (lv_at hl 0 rfl) ?_
  refine lv_iload_n (pc := 1146) hx hb dL_law_1146 rfl (lv_at hl 3 rfl) ?_
  refine lv_iconst (pc := 1147) (v := 2) hx hb dL_law_1147 (by decide) ?_
  refine lv_iadd (pc := 1148) hx hb dL_law_1148 ?_
  rw [show nI i + (2 : Int32) = nI (i + 2) from nI_add i 2]
  refine va_sld (pc := 1149) hx hb hX hbl hbA w.2.2.1 (vp_in_nI (show i + 2 < L by omega) (by omega)) dL_law_1149 ?_
  rw [nI_clamp (show i + 2 < 2 ^ 31 by omega)]
  refine s_cvi (pc := 1150) [.int (xs (i + 1)), .int (xs (i + 2))] (fun ad => [.ref (ad 0), .int (xs (i + 1)), .int (xs (i + 2))]) F w (m_M_kick _ _ _ _ _ h2) rfl rfl hl.1 ds_0 vc_X12 rfl ok_X12_kick rfl kc_X12_kick kl_L_112 ki_X12_kick kv_X12_kick kn_X12 ⟨Nat.le_trans (by decide) hR1, Nat.le_trans (by decide) hR2⟩ hcs (Nat.le_of_ble_eq_true rfl) dL_law_1150 (fun H locs w => ?_)
  refine lv_pop (pc := 1153) hx hb dL_law_1153 rfl ?_
  refine lv_goto (pc := 1154) (tgt := 1963) hx hb dL_law_1154 (by decide) ?_
  exact kk H locs w
set_option maxRecDepth 100000 in
set_option maxHeartbeats 4000000 in
theorem lc_23 (F : Fx p s m args meth c cL_law 4 RL rt dC dI cs A) (hX : va_X b L xs s s.heap) (hbl : b < s.heap.size) (hbA : ¬ A b) (hR1 : 8 ≤ R.frames) (hR2 : 340 ≤ R.locals) (hcs : cells ≤ R.cells ∧ slots ≤ R.slots) {S S1 S2 : SS} {r1 r2 : Int32} (hi : i + 6 ≤ L) (hL : L ≤ 3072) (w : Wo dC dI cs ad A s.heap D0 S H locs) (hl : lv_has ls 4 [(0, .ref b), (1, .ref (ad 61)), (2, .ref (ad 0)), (3, .int (nI i))]) (h1 : f_Yard_step (xs (i + 1)) S = some (r1, S1)) (h2 : f_M_step (xs (i + 1)) S1 = some (r2, S2))
    (kk : ∀ (H : Heap) (locs : List Loc), Wo dC dI cs ad A s.heap D0 S2 H locs → W p l e R s m args below meth c H locs cells slots Q (F0 m 1963 ls [])) : W p l e R s m args below meth c H locs cells slots Q (F0 m 1157 ls []) := by
  have hx := F.1.1
  have hb := F.1.2.1
  refine lv_aload_n (pc := 1157) hx hb dL_law_1157 rfl (lv_at hl 1 rfl) ?_
  refine lv_aload_n (pc := 1158) hx hb dL_law_1158 rfl (lv_at hl 0 rfl) ?_
  refine lv_iload_n (pc := 1159) hx hb dL_law_1159 rfl (lv_at hl 3 rfl) ?_
  refine lv_iconst (pc := 1160) (v := 1) hx hb dL_law_1160 (by decide) ?_
  refine lv_iadd (pc := 1161) hx hb dL_law_1161 ?_
  rw [show nI i + (1 : Int32) = nI (i + 1) from nI_add i 1]
  refine va_sld (pc := 1162) hx hb hX hbl hbA w.2.2.1 (vp_in_nI (show i + 1 < L by omega) (by omega)) dL_law_1162 ?_
  rw [nI_clamp (show i + 1 < 2 ^ 31 by omega)]
  refine s_cvi (pc := 1163) [.int (xs (i + 1))] (fun ad => [.ref (ad 61), .int (xs (i + 1))]) F w (m_Yard_step _ _ _ _ h1) rfl rfl hl.1 ds_61 vc_X11 rfl ok_X11_step rfl kc_X11_step kl_L_113 ki_X11_step kv_X11_step kn_X11 ⟨Nat.le_trans (by decide) hR1, Nat.le_trans (by decide) hR2⟩ hcs (Nat.le_of_ble_eq_true rfl) dL_law_1163 (fun H locs w => ?_)
  refine lv_pop (pc := 1166) hx hb dL_law_1166 rfl ?_
  refine lv_aload_n (pc := 1167) hx hb dL_law_1167 rfl (lv_at hl 2 rfl) ?_
  refine lv_aload_n (pc := 1168) hx hb dL_law_1168 rfl (lv_at hl 0 rfl) ?_
  refine lv_iload_n (pc := 1169) hx hb dL_law_1169 rfl (lv_at hl 3 rfl) ?_
  refine lv_iconst (pc := 1170) (v := 1) hx hb dL_law_1170 (by decide) ?_
  refine lv_iadd (pc := 1171) hx hb dL_law_1171 ?_
  rw [show nI i + (1 : Int32) = nI (i + 1) from nI_add i 1]
  refine va_sld (pc := 1172) hx hb hX hbl hbA w.2.2.1 (vp_in_nI (show i + 1 < L by omega) (by omega)) dL_law_1172 ?_
  rw [nI_clamp (show i + 1 < 2 ^ 31 by omega)]
  refine s_cvi (pc := 1173) [.int (xs (i + 1))] (fun ad => [.ref (ad 0), .int (xs (i + 1))]) F w (m_M_step _ _ _ _ h2) rfl rfl hl.1 ds_0 vc_X12 rfl ok_X12_step rfl kc_X12_step kl_L_116 ki_X12_step kv_X12_step kn_X12 ⟨Nat.le_trans (by decide) hR1, Nat.le_trans (by decide) hR2⟩ hcs (Nat.le_of_ble_eq_true rfl) dL_law_1173 (fun H locs w => ?_)
  refine lv_pop (pc := 1176) hx hb dL_law_1176 rfl ?_
  refine lv_goto (pc := 1177) (tgt := 1963) hx hb dL_law_1177 (by decide) ?_
  exact kk H locs w
set_option maxRecDepth 100000 in
set_option maxHeartbeats 4000000 in
theorem lc_24 (F : Fx p s m args meth c cL_law 4 RL rt dC dI cs A) (hX : va_X b L xs s s.heap) (hbl : b < s.heap.size) (hbA : ¬ A b) (hR1 : 8 ≤ R.frames) (hR2 : 340 ≤ R.locals) (hcs : cells ≤ R.cells ∧ slots ≤ R.slots) {S S1 S2 : SS} {r1 r2 : Int32} (hi : i + 6 ≤ L) (hL : L ≤ 3072) (w : Wo dC dI cs ad A s.heap D0 S H locs) (hl : lv_has ls 4 [(0, .ref b), (1, .ref (ad 61)), (2, .ref (ad 0)), (3, .int (nI i))]) (h1 : f_Yard_test (xs (i + 1)) S = some (r1, S1)) (h2 : f_M_test (xs (i + 1)) S1 = some (r2, S2))
    (kk : ∀ (H : Heap) (locs : List Loc), Wo dC dI cs ad A s.heap D0 S2 H locs → W p l e R s m args below meth c H locs cells slots Q (F0 m 1963 ls [])) : W p l e R s m args below meth c H locs cells slots Q (F0 m 1180 ls []) := by
  have hx := F.1.1
  have hb := F.1.2.1
  refine lv_aload_n (pc := 1180) hx hb dL_law_1180 rfl (lv_at hl 1 rfl) ?_
  refine lv_aload_n (pc := 1181) hx hb dL_law_1181 rfl (lv_at hl 0 rfl) ?_
  refine lv_iload_n (pc := 1182) hx hb dL_law_1182 rfl (lv_at hl 3 rfl) ?_
  refine lv_iconst (pc := 1183) (v := 1) hx hb dL_law_1183 (by decide) ?_
  refine lv_iadd (pc := 1184) hx hb dL_law_1184 ?_
  rw [show nI i + (1 : Int32) = nI (i + 1) from nI_add i 1]
  refine va_sld (pc := 1185) hx hb hX hbl hbA w.2.2.1 (vp_in_nI (show i + 1 < L by omega) (by omega)) dL_law_1185 ?_
  rw [nI_clamp (show i + 1 < 2 ^ 31 by omega)]
  refine s_cvi (pc := 1186) [.int (xs (i + 1))] (fun ad => [.ref (ad 61), .int (xs (i + 1))]) F w (m_Yard_test _ _ _ _ h1) rfl rfl hl.1 ds_61 vc_X11 rfl ok_X11_test rfl kc_X11_test kl_L_117 ki_X11_test kv_X11_test kn_X11 ⟨Nat.le_trans (by decide) hR1, Nat.le_trans (by decide) hR2⟩ hcs (Nat.le_of_ble_eq_true rfl) dL_law_1186 (fun H locs w => ?_)
  refine lv_pop (pc := 1189) hx hb dL_law_1189 rfl ?_
  refine lv_aload_n (pc := 1190) hx hb dL_law_1190 rfl (lv_at hl 2 rfl) ?_
  refine lv_aload_n (pc := 1191) hx hb dL_law_1191 rfl (lv_at hl 0 rfl) ?_
  refine lv_iload_n (pc := 1192) hx hb dL_law_1192 rfl (lv_at hl 3 rfl) ?_
  refine lv_iconst (pc := 1193) (v := 1) hx hb dL_law_1193 (by decide) ?_
  refine lv_iadd (pc := 1194) hx hb dL_law_1194 ?_
  rw [show nI i + (1 : Int32) = nI (i + 1) from nI_add i 1]
  refine va_sld (pc := 1195) hx hb hX hbl hbA w.2.2.1 (vp_in_nI (show i + 1 < L by omega) (by omega)) dL_law_1195 ?_
  rw [nI_clamp (show i + 1 < 2 ^ 31 by omega)]
  refine s_cvi (pc := 1196) [.int (xs (i + 1))] (fun ad => [.ref (ad 0), .int (xs (i + 1))]) F w (m_M_test _ _ _ _ h2) rfl rfl hl.1 ds_0 vc_X12 rfl ok_X12_test rfl kc_X12_test kl_L_120 ki_X12_test kv_X12_test kn_X12 ⟨Nat.le_trans (by decide) hR1, Nat.le_trans (by decide) hR2⟩ hcs (Nat.le_of_ble_eq_true rfl) dL_law_1196 (fun H locs w => ?_)
  refine lv_pop (pc := 1199) hx hb dL_law_1199 rfl ?_
  refine lv_goto (pc := 1200) (tgt := 1963) hx hb dL_law_1200 (by decide) ?_
  exact kk H locs w
set_option maxRecDepth 100000 in
set_option maxHeartbeats 4000000 in
theorem lc_25 (F : Fx p s m args meth c cL_law 4 RL rt dC dI cs A) (hX : va_X b L xs s s.heap) (hbl : b < s.heap.size) (hbA : ¬ A b) (hR1 : 8 ≤ R.frames) (hR2 : 340 ≤ R.locals) (hcs : cells ≤ R.cells ∧ slots ≤ R.slots) {S S1 S2 : SS} {r1 r2 : Int32} (hi : i + 6 ≤ L) (hL : L ≤ 3072) (w : Wo dC dI cs ad A s.heap D0 S H locs) (hl : lv_has ls 4 [(0, .ref b), (1, .ref (ad 61)), (2, .ref (ad 0)), (3, .int (nI i))]) (h1 : f_Yard_leave (xs (i + 1)) S = some (r1, S1)) (h2 : f_M_leave (xs (i + 1)) S1 = some (r2, S2))
    (kk : ∀ (H : Heap) (locs : List Loc), Wo dC dI cs ad A s.heap D0 S2 H locs → W p l e R s m args below meth c H locs cells slots Q (F0 m 1963 ls [])) : W p l e R s m args below meth c H locs cells slots Q (F0 m 1203 ls []) := by
  have hx := F.1.1
  have hb := F.1.2.1
  refine lv_aload_n (pc := 1203) hx hb dL_law_1203 rfl (lv_at hl 1 rfl) ?_
  refine lv_aload_n (pc := 1204) hx hb dL_law_1204 rfl (lv_at hl 0 rfl) ?_
  refine lv_iload_n (pc := 1205) hx hb dL_law_1205 rfl (lv_at hl 3 rfl) ?_
  refine lv_iconst (pc := 1206) (v := 1) hx hb dL_law_1206 (by decide) ?_
  refine lv_iadd (pc := 1207) hx hb dL_law_1207 ?_
  rw [show nI i + (1 : Int32) = nI (i + 1) from nI_add i 1]
  refine va_sld (pc := 1208) hx hb hX hbl hbA w.2.2.1 (vp_in_nI (show i + 1 < L by omega) (by omega)) dL_law_1208 ?_
  rw [nI_clamp (show i + 1 < 2 ^ 31 by omega)]
  refine s_cvi (pc := 1209) [.int (xs (i + 1))] (fun ad => [.ref (ad 61), .int (xs (i + 1))]) F w (m_Yard_leave _ _ _ _ h1) rfl rfl hl.1 ds_61 vc_X11 rfl ok_X11_leave rfl kc_X11_leave kl_L_121 ki_X11_leave kv_X11_leave kn_X11 ⟨Nat.le_trans (by decide) hR1, Nat.le_trans (by decide) hR2⟩ hcs (Nat.le_of_ble_eq_true rfl) dL_law_1209 (fun H locs w => ?_)
  refine lv_pop (pc := 1212) hx hb dL_law_1212 rfl ?_
  refine lv_aload_n (pc := 1213) hx hb dL_law_1213 rfl (lv_at hl 2 rfl) ?_
  refine lv_aload_n (pc := 1214) hx hb dL_law_1214 rfl (lv_at hl 0 rfl) ?_
  refine lv_iload_n (pc := 1215) hx hb dL_law_1215 rfl (lv_at hl 3 rfl) ?_
  refine lv_iconst (pc := 1216) (v := 1) hx hb dL_law_1216 (by decide) ?_
  refine lv_iadd (pc := 1217) hx hb dL_law_1217 ?_
  rw [show nI i + (1 : Int32) = nI (i + 1) from nI_add i 1]
  refine va_sld (pc := 1218) hx hb hX hbl hbA w.2.2.1 (vp_in_nI (show i + 1 < L by omega) (by omega)) dL_law_1218 ?_
  rw [nI_clamp (show i + 1 < 2 ^ 31 by omega)]
  refine s_cvi (pc := 1219) [.int (xs (i + 1))] (fun ad => [.ref (ad 0), .int (xs (i + 1))]) F w (m_M_leave _ _ _ _ h2) rfl rfl hl.1 ds_0 vc_X12 rfl ok_X12_leave rfl kc_X12_leave kl_L_124 ki_X12_leave kv_X12_leave kn_X12 ⟨Nat.le_trans (by decide) hR1, Nat.le_trans (by decide) hR2⟩ hcs (Nat.le_of_ble_eq_true rfl) dL_law_1219 (fun H locs w => ?_)
  refine lv_pop (pc := 1222) hx hb dL_law_1222 rfl ?_
  refine lv_goto (pc := 1223) (tgt := 1963) hx hb dL_law_1223 (by decide) ?_
  exact kk H locs w
set_option maxRecDepth 100000 in
set_option maxHeartbeats 4000000 in
theorem lc_26 (F : Fx p s m args meth c cL_law 4 RL rt dC dI cs A) (hX : va_X b L xs s s.heap) (hbl : b < s.heap.size) (hbA : ¬ A b) (hR1 : 8 ≤ R.frames) (hR2 : 340 ≤ R.locals) (hcs : cells ≤ R.cells ∧ slots ≤ R.slots) {S S1 S2 : SS} {r1 r2 : Int32} (hi : i + 6 ≤ L) (hL : L ≤ 3072) (w : Wo dC dI cs ad A s.heap D0 S H locs) (hl : lv_has ls 4 [(0, .ref b), (1, .ref (ad 61)), (2, .ref (ad 0)), (3, .int (nI i))]) (h1 : f_Yard_roll (xs (i + 1)) (xs (i + 2)) (xs (i + 3)) S = some (r1, S1)) (h2 : f_M_roll (xs (i + 1)) (xs (i + 2)) (xs (i + 3)) S1 = some (r2, S2))
    (kk : ∀ (H : Heap) (locs : List Loc), Wo dC dI cs ad A s.heap D0 S2 H locs → W p l e R s m args below meth c H locs cells slots Q (F0 m 1963 ls [])) : W p l e R s m args below meth c H locs cells slots Q (F0 m 1226 ls []) := by
  have hx := F.1.1
  have hb := F.1.2.1
  refine lv_aload_n (pc := 1226) hx hb dL_law_1226 rfl (lv_at hl 1 rfl) ?_
  refine lv_aload_n (pc := 1227) hx hb dL_law_1227 rfl (lv_at hl 0 rfl) ?_
  refine lv_iload_n (pc := 1228) hx hb dL_law_1228 rfl (lv_at hl 3 rfl) ?_
  refine lv_iconst (pc := 1229) (v := 1) hx hb dL_law_1229 (by decide) ?_
  refine lv_iadd (pc := 1230) hx hb dL_law_1230 ?_
  rw [show nI i + (1 : Int32) = nI (i + 1) from nI_add i 1]
  refine va_sld (pc := 1231) hx hb hX hbl hbA w.2.2.1 (vp_in_nI (show i + 1 < L by omega) (by omega)) dL_law_1231 ?_
  rw [nI_clamp (show i + 1 < 2 ^ 31 by omega)]
  refine lv_aload_n (pc := 1232) hx hb dL_law_1232 rfl (lv_at hl 0 rfl) ?_
  refine lv_iload_n (pc := 1233) hx hb dL_law_1233 rfl (lv_at hl 3 rfl) ?_
  refine lv_iconst (pc := 1234) (v := 2) hx hb dL_law_1234 (by decide) ?_
  refine lv_iadd (pc := 1235) hx hb dL_law_1235 ?_
  rw [show nI i + (2 : Int32) = nI (i + 2) from nI_add i 2]
  refine va_sld (pc := 1236) hx hb hX hbl hbA w.2.2.1 (vp_in_nI (show i + 2 < L by omega) (by omega)) dL_law_1236 ?_
  rw [nI_clamp (show i + 2 < 2 ^ 31 by omega)]
  refine lv_aload_n (pc := 1237) hx hb dL_law_1237 rfl (lv_at hl 0 rfl) ?_
  refine lv_iload_n (pc := 1238) hx hb dL_law_1238 rfl (lv_at hl 3 rfl) ?_
  refine lv_iconst (pc := 1239) (v := 3) hx hb dL_law_1239 (by decide) ?_
  refine lv_iadd (pc := 1240) hx hb dL_law_1240 ?_
  rw [show nI i + (3 : Int32) = nI (i + 3) from nI_add i 3]
  refine va_sld (pc := 1241) hx hb hX hbl hbA w.2.2.1 (vp_in_nI (show i + 3 < L by omega) (by omega)) dL_law_1241 ?_
  rw [nI_clamp (show i + 3 < 2 ^ 31 by omega)]
  refine s_cvi (pc := 1242) [.int (xs (i + 1)), .int (xs (i + 2)), .int (xs (i + 3))] (fun ad => [.ref (ad 61), .int (xs (i + 1)), .int (xs (i + 2)), .int (xs (i + 3))]) F w (m_Yard_roll _ _ _ _ _ _ h1) rfl rfl hl.1 ds_61 vc_X11 rfl ok_X11_roll rfl kc_X11_roll kl_L_125 ki_X11_roll kv_X11_roll kn_X11 ⟨Nat.le_trans (by decide) hR1, Nat.le_trans (by decide) hR2⟩ hcs (Nat.le_of_ble_eq_true rfl) dL_law_1242 (fun H locs w => ?_)
  refine lv_pop (pc := 1245) hx hb dL_law_1245 rfl ?_
  refine lv_aload_n (pc := 1246) hx hb dL_law_1246 rfl (lv_at hl 2 rfl) ?_
  refine lv_aload_n (pc := 1247) hx hb dL_law_1247 rfl (lv_at hl 0 rfl) ?_
  refine lv_iload_n (pc := 1248) hx hb dL_law_1248 rfl (lv_at hl 3 rfl) ?_
  refine lv_iconst (pc := 1249) (v := 1) hx hb dL_law_1249 (by decide) ?_
  refine lv_iadd (pc := 1250) hx hb dL_law_1250 ?_
  rw [show nI i + (1 : Int32) = nI (i + 1) from nI_add i 1]
  refine va_sld (pc := 1251) hx hb hX hbl hbA w.2.2.1 (vp_in_nI (show i + 1 < L by omega) (by omega)) dL_law_1251 ?_
  rw [nI_clamp (show i + 1 < 2 ^ 31 by omega)]
  refine lv_aload_n (pc := 1252) hx hb dL_law_1252 rfl (lv_at hl 0 rfl) ?_
  refine lv_iload_n (pc := 1253) hx hb dL_law_1253 rfl (lv_at hl 3 rfl) ?_
  refine lv_iconst (pc := 1254) (v := 2) hx hb dL_law_1254 (by decide) ?_
  refine lv_iadd (pc := 1255) hx hb dL_law_1255 ?_
  rw [show nI i + (2 : Int32) = nI (i + 2) from nI_add i 2]
  refine va_sld (pc := 1256) hx hb hX hbl hbA w.2.2.1 (vp_in_nI (show i + 2 < L by omega) (by omega)) dL_law_1256 ?_
  rw [nI_clamp (show i + 2 < 2 ^ 31 by omega)]
  refine lv_aload_n (pc := 1257) hx hb dL_law_1257 rfl (lv_at hl 0 rfl) ?_
  refine lv_iload_n (pc := 1258) hx hb dL_law_1258 rfl (lv_at hl 3 rfl) ?_
  refine lv_iconst (pc := 1259) (v := 3) hx hb dL_law_1259 (by decide) ?_
  refine lv_iadd (pc := 1260) hx hb dL_law_1260 ?_
  rw [show nI i + (3 : Int32) = nI (i + 3) from nI_add i 3]
  refine va_sld (pc := 1261) hx hb hX hbl hbA w.2.2.1 (vp_in_nI (show i + 3 < L by omega) (by omega)) dL_law_1261 ?_
  rw [nI_clamp (show i + 3 < 2 ^ 31 by omega)]
  refine s_cvi (pc := 1262) [.int (xs (i + 1)), .int (xs (i + 2)), .int (xs (i + 3))] (fun ad => [.ref (ad 0), .int (xs (i + 1)), .int (xs (i + 2)), .int (xs (i + 3))]) F w (m_M_roll _ _ _ _ _ _ h2) rfl rfl hl.1 ds_0 vc_X12 rfl ok_X12_roll rfl kc_X12_roll kl_L_128 ki_X12_roll kv_X12_roll kn_X12 ⟨Nat.le_trans (by decide) hR1, Nat.le_trans (by decide) hR2⟩ hcs (Nat.le_of_ble_eq_true rfl) dL_law_1262 (fun H locs w => ?_)
  refine lv_pop (pc := 1265) hx hb dL_law_1265 rfl ?_
  refine lv_goto (pc := 1266) (tgt := 1963) hx hb dL_law_1266 (by decide) ?_
  exact kk H locs w
set_option maxRecDepth 100000 in
set_option maxHeartbeats 4000000 in
theorem lc_27 (F : Fx p s m args meth c cL_law 4 RL rt dC dI cs A) (hX : va_X b L xs s s.heap) (hbl : b < s.heap.size) (hbA : ¬ A b) (hR1 : 8 ≤ R.frames) (hR2 : 340 ≤ R.locals) (hcs : cells ≤ R.cells ∧ slots ≤ R.slots) {S S1 S2 : SS} {r1 r2 : Int32} (hi : i + 6 ≤ L) (hL : L ≤ 3072) (w : Wo dC dI cs ad A s.heap D0 S H locs) (hl : lv_has ls 4 [(0, .ref b), (1, .ref (ad 61)), (2, .ref (ad 0)), (3, .int (nI i))]) (h1 : f_Yard_store (xs (i + 1)) (xs (i + 2)) S = some (r1, S1)) (h2 : f_M_store (xs (i + 1)) (xs (i + 2)) S1 = some (r2, S2))
    (kk : ∀ (H : Heap) (locs : List Loc), Wo dC dI cs ad A s.heap D0 S2 H locs → W p l e R s m args below meth c H locs cells slots Q (F0 m 1963 ls [])) : W p l e R s m args below meth c H locs cells slots Q (F0 m 1269 ls []) := by
  have hx := F.1.1
  have hb := F.1.2.1
  refine lv_aload_n (pc := 1269) hx hb dL_law_1269 rfl (lv_at hl 1 rfl) ?_
  refine lv_aload_n (pc := 1270) hx hb dL_law_1270 rfl (lv_at hl 0 rfl) ?_
  refine lv_iload_n (pc := 1271) hx hb dL_law_1271 rfl (lv_at hl 3 rfl) ?_
  refine lv_iconst (pc := 1272) (v := 1) hx hb dL_law_1272 (by decide) ?_
  refine lv_iadd (pc := 1273) hx hb dL_law_1273 ?_
  rw [show nI i + (1 : Int32) = nI (i + 1) from nI_add i 1]
  refine va_sld (pc := 1274) hx hb hX hbl hbA w.2.2.1 (vp_in_nI (show i + 1 < L by omega) (by omega)) dL_law_1274 ?_
  rw [nI_clamp (show i + 1 < 2 ^ 31 by omega)]
  refine lv_aload_n (pc := 1275) hx hb dL_law_1275 rfl (lv_at hl 0 rfl) ?_
  refine lv_iload_n (pc := 1276) hx hb dL_law_1276 rfl (lv_at hl 3 rfl) ?_
  refine lv_iconst (pc := 1277) (v := 2) hx hb dL_law_1277 (by decide) ?_
  refine lv_iadd (pc := 1278) hx hb dL_law_1278 ?_
  rw [show nI i + (2 : Int32) = nI (i + 2) from nI_add i 2]
  refine va_sld (pc := 1279) hx hb hX hbl hbA w.2.2.1 (vp_in_nI (show i + 2 < L by omega) (by omega)) dL_law_1279 ?_
  rw [nI_clamp (show i + 2 < 2 ^ 31 by omega)]
  refine s_cvi (pc := 1280) [.int (xs (i + 1)), .int (xs (i + 2))] (fun ad => [.ref (ad 61), .int (xs (i + 1)), .int (xs (i + 2))]) F w (m_Yard_store _ _ _ _ _ h1) rfl rfl hl.1 ds_61 vc_X11 rfl ok_X11_store rfl kc_X11_store kl_L_129 ki_X11_store kv_X11_store kn_X11 ⟨Nat.le_trans (by decide) hR1, Nat.le_trans (by decide) hR2⟩ hcs (Nat.le_of_ble_eq_true rfl) dL_law_1280 (fun H locs w => ?_)
  refine lv_pop (pc := 1283) hx hb dL_law_1283 rfl ?_
  refine lv_aload_n (pc := 1284) hx hb dL_law_1284 rfl (lv_at hl 2 rfl) ?_
  refine lv_aload_n (pc := 1285) hx hb dL_law_1285 rfl (lv_at hl 0 rfl) ?_
  refine lv_iload_n (pc := 1286) hx hb dL_law_1286 rfl (lv_at hl 3 rfl) ?_
  refine lv_iconst (pc := 1287) (v := 1) hx hb dL_law_1287 (by decide) ?_
  refine lv_iadd (pc := 1288) hx hb dL_law_1288 ?_
  rw [show nI i + (1 : Int32) = nI (i + 1) from nI_add i 1]
  refine va_sld (pc := 1289) hx hb hX hbl hbA w.2.2.1 (vp_in_nI (show i + 1 < L by omega) (by omega)) dL_law_1289 ?_
  rw [nI_clamp (show i + 1 < 2 ^ 31 by omega)]
  refine lv_aload_n (pc := 1290) hx hb dL_law_1290 rfl (lv_at hl 0 rfl) ?_
  refine lv_iload_n (pc := 1291) hx hb dL_law_1291 rfl (lv_at hl 3 rfl) ?_
  refine lv_iconst (pc := 1292) (v := 2) hx hb dL_law_1292 (by decide) ?_
  refine lv_iadd (pc := 1293) hx hb dL_law_1293 ?_
  rw [show nI i + (2 : Int32) = nI (i + 2) from nI_add i 2]
  refine va_sld (pc := 1294) hx hb hX hbl hbA w.2.2.1 (vp_in_nI (show i + 2 < L by omega) (by omega)) dL_law_1294 ?_
  rw [nI_clamp (show i + 2 < 2 ^ 31 by omega)]
  refine s_cvi (pc := 1295) [.int (xs (i + 1)), .int (xs (i + 2))] (fun ad => [.ref (ad 0), .int (xs (i + 1)), .int (xs (i + 2))]) F w (m_M_store _ _ _ _ _ h2) rfl rfl hl.1 ds_0 vc_X12 rfl ok_X12_store rfl kc_X12_store kl_L_132 ki_X12_store kv_X12_store kn_X12 ⟨Nat.le_trans (by decide) hR1, Nat.le_trans (by decide) hR2⟩ hcs (Nat.le_of_ble_eq_true rfl) dL_law_1295 (fun H locs w => ?_)
  refine lv_pop (pc := 1298) hx hb dL_law_1298 rfl ?_
  refine lv_goto (pc := 1299) (tgt := 1963) hx hb dL_law_1299 (by decide) ?_
  exact kk H locs w
set_option maxRecDepth 100000 in
set_option maxHeartbeats 4000000 in
theorem lc_28 (F : Fx p s m args meth c cL_law 4 RL rt dC dI cs A) (hX : va_X b L xs s s.heap) (hbl : b < s.heap.size) (hbA : ¬ A b) (hR1 : 8 ≤ R.frames) (hR2 : 340 ≤ R.locals) (hcs : cells ≤ R.cells ∧ slots ≤ R.slots) {S S1 S2 : SS} {r1 r2 : Int32} (hi : i + 6 ≤ L) (hL : L ≤ 3072) (w : Wo dC dI cs ad A s.heap D0 S H locs) (hl : lv_has ls 4 [(0, .ref b), (1, .ref (ad 61)), (2, .ref (ad 0)), (3, .int (nI i))]) (h1 : f_Yard_rolled (xs (i + 1)) S = some (r1, S1)) (h2 : f_M_rolled (xs (i + 1)) S1 = some (r2, S2))
    (kk : ∀ (H : Heap) (locs : List Loc), Wo dC dI cs ad A s.heap D0 S2 H locs → W p l e R s m args below meth c H locs cells slots Q (F0 m 1963 ls [])) : W p l e R s m args below meth c H locs cells slots Q (F0 m 1302 ls []) := by
  have hx := F.1.1
  have hb := F.1.2.1
  refine lv_aload_n (pc := 1302) hx hb dL_law_1302 rfl (lv_at hl 1 rfl) ?_
  refine lv_aload_n (pc := 1303) hx hb dL_law_1303 rfl (lv_at hl 0 rfl) ?_
  refine lv_iload_n (pc := 1304) hx hb dL_law_1304 rfl (lv_at hl 3 rfl) ?_
  refine lv_iconst (pc := 1305) (v := 1) hx hb dL_law_1305 (by decide) ?_
  refine lv_iadd (pc := 1306) hx hb dL_law_1306 ?_
  rw [show nI i + (1 : Int32) = nI (i + 1) from nI_add i 1]
  refine va_sld (pc := 1307) hx hb hX hbl hbA w.2.2.1 (vp_in_nI (show i + 1 < L by omega) (by omega)) dL_law_1307 ?_
  rw [nI_clamp (show i + 1 < 2 ^ 31 by omega)]
  refine s_cvi (pc := 1308) [.int (xs (i + 1))] (fun ad => [.ref (ad 61), .int (xs (i + 1))]) F w (m_Yard_rolled _ _ _ _ h1) rfl rfl hl.1 ds_61 vc_X11 rfl ok_X11_rolled rfl kc_X11_rolled kl_L_133 ki_X11_rolled kv_X11_rolled kn_X11 ⟨Nat.le_trans (by decide) hR1, Nat.le_trans (by decide) hR2⟩ hcs (Nat.le_of_ble_eq_true rfl) dL_law_1308 (fun H locs w => ?_)
  refine lv_pop (pc := 1311) hx hb dL_law_1311 rfl ?_
  refine lv_aload_n (pc := 1312) hx hb dL_law_1312 rfl (lv_at hl 2 rfl) ?_
  refine lv_aload_n (pc := 1313) hx hb dL_law_1313 rfl (lv_at hl 0 rfl) ?_
  refine lv_iload_n (pc := 1314) hx hb dL_law_1314 rfl (lv_at hl 3 rfl) ?_
  refine lv_iconst (pc := 1315) (v := 1) hx hb dL_law_1315 (by decide) ?_
  refine lv_iadd (pc := 1316) hx hb dL_law_1316 ?_
  rw [show nI i + (1 : Int32) = nI (i + 1) from nI_add i 1]
  refine va_sld (pc := 1317) hx hb hX hbl hbA w.2.2.1 (vp_in_nI (show i + 1 < L by omega) (by omega)) dL_law_1317 ?_
  rw [nI_clamp (show i + 1 < 2 ^ 31 by omega)]
  refine s_cvi (pc := 1318) [.int (xs (i + 1))] (fun ad => [.ref (ad 0), .int (xs (i + 1))]) F w (m_M_rolled _ _ _ _ h2) rfl rfl hl.1 ds_0 vc_X12 rfl ok_X12_rolled rfl kc_X12_rolled kl_L_136 ki_X12_rolled kv_X12_rolled kn_X12 ⟨Nat.le_trans (by decide) hR1, Nat.le_trans (by decide) hR2⟩ hcs (Nat.le_of_ble_eq_true rfl) dL_law_1318 (fun H locs w => ?_)
  refine lv_pop (pc := 1321) hx hb dL_law_1321 rfl ?_
  refine lv_goto (pc := 1322) (tgt := 1963) hx hb dL_law_1322 (by decide) ?_
  exact kk H locs w
set_option maxRecDepth 100000 in
set_option maxHeartbeats 4000000 in
theorem lc_29 (F : Fx p s m args meth c cL_law 4 RL rt dC dI cs A) (hX : va_X b L xs s s.heap) (hbl : b < s.heap.size) (hbA : ¬ A b) (hR1 : 8 ≤ R.frames) (hR2 : 340 ≤ R.locals) (hcs : cells ≤ R.cells ∧ slots ≤ R.slots) {S S1 S2 : SS} {r1 r2 : Int32} (hi : i + 6 ≤ L) (hL : L ≤ 3072) (w : Wo dC dI cs ad A s.heap D0 S H locs) (hl : lv_has ls 4 [(0, .ref b), (1, .ref (ad 61)), (2, .ref (ad 0)), (3, .int (nI i))]) (h1 : f_Yard_at (xs (i + 1)) (xs (i + 2)) S = some (r1, S1)) (h2 : f_M_at (xs (i + 1)) (xs (i + 2)) S1 = some (r2, S2))
    (kk : ∀ (H : Heap) (locs : List Loc), Wo dC dI cs ad A s.heap D0 S2 H locs → W p l e R s m args below meth c H locs cells slots Q (F0 m 1963 ls [])) : W p l e R s m args below meth c H locs cells slots Q (F0 m 1325 ls []) := by
  have hx := F.1.1
  have hb := F.1.2.1
  refine lv_aload_n (pc := 1325) hx hb dL_law_1325 rfl (lv_at hl 1 rfl) ?_
  refine lv_aload_n (pc := 1326) hx hb dL_law_1326 rfl (lv_at hl 0 rfl) ?_
  refine lv_iload_n (pc := 1327) hx hb dL_law_1327 rfl (lv_at hl 3 rfl) ?_
  refine lv_iconst (pc := 1328) (v := 1) hx hb dL_law_1328 (by decide) ?_
  refine lv_iadd (pc := 1329) hx hb dL_law_1329 ?_
  rw [show nI i + (1 : Int32) = nI (i + 1) from nI_add i 1]
  refine va_sld (pc := 1330) hx hb hX hbl hbA w.2.2.1 (vp_in_nI (show i + 1 < L by omega) (by omega)) dL_law_1330 ?_
  rw [nI_clamp (show i + 1 < 2 ^ 31 by omega)]
  refine lv_aload_n (pc := 1331) hx hb dL_law_1331 rfl (lv_at hl 0 rfl) ?_
  refine lv_iload_n (pc := 1332) hx hb dL_law_1332 rfl (lv_at hl 3 rfl) ?_
  refine lv_iconst (pc := 1333) (v := 2) hx hb dL_law_1333 (by decide) ?_
  refine lv_iadd (pc := 1334) hx hb dL_law_1334 ?_
  rw [show nI i + (2 : Int32) = nI (i + 2) from nI_add i 2]
  refine va_sld (pc := 1335) hx hb hX hbl hbA w.2.2.1 (vp_in_nI (show i + 2 < L by omega) (by omega)) dL_law_1335 ?_
  rw [nI_clamp (show i + 2 < 2 ^ 31 by omega)]
  refine s_cvi (pc := 1336) [.int (xs (i + 1)), .int (xs (i + 2))] (fun ad => [.ref (ad 61), .int (xs (i + 1)), .int (xs (i + 2))]) F w (m_Yard_at _ _ _ _ _ h1) rfl rfl hl.1 ds_61 vc_X11 rfl ok_X11_at rfl kc_X11_at kl_L_137 ki_X11_at kv_X11_at kn_X11 ⟨Nat.le_trans (by decide) hR1, Nat.le_trans (by decide) hR2⟩ hcs (Nat.le_of_ble_eq_true rfl) dL_law_1336 (fun H locs w => ?_)
  refine lv_pop (pc := 1339) hx hb dL_law_1339 rfl ?_
  refine lv_aload_n (pc := 1340) hx hb dL_law_1340 rfl (lv_at hl 2 rfl) ?_
  refine lv_aload_n (pc := 1341) hx hb dL_law_1341 rfl (lv_at hl 0 rfl) ?_
  refine lv_iload_n (pc := 1342) hx hb dL_law_1342 rfl (lv_at hl 3 rfl) ?_
  refine lv_iconst (pc := 1343) (v := 1) hx hb dL_law_1343 (by decide) ?_
  refine lv_iadd (pc := 1344) hx hb dL_law_1344 ?_
  rw [show nI i + (1 : Int32) = nI (i + 1) from nI_add i 1]
  refine va_sld (pc := 1345) hx hb hX hbl hbA w.2.2.1 (vp_in_nI (show i + 1 < L by omega) (by omega)) dL_law_1345 ?_
  rw [nI_clamp (show i + 1 < 2 ^ 31 by omega)]
  refine lv_aload_n (pc := 1346) hx hb dL_law_1346 rfl (lv_at hl 0 rfl) ?_
  refine lv_iload_n (pc := 1347) hx hb dL_law_1347 rfl (lv_at hl 3 rfl) ?_
  refine lv_iconst (pc := 1348) (v := 2) hx hb dL_law_1348 (by decide) ?_
  refine lv_iadd (pc := 1349) hx hb dL_law_1349 ?_
  rw [show nI i + (2 : Int32) = nI (i + 2) from nI_add i 2]
  refine va_sld (pc := 1350) hx hb hX hbl hbA w.2.2.1 (vp_in_nI (show i + 2 < L by omega) (by omega)) dL_law_1350 ?_
  rw [nI_clamp (show i + 2 < 2 ^ 31 by omega)]
  refine s_cvi (pc := 1351) [.int (xs (i + 1)), .int (xs (i + 2))] (fun ad => [.ref (ad 0), .int (xs (i + 1)), .int (xs (i + 2))]) F w (m_M_at _ _ _ _ _ h2) rfl rfl hl.1 ds_0 vc_X12 rfl ok_X12_at rfl kc_X12_at kl_L_140 ki_X12_at kv_X12_at kn_X12 ⟨Nat.le_trans (by decide) hR1, Nat.le_trans (by decide) hR2⟩ hcs (Nat.le_of_ble_eq_true rfl) dL_law_1351 (fun H locs w => ?_)
  refine lv_pop (pc := 1354) hx hb dL_law_1354 rfl ?_
  refine lv_goto (pc := 1355) (tgt := 1963) hx hb dL_law_1355 (by decide) ?_
  exact kk H locs w
set_option maxRecDepth 100000 in
set_option maxHeartbeats 4000000 in
theorem lc_30 (F : Fx p s m args meth c cL_law 4 RL rt dC dI cs A) (hX : va_X b L xs s s.heap) (hbl : b < s.heap.size) (hbA : ¬ A b) (hR1 : 8 ≤ R.frames) (hR2 : 340 ≤ R.locals) (hcs : cells ≤ R.cells ∧ slots ≤ R.slots) {S S1 S2 : SS} {r1 r2 : Int32} (hi : i + 6 ≤ L) (hL : L ≤ 3072) (w : Wo dC dI cs ad A s.heap D0 S H locs) (hl : lv_has ls 4 [(0, .ref b), (1, .ref (ad 61)), (2, .ref (ad 0)), (3, .int (nI i))]) (h1 : f_Yard_thing (xs (i + 1)) (xs (i + 2)) S = some (r1, S1)) (h2 : f_M_thing (xs (i + 1)) (xs (i + 2)) S1 = some (r2, S2))
    (kk : ∀ (H : Heap) (locs : List Loc), Wo dC dI cs ad A s.heap D0 S2 H locs → W p l e R s m args below meth c H locs cells slots Q (F0 m 1963 ls [])) : W p l e R s m args below meth c H locs cells slots Q (F0 m 1358 ls []) := by
  have hx := F.1.1
  have hb := F.1.2.1
  refine lv_aload_n (pc := 1358) hx hb dL_law_1358 rfl (lv_at hl 1 rfl) ?_
  refine lv_aload_n (pc := 1359) hx hb dL_law_1359 rfl (lv_at hl 0 rfl) ?_
  refine lv_iload_n (pc := 1360) hx hb dL_law_1360 rfl (lv_at hl 3 rfl) ?_
  refine lv_iconst (pc := 1361) (v := 1) hx hb dL_law_1361 (by decide) ?_
  refine lv_iadd (pc := 1362) hx hb dL_law_1362 ?_
  rw [show nI i + (1 : Int32) = nI (i + 1) from nI_add i 1]
  refine va_sld (pc := 1363) hx hb hX hbl hbA w.2.2.1 (vp_in_nI (show i + 1 < L by omega) (by omega)) dL_law_1363 ?_
  rw [nI_clamp (show i + 1 < 2 ^ 31 by omega)]
  refine lv_aload_n (pc := 1364) hx hb dL_law_1364 rfl (lv_at hl 0 rfl) ?_
  refine lv_iload_n (pc := 1365) hx hb dL_law_1365 rfl (lv_at hl 3 rfl) ?_
  refine lv_iconst (pc := 1366) (v := 2) hx hb dL_law_1366 (by decide) ?_
  refine lv_iadd (pc := 1367) hx hb dL_law_1367 ?_
  rw [show nI i + (2 : Int32) = nI (i + 2) from nI_add i 2]
  refine va_sld (pc := 1368) hx hb hX hbl hbA w.2.2.1 (vp_in_nI (show i + 2 < L by omega) (by omega)) dL_law_1368 ?_
  rw [nI_clamp (show i + 2 < 2 ^ 31 by omega)]
  refine s_cvi (pc := 1369) [.int (xs (i + 1)), .int (xs (i + 2))] (fun ad => [.ref (ad 61), .int (xs (i + 1)), .int (xs (i + 2))]) F w (m_Yard_thing _ _ _ _ _ h1) rfl rfl hl.1 ds_61 vc_X11 rfl ok_X11_thing rfl kc_X11_thing kl_L_141 ki_X11_thing kv_X11_thing kn_X11 ⟨Nat.le_trans (by decide) hR1, Nat.le_trans (by decide) hR2⟩ hcs (Nat.le_of_ble_eq_true rfl) dL_law_1369 (fun H locs w => ?_)
  refine lv_pop (pc := 1372) hx hb dL_law_1372 rfl ?_
  refine lv_aload_n (pc := 1373) hx hb dL_law_1373 rfl (lv_at hl 2 rfl) ?_
  refine lv_aload_n (pc := 1374) hx hb dL_law_1374 rfl (lv_at hl 0 rfl) ?_
  refine lv_iload_n (pc := 1375) hx hb dL_law_1375 rfl (lv_at hl 3 rfl) ?_
  refine lv_iconst (pc := 1376) (v := 1) hx hb dL_law_1376 (by decide) ?_
  refine lv_iadd (pc := 1377) hx hb dL_law_1377 ?_
  rw [show nI i + (1 : Int32) = nI (i + 1) from nI_add i 1]
  refine va_sld (pc := 1378) hx hb hX hbl hbA w.2.2.1 (vp_in_nI (show i + 1 < L by omega) (by omega)) dL_law_1378 ?_
  rw [nI_clamp (show i + 1 < 2 ^ 31 by omega)]
  refine lv_aload_n (pc := 1379) hx hb dL_law_1379 rfl (lv_at hl 0 rfl) ?_
  refine lv_iload_n (pc := 1380) hx hb dL_law_1380 rfl (lv_at hl 3 rfl) ?_
  refine lv_iconst (pc := 1381) (v := 2) hx hb dL_law_1381 (by decide) ?_
  refine lv_iadd (pc := 1382) hx hb dL_law_1382 ?_
  rw [show nI i + (2 : Int32) = nI (i + 2) from nI_add i 2]
  refine va_sld (pc := 1383) hx hb hX hbl hbA w.2.2.1 (vp_in_nI (show i + 2 < L by omega) (by omega)) dL_law_1383 ?_
  rw [nI_clamp (show i + 2 < 2 ^ 31 by omega)]
  refine s_cvi (pc := 1384) [.int (xs (i + 1)), .int (xs (i + 2))] (fun ad => [.ref (ad 0), .int (xs (i + 1)), .int (xs (i + 2))]) F w (m_M_thing _ _ _ _ _ h2) rfl rfl hl.1 ds_0 vc_X12 rfl ok_X12_thing rfl kc_X12_thing kl_L_144 ki_X12_thing kv_X12_thing kn_X12 ⟨Nat.le_trans (by decide) hR1, Nat.le_trans (by decide) hR2⟩ hcs (Nat.le_of_ble_eq_true rfl) dL_law_1384 (fun H locs w => ?_)
  refine lv_pop (pc := 1387) hx hb dL_law_1387 rfl ?_
  refine lv_goto (pc := 1388) (tgt := 1963) hx hb dL_law_1388 (by decide) ?_
  exact kk H locs w
set_option maxRecDepth 100000 in
set_option maxHeartbeats 4000000 in
theorem lc_31 (F : Fx p s m args meth c cL_law 4 RL rt dC dI cs A) (hX : va_X b L xs s s.heap) (hbl : b < s.heap.size) (hbA : ¬ A b) (hR1 : 8 ≤ R.frames) (hR2 : 340 ≤ R.locals) (hcs : cells ≤ R.cells ∧ slots ≤ R.slots) {S S1 S2 : SS} {r1 r2 : Int32} (hi : i + 6 ≤ L) (hL : L ≤ 3072) (w : Wo dC dI cs ad A s.heap D0 S H locs) (hl : lv_has ls 4 [(0, .ref b), (1, .ref (ad 61)), (2, .ref (ad 0)), (3, .int (nI i))]) (h1 : f_Yard_pointed (xs (i + 1)) (xs (i + 2)) S = some (r1, S1)) (h2 : f_M_pointed (xs (i + 1)) (xs (i + 2)) S1 = some (r2, S2))
    (kk : ∀ (H : Heap) (locs : List Loc), Wo dC dI cs ad A s.heap D0 S2 H locs → W p l e R s m args below meth c H locs cells slots Q (F0 m 1963 ls [])) : W p l e R s m args below meth c H locs cells slots Q (F0 m 1391 ls []) := by
  have hx := F.1.1
  have hb := F.1.2.1
  refine lv_aload_n (pc := 1391) hx hb dL_law_1391 rfl (lv_at hl 1 rfl) ?_
  refine lv_aload_n (pc := 1392) hx hb dL_law_1392 rfl (lv_at hl 0 rfl) ?_
  refine lv_iload_n (pc := 1393) hx hb dL_law_1393 rfl (lv_at hl 3 rfl) ?_
  refine lv_iconst (pc := 1394) (v := 1) hx hb dL_law_1394 (by decide) ?_
  refine lv_iadd (pc := 1395) hx hb dL_law_1395 ?_
  rw [show nI i + (1 : Int32) = nI (i + 1) from nI_add i 1]
  refine va_sld (pc := 1396) hx hb hX hbl hbA w.2.2.1 (vp_in_nI (show i + 1 < L by omega) (by omega)) dL_law_1396 ?_
  rw [nI_clamp (show i + 1 < 2 ^ 31 by omega)]
  refine lv_aload_n (pc := 1397) hx hb dL_law_1397 rfl (lv_at hl 0 rfl) ?_
  refine lv_iload_n (pc := 1398) hx hb dL_law_1398 rfl (lv_at hl 3 rfl) ?_
  refine lv_iconst (pc := 1399) (v := 2) hx hb dL_law_1399 (by decide) ?_
  refine lv_iadd (pc := 1400) hx hb dL_law_1400 ?_
  rw [show nI i + (2 : Int32) = nI (i + 2) from nI_add i 2]
  refine va_sld (pc := 1401) hx hb hX hbl hbA w.2.2.1 (vp_in_nI (show i + 2 < L by omega) (by omega)) dL_law_1401 ?_
  rw [nI_clamp (show i + 2 < 2 ^ 31 by omega)]
  refine s_cvi (pc := 1402) [.int (xs (i + 1)), .int (xs (i + 2))] (fun ad => [.ref (ad 61), .int (xs (i + 1)), .int (xs (i + 2))]) F w (m_Yard_pointed _ _ _ _ _ h1) rfl rfl hl.1 ds_61 vc_X11 rfl ok_X11_pointed rfl kc_X11_pointed kl_L_145 ki_X11_pointed kv_X11_pointed kn_X11 ⟨Nat.le_trans (by decide) hR1, Nat.le_trans (by decide) hR2⟩ hcs (Nat.le_of_ble_eq_true rfl) dL_law_1402 (fun H locs w => ?_)
  refine lv_pop (pc := 1405) hx hb dL_law_1405 rfl ?_
  refine lv_aload_n (pc := 1406) hx hb dL_law_1406 rfl (lv_at hl 2 rfl) ?_
  refine lv_aload_n (pc := 1407) hx hb dL_law_1407 rfl (lv_at hl 0 rfl) ?_
  refine lv_iload_n (pc := 1408) hx hb dL_law_1408 rfl (lv_at hl 3 rfl) ?_
  refine lv_iconst (pc := 1409) (v := 1) hx hb dL_law_1409 (by decide) ?_
  refine lv_iadd (pc := 1410) hx hb dL_law_1410 ?_
  rw [show nI i + (1 : Int32) = nI (i + 1) from nI_add i 1]
  refine va_sld (pc := 1411) hx hb hX hbl hbA w.2.2.1 (vp_in_nI (show i + 1 < L by omega) (by omega)) dL_law_1411 ?_
  rw [nI_clamp (show i + 1 < 2 ^ 31 by omega)]
  refine lv_aload_n (pc := 1412) hx hb dL_law_1412 rfl (lv_at hl 0 rfl) ?_
  refine lv_iload_n (pc := 1413) hx hb dL_law_1413 rfl (lv_at hl 3 rfl) ?_
  refine lv_iconst (pc := 1414) (v := 2) hx hb dL_law_1414 (by decide) ?_
  refine lv_iadd (pc := 1415) hx hb dL_law_1415 ?_
  rw [show nI i + (2 : Int32) = nI (i + 2) from nI_add i 2]
  refine va_sld (pc := 1416) hx hb hX hbl hbA w.2.2.1 (vp_in_nI (show i + 2 < L by omega) (by omega)) dL_law_1416 ?_
  rw [nI_clamp (show i + 2 < 2 ^ 31 by omega)]
  refine s_cvi (pc := 1417) [.int (xs (i + 1)), .int (xs (i + 2))] (fun ad => [.ref (ad 0), .int (xs (i + 1)), .int (xs (i + 2))]) F w (m_M_pointed _ _ _ _ _ h2) rfl rfl hl.1 ds_0 vc_X12 rfl ok_X12_pointed rfl kc_X12_pointed kl_L_148 ki_X12_pointed kv_X12_pointed kn_X12 ⟨Nat.le_trans (by decide) hR1, Nat.le_trans (by decide) hR2⟩ hcs (Nat.le_of_ble_eq_true rfl) dL_law_1417 (fun H locs w => ?_)
  refine lv_pop (pc := 1420) hx hb dL_law_1420 rfl ?_
  refine lv_goto (pc := 1421) (tgt := 1963) hx hb dL_law_1421 (by decide) ?_
  exact kk H locs w
set_option maxRecDepth 100000 in
set_option maxHeartbeats 4000000 in
theorem lc_32 (F : Fx p s m args meth c cL_law 4 RL rt dC dI cs A) (hX : va_X b L xs s s.heap) (hbl : b < s.heap.size) (hbA : ¬ A b) (hR1 : 8 ≤ R.frames) (hR2 : 340 ≤ R.locals) (hcs : cells ≤ R.cells ∧ slots ≤ R.slots) {S S1 S2 : SS} {r1 r2 : Int32} (hi : i + 6 ≤ L) (hL : L ≤ 3072) (w : Wo dC dI cs ad A s.heap D0 S H locs) (hl : lv_has ls 4 [(0, .ref b), (1, .ref (ad 61)), (2, .ref (ad 0)), (3, .int (nI i))]) (h1 : f_Yard_ask (xs (i + 1)) (xs (i + 2)) S = some (r1, S1)) (h2 : f_M_ask (xs (i + 1)) (xs (i + 2)) S1 = some (r2, S2))
    (kk : ∀ (H : Heap) (locs : List Loc), Wo dC dI cs ad A s.heap D0 S2 H locs → W p l e R s m args below meth c H locs cells slots Q (F0 m 1963 ls [])) : W p l e R s m args below meth c H locs cells slots Q (F0 m 1424 ls []) := by
  have hx := F.1.1
  have hb := F.1.2.1
  refine lv_aload_n (pc := 1424) hx hb dL_law_1424 rfl (lv_at hl 1 rfl) ?_
  refine lv_aload_n (pc := 1425) hx hb dL_law_1425 rfl (lv_at hl 0 rfl) ?_
  refine lv_iload_n (pc := 1426) hx hb dL_law_1426 rfl (lv_at hl 3 rfl) ?_
  refine lv_iconst (pc := 1427) (v := 1) hx hb dL_law_1427 (by decide) ?_
  refine lv_iadd (pc := 1428) hx hb dL_law_1428 ?_
  rw [show nI i + (1 : Int32) = nI (i + 1) from nI_add i 1]
  refine va_sld (pc := 1429) hx hb hX hbl hbA w.2.2.1 (vp_in_nI (show i + 1 < L by omega) (by omega)) dL_law_1429 ?_
  rw [nI_clamp (show i + 1 < 2 ^ 31 by omega)]
  refine lv_aload_n (pc := 1430) hx hb dL_law_1430 rfl (lv_at hl 0 rfl) ?_
  refine lv_iload_n (pc := 1431) hx hb dL_law_1431 rfl (lv_at hl 3 rfl) ?_
  refine lv_iconst (pc := 1432) (v := 2) hx hb dL_law_1432 (by decide) ?_
  refine lv_iadd (pc := 1433) hx hb dL_law_1433 ?_
  rw [show nI i + (2 : Int32) = nI (i + 2) from nI_add i 2]
  refine va_sld (pc := 1434) hx hb hX hbl hbA w.2.2.1 (vp_in_nI (show i + 2 < L by omega) (by omega)) dL_law_1434 ?_
  rw [nI_clamp (show i + 2 < 2 ^ 31 by omega)]
  refine s_cvi (pc := 1435) [.int (xs (i + 1)), .int (xs (i + 2))] (fun ad => [.ref (ad 61), .int (xs (i + 1)), .int (xs (i + 2))]) F w (m_Yard_ask _ _ _ _ _ h1) rfl rfl hl.1 ds_61 vc_X11 rfl ok_X11_ask rfl kc_X11_ask kl_L_149 ki_X11_ask kv_X11_ask kn_X11 ⟨Nat.le_trans (by decide) hR1, Nat.le_trans (by decide) hR2⟩ hcs (Nat.le_of_ble_eq_true rfl) dL_law_1435 (fun H locs w => ?_)
  refine lv_pop (pc := 1438) hx hb dL_law_1438 rfl ?_
  refine lv_aload_n (pc := 1439) hx hb dL_law_1439 rfl (lv_at hl 2 rfl) ?_
  refine lv_aload_n (pc := 1440) hx hb dL_law_1440 rfl (lv_at hl 0 rfl) ?_
  refine lv_iload_n (pc := 1441) hx hb dL_law_1441 rfl (lv_at hl 3 rfl) ?_
  refine lv_iconst (pc := 1442) (v := 1) hx hb dL_law_1442 (by decide) ?_
  refine lv_iadd (pc := 1443) hx hb dL_law_1443 ?_
  rw [show nI i + (1 : Int32) = nI (i + 1) from nI_add i 1]
  refine va_sld (pc := 1444) hx hb hX hbl hbA w.2.2.1 (vp_in_nI (show i + 1 < L by omega) (by omega)) dL_law_1444 ?_
  rw [nI_clamp (show i + 1 < 2 ^ 31 by omega)]
  refine lv_aload_n (pc := 1445) hx hb dL_law_1445 rfl (lv_at hl 0 rfl) ?_
  refine lv_iload_n (pc := 1446) hx hb dL_law_1446 rfl (lv_at hl 3 rfl) ?_
  refine lv_iconst (pc := 1447) (v := 2) hx hb dL_law_1447 (by decide) ?_
  refine lv_iadd (pc := 1448) hx hb dL_law_1448 ?_
  rw [show nI i + (2 : Int32) = nI (i + 2) from nI_add i 2]
  refine va_sld (pc := 1449) hx hb hX hbl hbA w.2.2.1 (vp_in_nI (show i + 2 < L by omega) (by omega)) dL_law_1449 ?_
  rw [nI_clamp (show i + 2 < 2 ^ 31 by omega)]
  refine s_cvi (pc := 1450) [.int (xs (i + 1)), .int (xs (i + 2))] (fun ad => [.ref (ad 0), .int (xs (i + 1)), .int (xs (i + 2))]) F w (m_M_ask _ _ _ _ _ h2) rfl rfl hl.1 ds_0 vc_X12 rfl ok_X12_ask rfl kc_X12_ask kl_L_152 ki_X12_ask kv_X12_ask kn_X12 ⟨Nat.le_trans (by decide) hR1, Nat.le_trans (by decide) hR2⟩ hcs (Nat.le_of_ble_eq_true rfl) dL_law_1450 (fun H locs w => ?_)
  refine lv_pop (pc := 1453) hx hb dL_law_1453 rfl ?_
  refine lv_goto (pc := 1454) (tgt := 1963) hx hb dL_law_1454 (by decide) ?_
  exact kk H locs w
set_option maxRecDepth 100000 in
set_option maxHeartbeats 4000000 in
theorem lc_33 (F : Fx p s m args meth c cL_law 4 RL rt dC dI cs A) (hX : va_X b L xs s s.heap) (hbl : b < s.heap.size) (hbA : ¬ A b) (hR1 : 8 ≤ R.frames) (hR2 : 340 ≤ R.locals) (hcs : cells ≤ R.cells ∧ slots ≤ R.slots) {S S1 S2 : SS} {r1 r2 : Int32} (hi : i + 6 ≤ L) (hL : L ≤ 3072) (w : Wo dC dI cs ad A s.heap D0 S H locs) (hl : lv_has ls 4 [(0, .ref b), (1, .ref (ad 61)), (2, .ref (ad 0)), (3, .int (nI i))]) (h1 : f_Yard_meet (xs (i + 1)) (xs (i + 2)) (xs (i + 3)) S = some (r1, S1)) (h2 : f_M_meet (xs (i + 1)) (xs (i + 2)) (xs (i + 3)) S1 = some (r2, S2))
    (kk : ∀ (H : Heap) (locs : List Loc), Wo dC dI cs ad A s.heap D0 S2 H locs → W p l e R s m args below meth c H locs cells slots Q (F0 m 1963 ls [])) : W p l e R s m args below meth c H locs cells slots Q (F0 m 1457 ls []) := by
  have hx := F.1.1
  have hb := F.1.2.1
  refine lv_aload_n (pc := 1457) hx hb dL_law_1457 rfl (lv_at hl 1 rfl) ?_
  refine lv_aload_n (pc := 1458) hx hb dL_law_1458 rfl (lv_at hl 0 rfl) ?_
  refine lv_iload_n (pc := 1459) hx hb dL_law_1459 rfl (lv_at hl 3 rfl) ?_
  refine lv_iconst (pc := 1460) (v := 1) hx hb dL_law_1460 (by decide) ?_
  refine lv_iadd (pc := 1461) hx hb dL_law_1461 ?_
  rw [show nI i + (1 : Int32) = nI (i + 1) from nI_add i 1]
  refine va_sld (pc := 1462) hx hb hX hbl hbA w.2.2.1 (vp_in_nI (show i + 1 < L by omega) (by omega)) dL_law_1462 ?_
  rw [nI_clamp (show i + 1 < 2 ^ 31 by omega)]
  refine lv_aload_n (pc := 1463) hx hb dL_law_1463 rfl (lv_at hl 0 rfl) ?_
  refine lv_iload_n (pc := 1464) hx hb dL_law_1464 rfl (lv_at hl 3 rfl) ?_
  refine lv_iconst (pc := 1465) (v := 2) hx hb dL_law_1465 (by decide) ?_
  refine lv_iadd (pc := 1466) hx hb dL_law_1466 ?_
  rw [show nI i + (2 : Int32) = nI (i + 2) from nI_add i 2]
  refine va_sld (pc := 1467) hx hb hX hbl hbA w.2.2.1 (vp_in_nI (show i + 2 < L by omega) (by omega)) dL_law_1467 ?_
  rw [nI_clamp (show i + 2 < 2 ^ 31 by omega)]
  refine lv_aload_n (pc := 1468) hx hb dL_law_1468 rfl (lv_at hl 0 rfl) ?_
  refine lv_iload_n (pc := 1469) hx hb dL_law_1469 rfl (lv_at hl 3 rfl) ?_
  refine lv_iconst (pc := 1470) (v := 3) hx hb dL_law_1470 (by decide) ?_
  refine lv_iadd (pc := 1471) hx hb dL_law_1471 ?_
  rw [show nI i + (3 : Int32) = nI (i + 3) from nI_add i 3]
  refine va_sld (pc := 1472) hx hb hX hbl hbA w.2.2.1 (vp_in_nI (show i + 3 < L by omega) (by omega)) dL_law_1472 ?_
  rw [nI_clamp (show i + 3 < 2 ^ 31 by omega)]
  refine s_cvi (pc := 1473) [.int (xs (i + 1)), .int (xs (i + 2)), .int (xs (i + 3))] (fun ad => [.ref (ad 61), .int (xs (i + 1)), .int (xs (i + 2)), .int (xs (i + 3))]) F w (m_Yard_meet _ _ _ _ _ _ h1) rfl rfl hl.1 ds_61 vc_X11 rfl ok_X11_meet rfl kc_X11_meet kl_L_153 ki_X11_meet kv_X11_meet kn_X11 ⟨Nat.le_trans (by decide) hR1, Nat.le_trans (by decide) hR2⟩ hcs (Nat.le_of_ble_eq_true rfl) dL_law_1473 (fun H locs w => ?_)
  refine lv_pop (pc := 1476) hx hb dL_law_1476 rfl ?_
  refine lv_aload_n (pc := 1477) hx hb dL_law_1477 rfl (lv_at hl 2 rfl) ?_
  refine lv_aload_n (pc := 1478) hx hb dL_law_1478 rfl (lv_at hl 0 rfl) ?_
  refine lv_iload_n (pc := 1479) hx hb dL_law_1479 rfl (lv_at hl 3 rfl) ?_
  refine lv_iconst (pc := 1480) (v := 1) hx hb dL_law_1480 (by decide) ?_
  refine lv_iadd (pc := 1481) hx hb dL_law_1481 ?_
  rw [show nI i + (1 : Int32) = nI (i + 1) from nI_add i 1]
  refine va_sld (pc := 1482) hx hb hX hbl hbA w.2.2.1 (vp_in_nI (show i + 1 < L by omega) (by omega)) dL_law_1482 ?_
  rw [nI_clamp (show i + 1 < 2 ^ 31 by omega)]
  refine lv_aload_n (pc := 1483) hx hb dL_law_1483 rfl (lv_at hl 0 rfl) ?_
  refine lv_iload_n (pc := 1484) hx hb dL_law_1484 rfl (lv_at hl 3 rfl) ?_
  refine lv_iconst (pc := 1485) (v := 2) hx hb dL_law_1485 (by decide) ?_
  refine lv_iadd (pc := 1486) hx hb dL_law_1486 ?_
  rw [show nI i + (2 : Int32) = nI (i + 2) from nI_add i 2]
  refine va_sld (pc := 1487) hx hb hX hbl hbA w.2.2.1 (vp_in_nI (show i + 2 < L by omega) (by omega)) dL_law_1487 ?_
  rw [nI_clamp (show i + 2 < 2 ^ 31 by omega)]
  refine lv_aload_n (pc := 1488) hx hb dL_law_1488 rfl (lv_at hl 0 rfl) ?_
  refine lv_iload_n (pc := 1489) hx hb dL_law_1489 rfl (lv_at hl 3 rfl) ?_
  refine lv_iconst (pc := 1490) (v := 3) hx hb dL_law_1490 (by decide) ?_
  refine lv_iadd (pc := 1491) hx hb dL_law_1491 ?_
  rw [show nI i + (3 : Int32) = nI (i + 3) from nI_add i 3]
  refine va_sld (pc := 1492) hx hb hX hbl hbA w.2.2.1 (vp_in_nI (show i + 3 < L by omega) (by omega)) dL_law_1492 ?_
  rw [nI_clamp (show i + 3 < 2 ^ 31 by omega)]
  refine s_cvi (pc := 1493) [.int (xs (i + 1)), .int (xs (i + 2)), .int (xs (i + 3))] (fun ad => [.ref (ad 0), .int (xs (i + 1)), .int (xs (i + 2)), .int (xs (i + 3))]) F w (m_M_meet _ _ _ _ _ _ h2) rfl rfl hl.1 ds_0 vc_X12 rfl ok_X12_meet rfl kc_X12_meet kl_L_156 ki_X12_meet kv_X12_meet kn_X12 ⟨Nat.le_trans (by decide) hR1, Nat.le_trans (by decide) hR2⟩ hcs (Nat.le_of_ble_eq_true rfl) dL_law_1493 (fun H locs w => ?_)
  refine lv_pop (pc := 1496) hx hb dL_law_1496 rfl ?_
  refine lv_goto (pc := 1497) (tgt := 1963) hx hb dL_law_1497 (by decide) ?_
  exact kk H locs w
set_option maxRecDepth 100000 in
set_option maxHeartbeats 4000000 in
theorem lc_34 (F : Fx p s m args meth c cL_law 4 RL rt dC dI cs A) (hX : va_X b L xs s s.heap) (hbl : b < s.heap.size) (hbA : ¬ A b) (hR1 : 8 ≤ R.frames) (hR2 : 340 ≤ R.locals) (hcs : cells ≤ R.cells ∧ slots ≤ R.slots) {S S1 S2 : SS} {r1 r2 : Int32} (hi : i + 6 ≤ L) (hL : L ≤ 3072) (w : Wo dC dI cs ad A s.heap D0 S H locs) (hl : lv_has ls 4 [(0, .ref b), (1, .ref (ad 61)), (2, .ref (ad 0)), (3, .int (nI i))]) (h1 : f_Yard_weigh (xs (i + 1)) S = some (r1, S1)) (h2 : f_M_weigh (xs (i + 1)) S1 = some (r2, S2))
    (kk : ∀ (H : Heap) (locs : List Loc), Wo dC dI cs ad A s.heap D0 S2 H locs → W p l e R s m args below meth c H locs cells slots Q (F0 m 1963 ls [])) : W p l e R s m args below meth c H locs cells slots Q (F0 m 1500 ls []) := by
  have hx := F.1.1
  have hb := F.1.2.1
  refine lv_aload_n (pc := 1500) hx hb dL_law_1500 rfl (lv_at hl 1 rfl) ?_
  refine lv_aload_n (pc := 1501) hx hb dL_law_1501 rfl (lv_at hl 0 rfl) ?_
  refine lv_iload_n (pc := 1502) hx hb dL_law_1502 rfl (lv_at hl 3 rfl) ?_
  refine lv_iconst (pc := 1503) (v := 1) hx hb dL_law_1503 (by decide) ?_
  refine lv_iadd (pc := 1504) hx hb dL_law_1504 ?_
  rw [show nI i + (1 : Int32) = nI (i + 1) from nI_add i 1]
  refine va_sld (pc := 1505) hx hb hX hbl hbA w.2.2.1 (vp_in_nI (show i + 1 < L by omega) (by omega)) dL_law_1505 ?_
  rw [nI_clamp (show i + 1 < 2 ^ 31 by omega)]
  refine s_cvi (pc := 1506) [.int (xs (i + 1))] (fun ad => [.ref (ad 61), .int (xs (i + 1))]) F w (m_Yard_weigh _ _ _ _ h1) rfl rfl hl.1 ds_61 vc_X11 rfl ok_X11_weigh rfl kc_X11_weigh kl_L_157 ki_X11_weigh kv_X11_weigh kn_X11 ⟨Nat.le_trans (by decide) hR1, Nat.le_trans (by decide) hR2⟩ hcs (Nat.le_of_ble_eq_true rfl) dL_law_1506 (fun H locs w => ?_)
  refine lv_pop (pc := 1509) hx hb dL_law_1509 rfl ?_
  refine lv_aload_n (pc := 1510) hx hb dL_law_1510 rfl (lv_at hl 2 rfl) ?_
  refine lv_aload_n (pc := 1511) hx hb dL_law_1511 rfl (lv_at hl 0 rfl) ?_
  refine lv_iload_n (pc := 1512) hx hb dL_law_1512 rfl (lv_at hl 3 rfl) ?_
  refine lv_iconst (pc := 1513) (v := 1) hx hb dL_law_1513 (by decide) ?_
  refine lv_iadd (pc := 1514) hx hb dL_law_1514 ?_
  rw [show nI i + (1 : Int32) = nI (i + 1) from nI_add i 1]
  refine va_sld (pc := 1515) hx hb hX hbl hbA w.2.2.1 (vp_in_nI (show i + 1 < L by omega) (by omega)) dL_law_1515 ?_
  rw [nI_clamp (show i + 1 < 2 ^ 31 by omega)]
  refine s_cvi (pc := 1516) [.int (xs (i + 1))] (fun ad => [.ref (ad 0), .int (xs (i + 1))]) F w (m_M_weigh _ _ _ _ h2) rfl rfl hl.1 ds_0 vc_X12 rfl ok_X12_weigh rfl kc_X12_weigh kl_L_160 ki_X12_weigh kv_X12_weigh kn_X12 ⟨Nat.le_trans (by decide) hR1, Nat.le_trans (by decide) hR2⟩ hcs (Nat.le_of_ble_eq_true rfl) dL_law_1516 (fun H locs w => ?_)
  refine lv_pop (pc := 1519) hx hb dL_law_1519 rfl ?_
  refine lv_goto (pc := 1520) (tgt := 1963) hx hb dL_law_1520 (by decide) ?_
  exact kk H locs w
set_option maxRecDepth 100000 in
set_option maxHeartbeats 4000000 in
theorem lc_35 (F : Fx p s m args meth c cL_law 4 RL rt dC dI cs A) (hX : va_X b L xs s s.heap) (hbl : b < s.heap.size) (hbA : ¬ A b) (hR1 : 8 ≤ R.frames) (hR2 : 340 ≤ R.locals) (hcs : cells ≤ R.cells ∧ slots ≤ R.slots) {S S1 S2 : SS} {r1 r2 : Int32} (hi : i + 6 ≤ L) (hL : L ≤ 3072) (w : Wo dC dI cs ad A s.heap D0 S H locs) (hl : lv_has ls 4 [(0, .ref b), (1, .ref (ad 61)), (2, .ref (ad 0)), (3, .int (nI i))]) (h1 : f_Yard_share (xs (i + 1)) S = some (r1, S1)) (h2 : f_M_share (xs (i + 1)) S1 = some (r2, S2))
    (kk : ∀ (H : Heap) (locs : List Loc), Wo dC dI cs ad A s.heap D0 S2 H locs → W p l e R s m args below meth c H locs cells slots Q (F0 m 1963 ls [])) : W p l e R s m args below meth c H locs cells slots Q (F0 m 1523 ls []) := by
  have hx := F.1.1
  have hb := F.1.2.1
  refine lv_aload_n (pc := 1523) hx hb dL_law_1523 rfl (lv_at hl 1 rfl) ?_
  refine lv_aload_n (pc := 1524) hx hb dL_law_1524 rfl (lv_at hl 0 rfl) ?_
  refine lv_iload_n (pc := 1525) hx hb dL_law_1525 rfl (lv_at hl 3 rfl) ?_
  refine lv_iconst (pc := 1526) (v := 1) hx hb dL_law_1526 (by decide) ?_
  refine lv_iadd (pc := 1527) hx hb dL_law_1527 ?_
  rw [show nI i + (1 : Int32) = nI (i + 1) from nI_add i 1]
  refine va_sld (pc := 1528) hx hb hX hbl hbA w.2.2.1 (vp_in_nI (show i + 1 < L by omega) (by omega)) dL_law_1528 ?_
  rw [nI_clamp (show i + 1 < 2 ^ 31 by omega)]
  refine s_cvi (pc := 1529) [.int (xs (i + 1))] (fun ad => [.ref (ad 61), .int (xs (i + 1))]) F w (m_Yard_share _ _ _ _ h1) rfl rfl hl.1 ds_61 vc_X11 rfl ok_X11_share rfl kc_X11_share kl_L_161 ki_X11_share kv_X11_share kn_X11 ⟨Nat.le_trans (by decide) hR1, Nat.le_trans (by decide) hR2⟩ hcs (Nat.le_of_ble_eq_true rfl) dL_law_1529 (fun H locs w => ?_)
  refine lv_pop (pc := 1532) hx hb dL_law_1532 rfl ?_
  refine lv_aload_n (pc := 1533) hx hb dL_law_1533 rfl (lv_at hl 2 rfl) ?_
  refine lv_aload_n (pc := 1534) hx hb dL_law_1534 rfl (lv_at hl 0 rfl) ?_
  refine lv_iload_n (pc := 1535) hx hb dL_law_1535 rfl (lv_at hl 3 rfl) ?_
  refine lv_iconst (pc := 1536) (v := 1) hx hb dL_law_1536 (by decide) ?_
  refine lv_iadd (pc := 1537) hx hb dL_law_1537 ?_
  rw [show nI i + (1 : Int32) = nI (i + 1) from nI_add i 1]
  refine va_sld (pc := 1538) hx hb hX hbl hbA w.2.2.1 (vp_in_nI (show i + 1 < L by omega) (by omega)) dL_law_1538 ?_
  rw [nI_clamp (show i + 1 < 2 ^ 31 by omega)]
  refine s_cvi (pc := 1539) [.int (xs (i + 1))] (fun ad => [.ref (ad 0), .int (xs (i + 1))]) F w (m_M_share _ _ _ _ h2) rfl rfl hl.1 ds_0 vc_X12 rfl ok_X12_share rfl kc_X12_share kl_L_164 ki_X12_share kv_X12_share kn_X12 ⟨Nat.le_trans (by decide) hR1, Nat.le_trans (by decide) hR2⟩ hcs (Nat.le_of_ble_eq_true rfl) dL_law_1539 (fun H locs w => ?_)
  refine lv_pop (pc := 1542) hx hb dL_law_1542 rfl ?_
  refine lv_goto (pc := 1543) (tgt := 1963) hx hb dL_law_1543 (by decide) ?_
  exact kk H locs w
set_option maxRecDepth 100000 in
set_option maxHeartbeats 4000000 in
theorem lc_36 (F : Fx p s m args meth c cL_law 4 RL rt dC dI cs A) (hX : va_X b L xs s s.heap) (hbl : b < s.heap.size) (hbA : ¬ A b) (hR1 : 8 ≤ R.frames) (hR2 : 340 ≤ R.locals) (hcs : cells ≤ R.cells ∧ slots ≤ R.slots) {S S1 S2 : SS} {r1 r2 : Int32} (hi : i + 6 ≤ L) (hL : L ≤ 3072) (w : Wo dC dI cs ad A s.heap D0 S H locs) (hl : lv_has ls 4 [(0, .ref b), (1, .ref (ad 61)), (2, .ref (ad 0)), (3, .int (nI i))]) (h1 : f_Yard_consist (xs (i + 1)) (xs (i + 2)) S = some (r1, S1)) (h2 : f_M_consist (xs (i + 1)) (xs (i + 2)) S1 = some (r2, S2)) (hr : r1 = r2)
    (kk : ∀ (H : Heap) (locs : List Loc), Wo dC dI cs ad A s.heap D0 S2 H locs → W p l e R s m args below meth c H locs cells slots Q (F0 m 1963 ls [])) : W p l e R s m args below meth c H locs cells slots Q (F0 m 1546 ls []) := by
  have hx := F.1.1
  have hb := F.1.2.1
  refine lv_aload_n (pc := 1546) hx hb dL_law_1546 rfl (lv_at hl 1 rfl) ?_
  refine lv_aload_n (pc := 1547) hx hb dL_law_1547 rfl (lv_at hl 0 rfl) ?_
  refine lv_iload_n (pc := 1548) hx hb dL_law_1548 rfl (lv_at hl 3 rfl) ?_
  refine lv_iconst (pc := 1549) (v := 1) hx hb dL_law_1549 (by decide) ?_
  refine lv_iadd (pc := 1550) hx hb dL_law_1550 ?_
  rw [show nI i + (1 : Int32) = nI (i + 1) from nI_add i 1]
  refine va_sld (pc := 1551) hx hb hX hbl hbA w.2.2.1 (vp_in_nI (show i + 1 < L by omega) (by omega)) dL_law_1551 ?_
  rw [nI_clamp (show i + 1 < 2 ^ 31 by omega)]
  refine lv_aload_n (pc := 1552) hx hb dL_law_1552 rfl (lv_at hl 0 rfl) ?_
  refine lv_iload_n (pc := 1553) hx hb dL_law_1553 rfl (lv_at hl 3 rfl) ?_
  refine lv_iconst (pc := 1554) (v := 2) hx hb dL_law_1554 (by decide) ?_
  refine lv_iadd (pc := 1555) hx hb dL_law_1555 ?_
  rw [show nI i + (2 : Int32) = nI (i + 2) from nI_add i 2]
  refine va_sld (pc := 1556) hx hb hX hbl hbA w.2.2.1 (vp_in_nI (show i + 2 < L by omega) (by omega)) dL_law_1556 ?_
  rw [nI_clamp (show i + 2 < 2 ^ 31 by omega)]
  refine s_cvi (pc := 1557) [.int (xs (i + 1)), .int (xs (i + 2))] (fun ad => [.ref (ad 61), .int (xs (i + 1)), .int (xs (i + 2))]) F w (m_Yard_consist _ _ _ _ _ h1) rfl rfl hl.1 ds_61 vc_X11 rfl ok_X11_consist rfl kc_X11_consist kl_L_165 ki_X11_consist kv_X11_consist kn_X11 ⟨Nat.le_trans (by decide) hR1, Nat.le_trans (by decide) hR2⟩ hcs (Nat.le_of_ble_eq_true rfl) dL_law_1557 (fun H locs w => ?_)
  refine lv_aload_n (pc := 1560) hx hb dL_law_1560 rfl (lv_at hl 2 rfl) ?_
  refine lv_aload_n (pc := 1561) hx hb dL_law_1561 rfl (lv_at hl 0 rfl) ?_
  refine lv_iload_n (pc := 1562) hx hb dL_law_1562 rfl (lv_at hl 3 rfl) ?_
  refine lv_iconst (pc := 1563) (v := 1) hx hb dL_law_1563 (by decide) ?_
  refine lv_iadd (pc := 1564) hx hb dL_law_1564 ?_
  rw [show nI i + (1 : Int32) = nI (i + 1) from nI_add i 1]
  refine va_sld (pc := 1565) hx hb hX hbl hbA w.2.2.1 (vp_in_nI (show i + 1 < L by omega) (by omega)) dL_law_1565 ?_
  rw [nI_clamp (show i + 1 < 2 ^ 31 by omega)]
  refine lv_aload_n (pc := 1566) hx hb dL_law_1566 rfl (lv_at hl 0 rfl) ?_
  refine lv_iload_n (pc := 1567) hx hb dL_law_1567 rfl (lv_at hl 3 rfl) ?_
  refine lv_iconst (pc := 1568) (v := 2) hx hb dL_law_1568 (by decide) ?_
  refine lv_iadd (pc := 1569) hx hb dL_law_1569 ?_
  rw [show nI i + (2 : Int32) = nI (i + 2) from nI_add i 2]
  refine va_sld (pc := 1570) hx hb hX hbl hbA w.2.2.1 (vp_in_nI (show i + 2 < L by omega) (by omega)) dL_law_1570 ?_
  rw [nI_clamp (show i + 2 < 2 ^ 31 by omega)]
  refine s_cvi (pc := 1571) [.int (xs (i + 1)), .int (xs (i + 2))] (fun ad => [.ref (ad 0), .int (xs (i + 1)), .int (xs (i + 2))]) F w (m_M_consist _ _ _ _ _ h2) rfl rfl hl.1 ds_0 vc_X12 rfl ok_X12_consist rfl kc_X12_consist kl_L_168 ki_X12_consist kv_X12_consist kn_X12 ⟨Nat.le_trans (by decide) hR1, Nat.le_trans (by decide) hR2⟩ hcs (Nat.le_of_ble_eq_true rfl) dL_law_1571 (fun H locs w => ?_)
  refine lv_icmp_eq (pc := 1574) (tgt := 1963) hx hb dL_law_1574 (by decide) (fun q => ?_) (fun q => absurd hr q)
  exact kk H locs w
set_option maxRecDepth 100000 in
set_option maxHeartbeats 4000000 in
theorem lc_37 (F : Fx p s m args meth c cL_law 4 RL rt dC dI cs A) (hX : va_X b L xs s s.heap) (hbl : b < s.heap.size) (hbA : ¬ A b) (hR1 : 8 ≤ R.frames) (hR2 : 340 ≤ R.locals) (hcs : cells ≤ R.cells ∧ slots ≤ R.slots) {S S1 S2 : SS} {r1 r2 : Int32} (hi : i + 6 ≤ L) (hL : L ≤ 3072) (w : Wo dC dI cs ad A s.heap D0 S H locs) (hl : lv_has ls 4 [(0, .ref b), (1, .ref (ad 61)), (2, .ref (ad 0)), (3, .int (nI i))]) (h1 : f_Yard_finding (xs (i + 1)) S = some (r1, S1)) (h2 : f_M_finding (xs (i + 1)) S1 = some (r2, S2))
    (kk : ∀ (H : Heap) (locs : List Loc), Wo dC dI cs ad A s.heap D0 S2 H locs → W p l e R s m args below meth c H locs cells slots Q (F0 m 1963 ls [])) : W p l e R s m args below meth c H locs cells slots Q (F0 m 1579 ls []) := by
  have hx := F.1.1
  have hb := F.1.2.1
  refine lv_aload_n (pc := 1579) hx hb dL_law_1579 rfl (lv_at hl 1 rfl) ?_
  refine lv_aload_n (pc := 1580) hx hb dL_law_1580 rfl (lv_at hl 0 rfl) ?_
  refine lv_iload_n (pc := 1581) hx hb dL_law_1581 rfl (lv_at hl 3 rfl) ?_
  refine lv_iconst (pc := 1582) (v := 1) hx hb dL_law_1582 (by decide) ?_
  refine lv_iadd (pc := 1583) hx hb dL_law_1583 ?_
  rw [show nI i + (1 : Int32) = nI (i + 1) from nI_add i 1]
  refine va_sld (pc := 1584) hx hb hX hbl hbA w.2.2.1 (vp_in_nI (show i + 1 < L by omega) (by omega)) dL_law_1584 ?_
  rw [nI_clamp (show i + 1 < 2 ^ 31 by omega)]
  refine s_cvi (pc := 1585) [.int (xs (i + 1))] (fun ad => [.ref (ad 61), .int (xs (i + 1))]) F w (m_Yard_finding _ _ _ _ h1) rfl rfl hl.1 ds_61 vc_X11 rfl ok_X11_finding rfl kc_X11_finding kl_L_169 ki_X11_finding kv_X11_finding kn_X11 ⟨Nat.le_trans (by decide) hR1, Nat.le_trans (by decide) hR2⟩ hcs (Nat.le_of_ble_eq_true rfl) dL_law_1585 (fun H locs w => ?_)
  refine lv_pop (pc := 1588) hx hb dL_law_1588 rfl ?_
  refine lv_aload_n (pc := 1589) hx hb dL_law_1589 rfl (lv_at hl 2 rfl) ?_
  refine lv_aload_n (pc := 1590) hx hb dL_law_1590 rfl (lv_at hl 0 rfl) ?_
  refine lv_iload_n (pc := 1591) hx hb dL_law_1591 rfl (lv_at hl 3 rfl) ?_
  refine lv_iconst (pc := 1592) (v := 1) hx hb dL_law_1592 (by decide) ?_
  refine lv_iadd (pc := 1593) hx hb dL_law_1593 ?_
  rw [show nI i + (1 : Int32) = nI (i + 1) from nI_add i 1]
  refine va_sld (pc := 1594) hx hb hX hbl hbA w.2.2.1 (vp_in_nI (show i + 1 < L by omega) (by omega)) dL_law_1594 ?_
  rw [nI_clamp (show i + 1 < 2 ^ 31 by omega)]
  refine s_cvi (pc := 1595) [.int (xs (i + 1))] (fun ad => [.ref (ad 0), .int (xs (i + 1))]) F w (m_M_finding _ _ _ _ h2) rfl rfl hl.1 ds_0 vc_X12 rfl ok_X12_finding rfl kc_X12_finding kl_L_172 ki_X12_finding kv_X12_finding kn_X12 ⟨Nat.le_trans (by decide) hR1, Nat.le_trans (by decide) hR2⟩ hcs (Nat.le_of_ble_eq_true rfl) dL_law_1595 (fun H locs w => ?_)
  refine lv_pop (pc := 1598) hx hb dL_law_1598 rfl ?_
  refine lv_goto (pc := 1599) (tgt := 1963) hx hb dL_law_1599 (by decide) ?_
  exact kk H locs w
set_option maxRecDepth 100000 in
set_option maxHeartbeats 4000000 in
theorem lc_38 (F : Fx p s m args meth c cL_law 4 RL rt dC dI cs A) (hX : va_X b L xs s s.heap) (hbl : b < s.heap.size) (hbA : ¬ A b) (hR1 : 8 ≤ R.frames) (hR2 : 340 ≤ R.locals) (hcs : cells ≤ R.cells ∧ slots ≤ R.slots) {S S1 S2 : SS} {r1 r2 : Int32} (hi : i + 6 ≤ L) (hL : L ≤ 3072) (w : Wo dC dI cs ad A s.heap D0 S H locs) (hl : lv_has ls 4 [(0, .ref b), (1, .ref (ad 61)), (2, .ref (ad 0)), (3, .int (nI i))]) (h1 : f_Yard_count (xs (i + 1)) S = some (r1, S1)) (h2 : f_M_count (xs (i + 1)) S1 = some (r2, S2))
    (kk : ∀ (H : Heap) (locs : List Loc), Wo dC dI cs ad A s.heap D0 S2 H locs → W p l e R s m args below meth c H locs cells slots Q (F0 m 1963 ls [])) : W p l e R s m args below meth c H locs cells slots Q (F0 m 1602 ls []) := by
  have hx := F.1.1
  have hb := F.1.2.1
  refine lv_aload_n (pc := 1602) hx hb dL_law_1602 rfl (lv_at hl 1 rfl) ?_
  refine lv_aload_n (pc := 1603) hx hb dL_law_1603 rfl (lv_at hl 0 rfl) ?_
  refine lv_iload_n (pc := 1604) hx hb dL_law_1604 rfl (lv_at hl 3 rfl) ?_
  refine lv_iconst (pc := 1605) (v := 1) hx hb dL_law_1605 (by decide) ?_
  refine lv_iadd (pc := 1606) hx hb dL_law_1606 ?_
  rw [show nI i + (1 : Int32) = nI (i + 1) from nI_add i 1]
  refine va_sld (pc := 1607) hx hb hX hbl hbA w.2.2.1 (vp_in_nI (show i + 1 < L by omega) (by omega)) dL_law_1607 ?_
  rw [nI_clamp (show i + 1 < 2 ^ 31 by omega)]
  refine s_cvi (pc := 1608) [.int (xs (i + 1))] (fun ad => [.ref (ad 61), .int (xs (i + 1))]) F w (m_Yard_count _ _ _ _ h1) rfl rfl hl.1 ds_61 vc_X11 rfl ok_X11_count rfl kc_X11_count kl_L_173 ki_X11_count kv_X11_count kn_X11 ⟨Nat.le_trans (by decide) hR1, Nat.le_trans (by decide) hR2⟩ hcs (Nat.le_of_ble_eq_true rfl) dL_law_1608 (fun H locs w => ?_)
  refine lv_pop (pc := 1611) hx hb dL_law_1611 rfl ?_
  refine lv_aload_n (pc := 1612) hx hb dL_law_1612 rfl (lv_at hl 2 rfl) ?_
  refine lv_aload_n (pc := 1613) hx hb dL_law_1613 rfl (lv_at hl 0 rfl) ?_
  refine lv_iload_n (pc := 1614) hx hb dL_law_1614 rfl (lv_at hl 3 rfl) ?_
  refine lv_iconst (pc := 1615) (v := 1) hx hb dL_law_1615 (by decide) ?_
  refine lv_iadd (pc := 1616) hx hb dL_law_1616 ?_
  rw [show nI i + (1 : Int32) = nI (i + 1) from nI_add i 1]
  refine va_sld (pc := 1617) hx hb hX hbl hbA w.2.2.1 (vp_in_nI (show i + 1 < L by omega) (by omega)) dL_law_1617 ?_
  rw [nI_clamp (show i + 1 < 2 ^ 31 by omega)]
  refine s_cvi (pc := 1618) [.int (xs (i + 1))] (fun ad => [.ref (ad 0), .int (xs (i + 1))]) F w (m_M_count _ _ _ _ h2) rfl rfl hl.1 ds_0 vc_X12 rfl ok_X12_count rfl kc_X12_count kl_L_176 ki_X12_count kv_X12_count kn_X12 ⟨Nat.le_trans (by decide) hR1, Nat.le_trans (by decide) hR2⟩ hcs (Nat.le_of_ble_eq_true rfl) dL_law_1618 (fun H locs w => ?_)
  refine lv_pop (pc := 1621) hx hb dL_law_1621 rfl ?_
  refine lv_goto (pc := 1622) (tgt := 1963) hx hb dL_law_1622 (by decide) ?_
  exact kk H locs w
set_option maxRecDepth 100000 in
set_option maxHeartbeats 4000000 in
theorem lc_39 (F : Fx p s m args meth c cL_law 4 RL rt dC dI cs A) (hX : va_X b L xs s s.heap) (hbl : b < s.heap.size) (hbA : ¬ A b) (hR1 : 8 ≤ R.frames) (hR2 : 340 ≤ R.locals) (hcs : cells ≤ R.cells ∧ slots ≤ R.slots) {S S1 S2 : SS} {r1 r2 : Int32} (hi : i + 6 ≤ L) (hL : L ≤ 3072) (w : Wo dC dI cs ad A s.heap D0 S H locs) (hl : lv_has ls 4 [(0, .ref b), (1, .ref (ad 61)), (2, .ref (ad 0)), (3, .int (nI i))]) (h1 : f_Yard_trace (xs (i + 1)) S = some (r1, S1)) (h2 : f_M_trace (xs (i + 1)) S1 = some (r2, S2))
    (kk : ∀ (H : Heap) (locs : List Loc), Wo dC dI cs ad A s.heap D0 S2 H locs → W p l e R s m args below meth c H locs cells slots Q (F0 m 1963 ls [])) : W p l e R s m args below meth c H locs cells slots Q (F0 m 1625 ls []) := by
  have hx := F.1.1
  have hb := F.1.2.1
  refine lv_aload_n (pc := 1625) hx hb dL_law_1625 rfl (lv_at hl 1 rfl) ?_
  refine lv_aload_n (pc := 1626) hx hb dL_law_1626 rfl (lv_at hl 0 rfl) ?_
  refine lv_iload_n (pc := 1627) hx hb dL_law_1627 rfl (lv_at hl 3 rfl) ?_
  refine lv_iconst (pc := 1628) (v := 1) hx hb dL_law_1628 (by decide) ?_
  refine lv_iadd (pc := 1629) hx hb dL_law_1629 ?_
  rw [show nI i + (1 : Int32) = nI (i + 1) from nI_add i 1]
  refine va_sld (pc := 1630) hx hb hX hbl hbA w.2.2.1 (vp_in_nI (show i + 1 < L by omega) (by omega)) dL_law_1630 ?_
  rw [nI_clamp (show i + 1 < 2 ^ 31 by omega)]
  refine s_cvi (pc := 1631) [.int (xs (i + 1))] (fun ad => [.ref (ad 61), .int (xs (i + 1))]) F w (m_Yard_trace _ _ _ _ h1) rfl rfl hl.1 ds_61 vc_X11 rfl ok_X11_trace rfl kc_X11_trace kl_L_177 ki_X11_trace kv_X11_trace kn_X11 ⟨Nat.le_trans (by decide) hR1, Nat.le_trans (by decide) hR2⟩ hcs (Nat.le_of_ble_eq_true rfl) dL_law_1631 (fun H locs w => ?_)
  refine lv_pop (pc := 1634) hx hb dL_law_1634 rfl ?_
  refine lv_aload_n (pc := 1635) hx hb dL_law_1635 rfl (lv_at hl 2 rfl) ?_
  refine lv_aload_n (pc := 1636) hx hb dL_law_1636 rfl (lv_at hl 0 rfl) ?_
  refine lv_iload_n (pc := 1637) hx hb dL_law_1637 rfl (lv_at hl 3 rfl) ?_
  refine lv_iconst (pc := 1638) (v := 1) hx hb dL_law_1638 (by decide) ?_
  refine lv_iadd (pc := 1639) hx hb dL_law_1639 ?_
  rw [show nI i + (1 : Int32) = nI (i + 1) from nI_add i 1]
  refine va_sld (pc := 1640) hx hb hX hbl hbA w.2.2.1 (vp_in_nI (show i + 1 < L by omega) (by omega)) dL_law_1640 ?_
  rw [nI_clamp (show i + 1 < 2 ^ 31 by omega)]
  refine s_cvi (pc := 1641) [.int (xs (i + 1))] (fun ad => [.ref (ad 0), .int (xs (i + 1))]) F w (m_M_trace _ _ _ _ h2) rfl rfl hl.1 ds_0 vc_X12 rfl ok_X12_trace rfl kc_X12_trace kl_L_180 ki_X12_trace kv_X12_trace kn_X12 ⟨Nat.le_trans (by decide) hR1, Nat.le_trans (by decide) hR2⟩ hcs (Nat.le_of_ble_eq_true rfl) dL_law_1641 (fun H locs w => ?_)
  refine lv_pop (pc := 1644) hx hb dL_law_1644 rfl ?_
  refine lv_goto (pc := 1645) (tgt := 1963) hx hb dL_law_1645 (by decide) ?_
  exact kk H locs w
set_option maxRecDepth 100000 in
set_option maxHeartbeats 4000000 in
theorem lc_43 (F : Fx p s m args meth c cL_law 4 RL rt dC dI cs A) (hX : va_X b L xs s s.heap) (hbl : b < s.heap.size) (hbA : ¬ A b) (hR1 : 8 ≤ R.frames) (hR2 : 340 ≤ R.locals) (hcs : cells ≤ R.cells ∧ slots ≤ R.slots) {S S1 S2 : SS} {r1 r2 : Int32} (hi : i + 6 ≤ L) (hL : L ≤ 3072) (w : Wo dC dI cs ad A s.heap D0 S H locs) (hl : lv_has ls 4 [(0, .ref b), (1, .ref (ad 61)), (2, .ref (ad 0)), (3, .int (nI i))]) (h1 : f_Yard_log (xs (i + 1)) (xs (i + 2)) S = some (r1, S1)) (h2 : f_M_log (xs (i + 1)) (xs (i + 2)) S1 = some (r2, S2))
    (kk : ∀ (H : Heap) (locs : List Loc), Wo dC dI cs ad A s.heap D0 S2 H locs → W p l e R s m args below meth c H locs cells slots Q (F0 m 1963 ls [])) : W p l e R s m args below meth c H locs cells slots Q (F0 m 1687 ls []) := by
  have hx := F.1.1
  have hb := F.1.2.1
  refine lv_aload_n (pc := 1687) hx hb dL_law_1687 rfl (lv_at hl 1 rfl) ?_
  refine lv_aload_n (pc := 1688) hx hb dL_law_1688 rfl (lv_at hl 0 rfl) ?_
  refine lv_iload_n (pc := 1689) hx hb dL_law_1689 rfl (lv_at hl 3 rfl) ?_
  refine lv_iconst (pc := 1690) (v := 1) hx hb dL_law_1690 (by decide) ?_
  refine lv_iadd (pc := 1691) hx hb dL_law_1691 ?_
  rw [show nI i + (1 : Int32) = nI (i + 1) from nI_add i 1]
  refine va_sld (pc := 1692) hx hb hX hbl hbA w.2.2.1 (vp_in_nI (show i + 1 < L by omega) (by omega)) dL_law_1692 ?_
  rw [nI_clamp (show i + 1 < 2 ^ 31 by omega)]
  refine lv_aload_n (pc := 1693) hx hb dL_law_1693 rfl (lv_at hl 0 rfl) ?_
  refine lv_iload_n (pc := 1694) hx hb dL_law_1694 rfl (lv_at hl 3 rfl) ?_
  refine lv_iconst (pc := 1695) (v := 2) hx hb dL_law_1695 (by decide) ?_
  refine lv_iadd (pc := 1696) hx hb dL_law_1696 ?_
  rw [show nI i + (2 : Int32) = nI (i + 2) from nI_add i 2]
  refine va_sld (pc := 1697) hx hb hX hbl hbA w.2.2.1 (vp_in_nI (show i + 2 < L by omega) (by omega)) dL_law_1697 ?_
  rw [nI_clamp (show i + 2 < 2 ^ 31 by omega)]
  refine s_cvi (pc := 1698) [.int (xs (i + 1)), .int (xs (i + 2))] (fun ad => [.ref (ad 61), .int (xs (i + 1)), .int (xs (i + 2))]) F w (m_Yard_log _ _ _ _ _ h1) rfl rfl hl.1 ds_61 vc_X11 rfl ok_X11_log rfl kc_X11_log kl_L_194 ki_X11_log kv_X11_log kn_X11 ⟨Nat.le_trans (by decide) hR1, Nat.le_trans (by decide) hR2⟩ hcs (Nat.le_of_ble_eq_true rfl) dL_law_1698 (fun H locs w => ?_)
  refine lv_pop (pc := 1701) hx hb dL_law_1701 rfl ?_
  refine lv_aload_n (pc := 1702) hx hb dL_law_1702 rfl (lv_at hl 2 rfl) ?_
  refine lv_aload_n (pc := 1703) hx hb dL_law_1703 rfl (lv_at hl 0 rfl) ?_
  refine lv_iload_n (pc := 1704) hx hb dL_law_1704 rfl (lv_at hl 3 rfl) ?_
  refine lv_iconst (pc := 1705) (v := 1) hx hb dL_law_1705 (by decide) ?_
  refine lv_iadd (pc := 1706) hx hb dL_law_1706 ?_
  rw [show nI i + (1 : Int32) = nI (i + 1) from nI_add i 1]
  refine va_sld (pc := 1707) hx hb hX hbl hbA w.2.2.1 (vp_in_nI (show i + 1 < L by omega) (by omega)) dL_law_1707 ?_
  rw [nI_clamp (show i + 1 < 2 ^ 31 by omega)]
  refine lv_aload_n (pc := 1708) hx hb dL_law_1708 rfl (lv_at hl 0 rfl) ?_
  refine lv_iload_n (pc := 1709) hx hb dL_law_1709 rfl (lv_at hl 3 rfl) ?_
  refine lv_iconst (pc := 1710) (v := 2) hx hb dL_law_1710 (by decide) ?_
  refine lv_iadd (pc := 1711) hx hb dL_law_1711 ?_
  rw [show nI i + (2 : Int32) = nI (i + 2) from nI_add i 2]
  refine va_sld (pc := 1712) hx hb hX hbl hbA w.2.2.1 (vp_in_nI (show i + 2 < L by omega) (by omega)) dL_law_1712 ?_
  rw [nI_clamp (show i + 2 < 2 ^ 31 by omega)]
  refine s_cvi (pc := 1713) [.int (xs (i + 1)), .int (xs (i + 2))] (fun ad => [.ref (ad 0), .int (xs (i + 1)), .int (xs (i + 2))]) F w (m_M_log _ _ _ _ _ h2) rfl rfl hl.1 ds_0 vc_X12 rfl ok_X12_log rfl kc_X12_log kl_L_197 ki_X12_log kv_X12_log kn_X12 ⟨Nat.le_trans (by decide) hR1, Nat.le_trans (by decide) hR2⟩ hcs (Nat.le_of_ble_eq_true rfl) dL_law_1713 (fun H locs w => ?_)
  refine lv_pop (pc := 1716) hx hb dL_law_1716 rfl ?_
  refine lv_goto (pc := 1717) (tgt := 1963) hx hb dL_law_1717 (by decide) ?_
  exact kk H locs w
set_option maxRecDepth 100000 in
set_option maxHeartbeats 4000000 in
theorem lc_44 (F : Fx p s m args meth c cL_law 4 RL rt dC dI cs A) (hX : va_X b L xs s s.heap) (hbl : b < s.heap.size) (hbA : ¬ A b) (hR1 : 8 ≤ R.frames) (hR2 : 340 ≤ R.locals) (hcs : cells ≤ R.cells ∧ slots ≤ R.slots) {S S1 S2 : SS} {r1 r2 : Int32} (hi : i + 6 ≤ L) (hL : L ≤ 3072) (w : Wo dC dI cs ad A s.heap D0 S H locs) (hl : lv_has ls 4 [(0, .ref b), (1, .ref (ad 61)), (2, .ref (ad 0)), (3, .int (nI i))]) (h1 : f_Yard_room (xs (i + 1)) (xs (i + 2)) S = some (r1, S1)) (h2 : f_M_room (xs (i + 1)) (xs (i + 2)) S1 = some (r2, S2))
    (kk : ∀ (H : Heap) (locs : List Loc), Wo dC dI cs ad A s.heap D0 S2 H locs → W p l e R s m args below meth c H locs cells slots Q (F0 m 1963 ls [])) : W p l e R s m args below meth c H locs cells slots Q (F0 m 1720 ls []) := by
  have hx := F.1.1
  have hb := F.1.2.1
  refine lv_aload_n (pc := 1720) hx hb dL_law_1720 rfl (lv_at hl 1 rfl) ?_
  refine lv_aload_n (pc := 1721) hx hb dL_law_1721 rfl (lv_at hl 0 rfl) ?_
  refine lv_iload_n (pc := 1722) hx hb dL_law_1722 rfl (lv_at hl 3 rfl) ?_
  refine lv_iconst (pc := 1723) (v := 1) hx hb dL_law_1723 (by decide) ?_
  refine lv_iadd (pc := 1724) hx hb dL_law_1724 ?_
  rw [show nI i + (1 : Int32) = nI (i + 1) from nI_add i 1]
  refine va_sld (pc := 1725) hx hb hX hbl hbA w.2.2.1 (vp_in_nI (show i + 1 < L by omega) (by omega)) dL_law_1725 ?_
  rw [nI_clamp (show i + 1 < 2 ^ 31 by omega)]
  refine lv_aload_n (pc := 1726) hx hb dL_law_1726 rfl (lv_at hl 0 rfl) ?_
  refine lv_iload_n (pc := 1727) hx hb dL_law_1727 rfl (lv_at hl 3 rfl) ?_
  refine lv_iconst (pc := 1728) (v := 2) hx hb dL_law_1728 (by decide) ?_
  refine lv_iadd (pc := 1729) hx hb dL_law_1729 ?_
  rw [show nI i + (2 : Int32) = nI (i + 2) from nI_add i 2]
  refine va_sld (pc := 1730) hx hb hX hbl hbA w.2.2.1 (vp_in_nI (show i + 2 < L by omega) (by omega)) dL_law_1730 ?_
  rw [nI_clamp (show i + 2 < 2 ^ 31 by omega)]
  refine s_cvi (pc := 1731) [.int (xs (i + 1)), .int (xs (i + 2))] (fun ad => [.ref (ad 61), .int (xs (i + 1)), .int (xs (i + 2))]) F w (m_Yard_room _ _ _ _ _ h1) rfl rfl hl.1 ds_61 vc_X11 rfl ok_X11_room rfl kc_X11_room kl_L_198 ki_X11_room kv_X11_room kn_X11 ⟨Nat.le_trans (by decide) hR1, Nat.le_trans (by decide) hR2⟩ hcs (Nat.le_of_ble_eq_true rfl) dL_law_1731 (fun H locs w => ?_)
  refine lv_pop (pc := 1734) hx hb dL_law_1734 rfl ?_
  refine lv_aload_n (pc := 1735) hx hb dL_law_1735 rfl (lv_at hl 2 rfl) ?_
  refine lv_aload_n (pc := 1736) hx hb dL_law_1736 rfl (lv_at hl 0 rfl) ?_
  refine lv_iload_n (pc := 1737) hx hb dL_law_1737 rfl (lv_at hl 3 rfl) ?_
  refine lv_iconst (pc := 1738) (v := 1) hx hb dL_law_1738 (by decide) ?_
  refine lv_iadd (pc := 1739) hx hb dL_law_1739 ?_
  rw [show nI i + (1 : Int32) = nI (i + 1) from nI_add i 1]
  refine va_sld (pc := 1740) hx hb hX hbl hbA w.2.2.1 (vp_in_nI (show i + 1 < L by omega) (by omega)) dL_law_1740 ?_
  rw [nI_clamp (show i + 1 < 2 ^ 31 by omega)]
  refine lv_aload_n (pc := 1741) hx hb dL_law_1741 rfl (lv_at hl 0 rfl) ?_
  refine lv_iload_n (pc := 1742) hx hb dL_law_1742 rfl (lv_at hl 3 rfl) ?_
  refine lv_iconst (pc := 1743) (v := 2) hx hb dL_law_1743 (by decide) ?_
  refine lv_iadd (pc := 1744) hx hb dL_law_1744 ?_
  rw [show nI i + (2 : Int32) = nI (i + 2) from nI_add i 2]
  refine va_sld (pc := 1745) hx hb hX hbl hbA w.2.2.1 (vp_in_nI (show i + 2 < L by omega) (by omega)) dL_law_1745 ?_
  rw [nI_clamp (show i + 2 < 2 ^ 31 by omega)]
  refine s_cvi (pc := 1746) [.int (xs (i + 1)), .int (xs (i + 2))] (fun ad => [.ref (ad 0), .int (xs (i + 1)), .int (xs (i + 2))]) F w (m_M_room _ _ _ _ _ h2) rfl rfl hl.1 ds_0 vc_X12 rfl ok_X12_room rfl kc_X12_room kl_L_201 ki_X12_room kv_X12_room kn_X12 ⟨Nat.le_trans (by decide) hR1, Nat.le_trans (by decide) hR2⟩ hcs (Nat.le_of_ble_eq_true rfl) dL_law_1746 (fun H locs w => ?_)
  refine lv_pop (pc := 1749) hx hb dL_law_1749 rfl ?_
  refine lv_goto (pc := 1750) (tgt := 1963) hx hb dL_law_1750 (by decide) ?_
  exact kk H locs w
set_option maxRecDepth 100000 in
set_option maxHeartbeats 4000000 in
theorem lc_45 (F : Fx p s m args meth c cL_law 4 RL rt dC dI cs A) (hX : va_X b L xs s s.heap) (hbl : b < s.heap.size) (hbA : ¬ A b) (hR1 : 8 ≤ R.frames) (hR2 : 340 ≤ R.locals) (hcs : cells ≤ R.cells ∧ slots ≤ R.slots) {S S1 S2 : SS} {r1 r2 : Int32} (hi : i + 6 ≤ L) (hL : L ≤ 3072) (w : Wo dC dI cs ad A s.heap D0 S H locs) (hl : lv_has ls 4 [(0, .ref b), (1, .ref (ad 61)), (2, .ref (ad 0)), (3, .int (nI i))]) (h1 : f_Yard_lay ((if xs (i + 1) = 0 then (0 : Int32) else 1)) (xs (i + 2)) (xs (i + 3)) S = some (r1, S1)) (h2 : f_M_lay ((if xs (i + 1) = 0 then (0 : Int32) else 1)) (xs (i + 2)) (xs (i + 3)) S1 = some (r2, S2))
    (kk : ∀ (H : Heap) (locs : List Loc), Wo dC dI cs ad A s.heap D0 S2 H locs → W p l e R s m args below meth c H locs cells slots Q (F0 m 1963 ls [])) : W p l e R s m args below meth c H locs cells slots Q (F0 m 1753 ls []) := by
  have hx := F.1.1
  have hb := F.1.2.1
  refine lv_aload_n (pc := 1753) hx hb dL_law_1753 rfl (lv_at hl 1 rfl) ?_
  refine lv_aload_n (pc := 1754) hx hb dL_law_1754 rfl (lv_at hl 0 rfl) ?_
  refine lv_iload_n (pc := 1755) hx hb dL_law_1755 rfl (lv_at hl 3 rfl) ?_
  refine lv_iconst (pc := 1756) (v := 1) hx hb dL_law_1756 (by decide) ?_
  refine lv_iadd (pc := 1757) hx hb dL_law_1757 ?_
  rw [show nI i + (1 : Int32) = nI (i + 1) from nI_add i 1]
  refine va_sld (pc := 1758) hx hb hX hbl hbA w.2.2.1 (vp_in_nI (show i + 1 < L by omega) (by omega)) dL_law_1758 ?_
  rw [nI_clamp (show i + 1 < 2 ^ 31 by omega)]
  suffices hj : W p l e R s m args below meth c H locs cells slots Q (F0 m 1767 ls (.int (if xs (i + 1) = 0 then (0 : Int32) else 1) :: [.ref (ad 61)])) by
    refine lv_if_eq (pc := 1759) (tgt := 1766) hx hb dL_law_1759 (by decide) (fun q => ?_) (fun q => ?_)
    · refine lv_iconst (pc := 1766) (v := 0) hx hb dL_law_1766 (by decide) ?_
      rw [if_pos q] at hj
      exact hj
    · refine lv_iconst (pc := 1762) (v := 1) hx hb dL_law_1762 (by decide) ?_
      refine lv_goto (pc := 1763) (tgt := 1767) hx hb dL_law_1763 (by decide) ?_
      rw [if_neg q] at hj
      exact hj
  refine lv_aload_n (pc := 1767) hx hb dL_law_1767 rfl (lv_at hl 0 rfl) ?_
  refine lv_iload_n (pc := 1768) hx hb dL_law_1768 rfl (lv_at hl 3 rfl) ?_
  refine lv_iconst (pc := 1769) (v := 2) hx hb dL_law_1769 (by decide) ?_
  refine lv_iadd (pc := 1770) hx hb dL_law_1770 ?_
  rw [show nI i + (2 : Int32) = nI (i + 2) from nI_add i 2]
  refine va_sld (pc := 1771) hx hb hX hbl hbA w.2.2.1 (vp_in_nI (show i + 2 < L by omega) (by omega)) dL_law_1771 ?_
  rw [nI_clamp (show i + 2 < 2 ^ 31 by omega)]
  refine lv_aload_n (pc := 1772) hx hb dL_law_1772 rfl (lv_at hl 0 rfl) ?_
  refine lv_iload_n (pc := 1773) hx hb dL_law_1773 rfl (lv_at hl 3 rfl) ?_
  refine lv_iconst (pc := 1774) (v := 3) hx hb dL_law_1774 (by decide) ?_
  refine lv_iadd (pc := 1775) hx hb dL_law_1775 ?_
  rw [show nI i + (3 : Int32) = nI (i + 3) from nI_add i 3]
  refine va_sld (pc := 1776) hx hb hX hbl hbA w.2.2.1 (vp_in_nI (show i + 3 < L by omega) (by omega)) dL_law_1776 ?_
  rw [nI_clamp (show i + 3 < 2 ^ 31 by omega)]
  refine s_cvi (pc := 1777) [.int ((if xs (i + 1) = 0 then (0 : Int32) else 1)), .int (xs (i + 2)), .int (xs (i + 3))] (fun ad => [.ref (ad 61), .int ((if xs (i + 1) = 0 then (0 : Int32) else 1)), .int (xs (i + 2)), .int (xs (i + 3))]) F w (m_Yard_lay _ _ _ _ _ _ h1) rfl rfl hl.1 ds_61 vc_X11 rfl ok_X11_lay rfl kc_X11_lay kl_L_202 ki_X11_lay kv_X11_lay kn_X11 ⟨Nat.le_trans (by decide) hR1, Nat.le_trans (by decide) hR2⟩ hcs (Nat.le_of_ble_eq_true rfl) dL_law_1777 (fun H locs w => ?_)
  refine lv_pop (pc := 1780) hx hb dL_law_1780 rfl ?_
  refine lv_aload_n (pc := 1781) hx hb dL_law_1781 rfl (lv_at hl 2 rfl) ?_
  refine lv_aload_n (pc := 1782) hx hb dL_law_1782 rfl (lv_at hl 0 rfl) ?_
  refine lv_iload_n (pc := 1783) hx hb dL_law_1783 rfl (lv_at hl 3 rfl) ?_
  refine lv_iconst (pc := 1784) (v := 1) hx hb dL_law_1784 (by decide) ?_
  refine lv_iadd (pc := 1785) hx hb dL_law_1785 ?_
  rw [show nI i + (1 : Int32) = nI (i + 1) from nI_add i 1]
  refine va_sld (pc := 1786) hx hb hX hbl hbA w.2.2.1 (vp_in_nI (show i + 1 < L by omega) (by omega)) dL_law_1786 ?_
  rw [nI_clamp (show i + 1 < 2 ^ 31 by omega)]
  suffices hj : W p l e R s m args below meth c H locs cells slots Q (F0 m 1795 ls (.int (if xs (i + 1) = 0 then (0 : Int32) else 1) :: [.ref (ad 0)])) by
    refine lv_if_eq (pc := 1787) (tgt := 1794) hx hb dL_law_1787 (by decide) (fun q => ?_) (fun q => ?_)
    · refine lv_iconst (pc := 1794) (v := 0) hx hb dL_law_1794 (by decide) ?_
      rw [if_pos q] at hj
      exact hj
    · refine lv_iconst (pc := 1790) (v := 1) hx hb dL_law_1790 (by decide) ?_
      refine lv_goto (pc := 1791) (tgt := 1795) hx hb dL_law_1791 (by decide) ?_
      rw [if_neg q] at hj
      exact hj
  refine lv_aload_n (pc := 1795) hx hb dL_law_1795 rfl (lv_at hl 0 rfl) ?_
  refine lv_iload_n (pc := 1796) hx hb dL_law_1796 rfl (lv_at hl 3 rfl) ?_
  refine lv_iconst (pc := 1797) (v := 2) hx hb dL_law_1797 (by decide) ?_
  refine lv_iadd (pc := 1798) hx hb dL_law_1798 ?_
  rw [show nI i + (2 : Int32) = nI (i + 2) from nI_add i 2]
  refine va_sld (pc := 1799) hx hb hX hbl hbA w.2.2.1 (vp_in_nI (show i + 2 < L by omega) (by omega)) dL_law_1799 ?_
  rw [nI_clamp (show i + 2 < 2 ^ 31 by omega)]
  refine lv_aload_n (pc := 1800) hx hb dL_law_1800 rfl (lv_at hl 0 rfl) ?_
  refine lv_iload_n (pc := 1801) hx hb dL_law_1801 rfl (lv_at hl 3 rfl) ?_
  refine lv_iconst (pc := 1802) (v := 3) hx hb dL_law_1802 (by decide) ?_
  refine lv_iadd (pc := 1803) hx hb dL_law_1803 ?_
  rw [show nI i + (3 : Int32) = nI (i + 3) from nI_add i 3]
  refine va_sld (pc := 1804) hx hb hX hbl hbA w.2.2.1 (vp_in_nI (show i + 3 < L by omega) (by omega)) dL_law_1804 ?_
  rw [nI_clamp (show i + 3 < 2 ^ 31 by omega)]
  refine s_cvi (pc := 1805) [.int ((if xs (i + 1) = 0 then (0 : Int32) else 1)), .int (xs (i + 2)), .int (xs (i + 3))] (fun ad => [.ref (ad 0), .int ((if xs (i + 1) = 0 then (0 : Int32) else 1)), .int (xs (i + 2)), .int (xs (i + 3))]) F w (m_M_lay _ _ _ _ _ _ h2) rfl rfl hl.1 ds_0 vc_X12 rfl ok_X12_lay rfl kc_X12_lay kl_L_206 ki_X12_lay kv_X12_lay kn_X12 ⟨Nat.le_trans (by decide) hR1, Nat.le_trans (by decide) hR2⟩ hcs (Nat.le_of_ble_eq_true rfl) dL_law_1805 (fun H locs w => ?_)
  refine lv_pop (pc := 1808) hx hb dL_law_1808 rfl ?_
  refine lv_goto (pc := 1809) (tgt := 1963) hx hb dL_law_1809 (by decide) ?_
  exact kk H locs w
set_option maxRecDepth 100000 in
set_option maxHeartbeats 4000000 in
theorem lc_46 (F : Fx p s m args meth c cL_law 4 RL rt dC dI cs A) (hX : va_X b L xs s s.heap) (hbl : b < s.heap.size) (hbA : ¬ A b) (hR1 : 8 ≤ R.frames) (hR2 : 340 ≤ R.locals) (hcs : cells ≤ R.cells ∧ slots ≤ R.slots) {S S1 S2 : SS} {r1 r2 : Int32} (hi : i + 6 ≤ L) (hL : L ≤ 3072) (w : Wo dC dI cs ad A s.heap D0 S H locs) (hl : lv_has ls 4 [(0, .ref b), (1, .ref (ad 61)), (2, .ref (ad 0)), (3, .int (nI i))]) (h1 : f_Yard_wipe  S = some (r1, S1)) (h2 : f_M_wipe  S1 = some (r2, S2))
    (kk : ∀ (H : Heap) (locs : List Loc), Wo dC dI cs ad A s.heap D0 S2 H locs → W p l e R s m args below meth c H locs cells slots Q (F0 m 1963 ls [])) : W p l e R s m args below meth c H locs cells slots Q (F0 m 1812 ls []) := by
  have hx := F.1.1
  have hb := F.1.2.1
  refine lv_aload_n (pc := 1812) hx hb dL_law_1812 rfl (lv_at hl 1 rfl) ?_
  refine s_cvi (pc := 1813) [] (fun ad => [.ref (ad 61)]) F w (m_Yard_wipe  _ _ _ h1) rfl rfl hl.1 ds_61 vc_X11 rfl ok_X11_wipe rfl kc_X11_wipe kl_L_207 ki_X11_wipe kv_X11_wipe kn_X11 ⟨Nat.le_trans (by decide) hR1, Nat.le_trans (by decide) hR2⟩ hcs (Nat.le_of_ble_eq_true rfl) dL_law_1813 (fun H locs w => ?_)
  refine lv_pop (pc := 1816) hx hb dL_law_1816 rfl ?_
  refine lv_aload_n (pc := 1817) hx hb dL_law_1817 rfl (lv_at hl 2 rfl) ?_
  refine s_cvi (pc := 1818) [] (fun ad => [.ref (ad 0)]) F w (m_M_wipe  _ _ _ h2) rfl rfl hl.1 ds_0 vc_X12 rfl ok_X12_wipe rfl kc_X12_wipe kl_L_210 ki_X12_wipe kv_X12_wipe kn_X12 ⟨Nat.le_trans (by decide) hR1, Nat.le_trans (by decide) hR2⟩ hcs (Nat.le_of_ble_eq_true rfl) dL_law_1818 (fun H locs w => ?_)
  refine lv_pop (pc := 1821) hx hb dL_law_1821 rfl ?_
  refine lv_goto (pc := 1822) (tgt := 1963) hx hb dL_law_1822 (by decide) ?_
  exact kk H locs w
set_option maxRecDepth 100000 in
set_option maxHeartbeats 4000000 in
theorem lc_48 (F : Fx p s m args meth c cL_law 4 RL rt dC dI cs A) (hX : va_X b L xs s s.heap) (hbl : b < s.heap.size) (hbA : ¬ A b) (hR1 : 8 ≤ R.frames) (hR2 : 340 ≤ R.locals) (hcs : cells ≤ R.cells ∧ slots ≤ R.slots) {S S1 S2 : SS} {r1 r2 : Int32} (hi : i + 6 ≤ L) (hL : L ≤ 3072) (w : Wo dC dI cs ad A s.heap D0 S H locs) (hl : lv_has ls 4 [(0, .ref b), (1, .ref (ad 61)), (2, .ref (ad 0)), (3, .int (nI i))]) (h1 : f_Yard_move (xs (i + 1)) (xs (i + 2)) S = some (r1, S1)) (h2 : f_M_move (xs (i + 1)) (xs (i + 2)) S1 = some (r2, S2))
    (kk : ∀ (H : Heap) (locs : List Loc), Wo dC dI cs ad A s.heap D0 S2 H locs → W p l e R s m args below meth c H locs cells slots Q (F0 m 1963 ls [])) : W p l e R s m args below meth c H locs cells slots Q (F0 m 1848 ls []) := by
  have hx := F.1.1
  have hb := F.1.2.1
  refine lv_aload_n (pc := 1848) hx hb dL_law_1848 rfl (lv_at hl 1 rfl) ?_
  refine lv_aload_n (pc := 1849) hx hb dL_law_1849 rfl (lv_at hl 0 rfl) ?_
  refine lv_iload_n (pc := 1850) hx hb dL_law_1850 rfl (lv_at hl 3 rfl) ?_
  refine lv_iconst (pc := 1851) (v := 1) hx hb dL_law_1851 (by decide) ?_
  refine lv_iadd (pc := 1852) hx hb dL_law_1852 ?_
  rw [show nI i + (1 : Int32) = nI (i + 1) from nI_add i 1]
  refine va_sld (pc := 1853) hx hb hX hbl hbA w.2.2.1 (vp_in_nI (show i + 1 < L by omega) (by omega)) dL_law_1853 ?_
  rw [nI_clamp (show i + 1 < 2 ^ 31 by omega)]
  refine lv_aload_n (pc := 1854) hx hb dL_law_1854 rfl (lv_at hl 0 rfl) ?_
  refine lv_iload_n (pc := 1855) hx hb dL_law_1855 rfl (lv_at hl 3 rfl) ?_
  refine lv_iconst (pc := 1856) (v := 2) hx hb dL_law_1856 (by decide) ?_
  refine lv_iadd (pc := 1857) hx hb dL_law_1857 ?_
  rw [show nI i + (2 : Int32) = nI (i + 2) from nI_add i 2]
  refine va_sld (pc := 1858) hx hb hX hbl hbA w.2.2.1 (vp_in_nI (show i + 2 < L by omega) (by omega)) dL_law_1858 ?_
  rw [nI_clamp (show i + 2 < 2 ^ 31 by omega)]
  refine s_cvi (pc := 1859) [.int (xs (i + 1)), .int (xs (i + 2))] (fun ad => [.ref (ad 61), .int (xs (i + 1)), .int (xs (i + 2))]) F w (m_Yard_move _ _ _ _ _ h1) rfl rfl hl.1 ds_61 vc_X11 rfl ok_X11_move rfl kc_X11_move kl_L_215 ki_X11_move kv_X11_move kn_X11 ⟨Nat.le_trans (by decide) hR1, Nat.le_trans (by decide) hR2⟩ hcs (Nat.le_of_ble_eq_true rfl) dL_law_1859 (fun H locs w => ?_)
  refine lv_pop (pc := 1862) hx hb dL_law_1862 rfl ?_
  refine lv_aload_n (pc := 1863) hx hb dL_law_1863 rfl (lv_at hl 2 rfl) ?_
  refine lv_aload_n (pc := 1864) hx hb dL_law_1864 rfl (lv_at hl 0 rfl) ?_
  refine lv_iload_n (pc := 1865) hx hb dL_law_1865 rfl (lv_at hl 3 rfl) ?_
  refine lv_iconst (pc := 1866) (v := 1) hx hb dL_law_1866 (by decide) ?_
  refine lv_iadd (pc := 1867) hx hb dL_law_1867 ?_
  rw [show nI i + (1 : Int32) = nI (i + 1) from nI_add i 1]
  refine va_sld (pc := 1868) hx hb hX hbl hbA w.2.2.1 (vp_in_nI (show i + 1 < L by omega) (by omega)) dL_law_1868 ?_
  rw [nI_clamp (show i + 1 < 2 ^ 31 by omega)]
  refine lv_aload_n (pc := 1869) hx hb dL_law_1869 rfl (lv_at hl 0 rfl) ?_
  refine lv_iload_n (pc := 1870) hx hb dL_law_1870 rfl (lv_at hl 3 rfl) ?_
  refine lv_iconst (pc := 1871) (v := 2) hx hb dL_law_1871 (by decide) ?_
  refine lv_iadd (pc := 1872) hx hb dL_law_1872 ?_
  rw [show nI i + (2 : Int32) = nI (i + 2) from nI_add i 2]
  refine va_sld (pc := 1873) hx hb hX hbl hbA w.2.2.1 (vp_in_nI (show i + 2 < L by omega) (by omega)) dL_law_1873 ?_
  rw [nI_clamp (show i + 2 < 2 ^ 31 by omega)]
  refine s_cvi (pc := 1874) [.int (xs (i + 1)), .int (xs (i + 2))] (fun ad => [.ref (ad 0), .int (xs (i + 1)), .int (xs (i + 2))]) F w (m_M_move _ _ _ _ _ h2) rfl rfl hl.1 ds_0 vc_X12 rfl ok_X12_move rfl kc_X12_move kl_L_218 ki_X12_move kv_X12_move kn_X12 ⟨Nat.le_trans (by decide) hR1, Nat.le_trans (by decide) hR2⟩ hcs (Nat.le_of_ble_eq_true rfl) dL_law_1874 (fun H locs w => ?_)
  refine lv_pop (pc := 1877) hx hb dL_law_1877 rfl ?_
  refine lv_goto (pc := 1878) (tgt := 1963) hx hb dL_law_1878 (by decide) ?_
  exact kk H locs w
set_option maxRecDepth 100000 in
set_option maxHeartbeats 4000000 in
theorem lc_49 (F : Fx p s m args meth c cL_law 4 RL rt dC dI cs A) (hX : va_X b L xs s s.heap) (hbl : b < s.heap.size) (hbA : ¬ A b) (hR1 : 8 ≤ R.frames) (hR2 : 340 ≤ R.locals) (hcs : cells ≤ R.cells ∧ slots ≤ R.slots) {S S1 S2 : SS} {r1 r2 : Int32} (hi : i + 6 ≤ L) (hL : L ≤ 3072) (w : Wo dC dI cs ad A s.heap D0 S H locs) (hl : lv_has ls 4 [(0, .ref b), (1, .ref (ad 61)), (2, .ref (ad 0)), (3, .int (nI i))]) (h1 : f_Yard_bound  S = some (r1, S1)) (h2 : f_M_bound  S1 = some (r2, S2))
    (kk : ∀ (H : Heap) (locs : List Loc), Wo dC dI cs ad A s.heap D0 S2 H locs → W p l e R s m args below meth c H locs cells slots Q (F0 m 1963 ls [])) : W p l e R s m args below meth c H locs cells slots Q (F0 m 1881 ls []) := by
  have hx := F.1.1
  have hb := F.1.2.1
  refine lv_aload_n (pc := 1881) hx hb dL_law_1881 rfl (lv_at hl 1 rfl) ?_
  refine s_cvi (pc := 1882) [] (fun ad => [.ref (ad 61)]) F w (m_Yard_bound  _ _ _ h1) rfl rfl hl.1 ds_61 vc_X11 rfl ok_X11_bound rfl kc_X11_bound kl_L_219 ki_X11_bound kv_X11_bound kn_X11 ⟨Nat.le_trans (by decide) hR1, Nat.le_trans (by decide) hR2⟩ hcs (Nat.le_of_ble_eq_true rfl) dL_law_1882 (fun H locs w => ?_)
  refine lv_pop (pc := 1885) hx hb dL_law_1885 rfl ?_
  refine lv_aload_n (pc := 1886) hx hb dL_law_1886 rfl (lv_at hl 2 rfl) ?_
  refine s_cvi (pc := 1887) [] (fun ad => [.ref (ad 0)]) F w (m_M_bound  _ _ _ h2) rfl rfl hl.1 ds_0 vc_X12 rfl ok_X12_bound rfl kc_X12_bound kl_L_222 ki_X12_bound kv_X12_bound kn_X12 ⟨Nat.le_trans (by decide) hR1, Nat.le_trans (by decide) hR2⟩ hcs (Nat.le_of_ble_eq_true rfl) dL_law_1887 (fun H locs w => ?_)
  refine lv_pop (pc := 1890) hx hb dL_law_1890 rfl ?_
  refine lv_goto (pc := 1891) (tgt := 1963) hx hb dL_law_1891 (by decide) ?_
  exact kk H locs w
set_option maxRecDepth 100000 in
set_option maxHeartbeats 4000000 in
theorem lc_50 (F : Fx p s m args meth c cL_law 4 RL rt dC dI cs A) (hX : va_X b L xs s s.heap) (hbl : b < s.heap.size) (hbA : ¬ A b) (hR1 : 8 ≤ R.frames) (hR2 : 340 ≤ R.locals) (hcs : cells ≤ R.cells ∧ slots ≤ R.slots) {S S1 S2 : SS} {r1 r2 : Int32} (hi : i + 6 ≤ L) (hL : L ≤ 3072) (w : Wo dC dI cs ad A s.heap D0 S H locs) (hl : lv_has ls 4 [(0, .ref b), (1, .ref (ad 61)), (2, .ref (ad 0)), (3, .int (nI i))]) (h1 : f_Yard_proof (xs (i + 1)) S = some (r1, S1)) (h2 : f_M_proof (xs (i + 1)) S1 = some (r2, S2))
    (kk : ∀ (H : Heap) (locs : List Loc), Wo dC dI cs ad A s.heap D0 S2 H locs → W p l e R s m args below meth c H locs cells slots Q (F0 m 1963 ls [])) : W p l e R s m args below meth c H locs cells slots Q (F0 m 1894 ls []) := by
  have hx := F.1.1
  have hb := F.1.2.1
  refine lv_aload_n (pc := 1894) hx hb dL_law_1894 rfl (lv_at hl 1 rfl) ?_
  refine lv_aload_n (pc := 1895) hx hb dL_law_1895 rfl (lv_at hl 0 rfl) ?_
  refine lv_iload_n (pc := 1896) hx hb dL_law_1896 rfl (lv_at hl 3 rfl) ?_
  refine lv_iconst (pc := 1897) (v := 1) hx hb dL_law_1897 (by decide) ?_
  refine lv_iadd (pc := 1898) hx hb dL_law_1898 ?_
  rw [show nI i + (1 : Int32) = nI (i + 1) from nI_add i 1]
  refine va_sld (pc := 1899) hx hb hX hbl hbA w.2.2.1 (vp_in_nI (show i + 1 < L by omega) (by omega)) dL_law_1899 ?_
  rw [nI_clamp (show i + 1 < 2 ^ 31 by omega)]
  refine s_cvi (pc := 1900) [.int (xs (i + 1))] (fun ad => [.ref (ad 61), .int (xs (i + 1))]) F w (m_Yard_proof _ _ _ _ h1) rfl rfl hl.1 ds_61 vc_X11 rfl ok_X11_proof rfl kc_X11_proof kl_L_223 ki_X11_proof kv_X11_proof kn_X11 ⟨Nat.le_trans (by decide) hR1, Nat.le_trans (by decide) hR2⟩ hcs (Nat.le_of_ble_eq_true rfl) dL_law_1900 (fun H locs w => ?_)
  refine lv_pop (pc := 1903) hx hb dL_law_1903 rfl ?_
  refine lv_aload_n (pc := 1904) hx hb dL_law_1904 rfl (lv_at hl 2 rfl) ?_
  refine lv_aload_n (pc := 1905) hx hb dL_law_1905 rfl (lv_at hl 0 rfl) ?_
  refine lv_iload_n (pc := 1906) hx hb dL_law_1906 rfl (lv_at hl 3 rfl) ?_
  refine lv_iconst (pc := 1907) (v := 1) hx hb dL_law_1907 (by decide) ?_
  refine lv_iadd (pc := 1908) hx hb dL_law_1908 ?_
  rw [show nI i + (1 : Int32) = nI (i + 1) from nI_add i 1]
  refine va_sld (pc := 1909) hx hb hX hbl hbA w.2.2.1 (vp_in_nI (show i + 1 < L by omega) (by omega)) dL_law_1909 ?_
  rw [nI_clamp (show i + 1 < 2 ^ 31 by omega)]
  refine s_cvi (pc := 1910) [.int (xs (i + 1))] (fun ad => [.ref (ad 0), .int (xs (i + 1))]) F w (m_M_proof _ _ _ _ h2) rfl rfl hl.1 ds_0 vc_X12 rfl ok_X12_proof rfl kc_X12_proof kl_L_226 ki_X12_proof kv_X12_proof kn_X12 ⟨Nat.le_trans (by decide) hR1, Nat.le_trans (by decide) hR2⟩ hcs (Nat.le_of_ble_eq_true rfl) dL_law_1910 (fun H locs w => ?_)
  refine lv_pop (pc := 1913) hx hb dL_law_1913 rfl ?_
  refine lv_goto (pc := 1914) (tgt := 1963) hx hb dL_law_1914 (by decide) ?_
  exact kk H locs w
set_option maxRecDepth 100000 in
set_option maxHeartbeats 4000000 in
theorem lc_51 (F : Fx p s m args meth c cL_law 4 RL rt dC dI cs A) (hX : va_X b L xs s s.heap) (hbl : b < s.heap.size) (hbA : ¬ A b) (hR1 : 8 ≤ R.frames) (hR2 : 340 ≤ R.locals) (hcs : cells ≤ R.cells ∧ slots ≤ R.slots) {S S1 S2 : SS} {r1 r2 : Int32} (hi : i + 6 ≤ L) (hL : L ≤ 3072) (w : Wo dC dI cs ad A s.heap D0 S H locs) (hl : lv_has ls 4 [(0, .ref b), (1, .ref (ad 61)), (2, .ref (ad 0)), (3, .int (nI i))]) (h1 : f_Yard_spoil (xs (i + 1)) (xs (i + 2)) S = some (r1, S1)) (h2 : f_M_spoil (xs (i + 1)) (xs (i + 2)) S1 = some (r2, S2))
    (kk : ∀ (H : Heap) (locs : List Loc), Wo dC dI cs ad A s.heap D0 S2 H locs → W p l e R s m args below meth c H locs cells slots Q (F0 m 1963 ls [])) : W p l e R s m args below meth c H locs cells slots Q (F0 m 1917 ls []) := by
  have hx := F.1.1
  have hb := F.1.2.1
  refine lv_aload_n (pc := 1917) hx hb dL_law_1917 rfl (lv_at hl 1 rfl) ?_
  refine lv_aload_n (pc := 1918) hx hb dL_law_1918 rfl (lv_at hl 0 rfl) ?_
  refine lv_iload_n (pc := 1919) hx hb dL_law_1919 rfl (lv_at hl 3 rfl) ?_
  refine lv_iconst (pc := 1920) (v := 1) hx hb dL_law_1920 (by decide) ?_
  refine lv_iadd (pc := 1921) hx hb dL_law_1921 ?_
  rw [show nI i + (1 : Int32) = nI (i + 1) from nI_add i 1]
  refine va_sld (pc := 1922) hx hb hX hbl hbA w.2.2.1 (vp_in_nI (show i + 1 < L by omega) (by omega)) dL_law_1922 ?_
  rw [nI_clamp (show i + 1 < 2 ^ 31 by omega)]
  refine lv_aload_n (pc := 1923) hx hb dL_law_1923 rfl (lv_at hl 0 rfl) ?_
  refine lv_iload_n (pc := 1924) hx hb dL_law_1924 rfl (lv_at hl 3 rfl) ?_
  refine lv_iconst (pc := 1925) (v := 2) hx hb dL_law_1925 (by decide) ?_
  refine lv_iadd (pc := 1926) hx hb dL_law_1926 ?_
  rw [show nI i + (2 : Int32) = nI (i + 2) from nI_add i 2]
  refine va_sld (pc := 1927) hx hb hX hbl hbA w.2.2.1 (vp_in_nI (show i + 2 < L by omega) (by omega)) dL_law_1927 ?_
  rw [nI_clamp (show i + 2 < 2 ^ 31 by omega)]
  refine s_cvi (pc := 1928) [.int (xs (i + 1)), .int (xs (i + 2))] (fun ad => [.ref (ad 61), .int (xs (i + 1)), .int (xs (i + 2))]) F w (m_Yard_spoil _ _ _ _ _ h1) rfl rfl hl.1 ds_61 vc_X11 rfl ok_X11_spoil rfl kc_X11_spoil kl_L_227 ki_X11_spoil kv_X11_spoil kn_X11 ⟨Nat.le_trans (by decide) hR1, Nat.le_trans (by decide) hR2⟩ hcs (Nat.le_of_ble_eq_true rfl) dL_law_1928 (fun H locs w => ?_)
  refine lv_pop (pc := 1931) hx hb dL_law_1931 rfl ?_
  refine lv_aload_n (pc := 1932) hx hb dL_law_1932 rfl (lv_at hl 2 rfl) ?_
  refine lv_aload_n (pc := 1933) hx hb dL_law_1933 rfl (lv_at hl 0 rfl) ?_
  refine lv_iload_n (pc := 1934) hx hb dL_law_1934 rfl (lv_at hl 3 rfl) ?_
  refine lv_iconst (pc := 1935) (v := 1) hx hb dL_law_1935 (by decide) ?_
  refine lv_iadd (pc := 1936) hx hb dL_law_1936 ?_
  rw [show nI i + (1 : Int32) = nI (i + 1) from nI_add i 1]
  refine va_sld (pc := 1937) hx hb hX hbl hbA w.2.2.1 (vp_in_nI (show i + 1 < L by omega) (by omega)) dL_law_1937 ?_
  rw [nI_clamp (show i + 1 < 2 ^ 31 by omega)]
  refine lv_aload_n (pc := 1938) hx hb dL_law_1938 rfl (lv_at hl 0 rfl) ?_
  refine lv_iload_n (pc := 1939) hx hb dL_law_1939 rfl (lv_at hl 3 rfl) ?_
  refine lv_iconst (pc := 1940) (v := 2) hx hb dL_law_1940 (by decide) ?_
  refine lv_iadd (pc := 1941) hx hb dL_law_1941 ?_
  rw [show nI i + (2 : Int32) = nI (i + 2) from nI_add i 2]
  refine va_sld (pc := 1942) hx hb hX hbl hbA w.2.2.1 (vp_in_nI (show i + 2 < L by omega) (by omega)) dL_law_1942 ?_
  rw [nI_clamp (show i + 2 < 2 ^ 31 by omega)]
  refine s_cvi (pc := 1943) [.int (xs (i + 1)), .int (xs (i + 2))] (fun ad => [.ref (ad 0), .int (xs (i + 1)), .int (xs (i + 2))]) F w (m_M_spoil _ _ _ _ _ h2) rfl rfl hl.1 ds_0 vc_X12 rfl ok_X12_spoil rfl kc_X12_spoil kl_L_230 ki_X12_spoil kv_X12_spoil kn_X12 ⟨Nat.le_trans (by decide) hR1, Nat.le_trans (by decide) hR2⟩ hcs (Nat.le_of_ble_eq_true rfl) dL_law_1943 (fun H locs w => ?_)
  refine lv_pop (pc := 1946) hx hb dL_law_1946 rfl ?_
  refine lv_goto (pc := 1947) (tgt := 1963) hx hb dL_law_1947 (by decide) ?_
  exact kk H locs w
set_option maxRecDepth 100000 in
set_option maxHeartbeats 4000000 in
theorem lc_52 (F : Fx p s m args meth c cL_law 4 RL rt dC dI cs A) (hX : va_X b L xs s s.heap) (hbl : b < s.heap.size) (hbA : ¬ A b) (hR1 : 8 ≤ R.frames) (hR2 : 340 ≤ R.locals) (hcs : cells ≤ R.cells ∧ slots ≤ R.slots) {S S1 S2 : SS} {r1 r2 : Int32} (hi : i + 6 ≤ L) (hL : L ≤ 3072) (w : Wo dC dI cs ad A s.heap D0 S H locs) (hl : lv_has ls 4 [(0, .ref b), (1, .ref (ad 61)), (2, .ref (ad 0)), (3, .int (nI i))]) (h1 : f_Yard_check  S = some (r1, S1)) (h2 : f_M_check  S1 = some (r2, S2))
    (kk : ∀ (H : Heap) (locs : List Loc), Wo dC dI cs ad A s.heap D0 S2 H locs → W p l e R s m args below meth c H locs cells slots Q (F0 m 1963 ls [])) : W p l e R s m args below meth c H locs cells slots Q (F0 m 1950 ls []) := by
  have hx := F.1.1
  have hb := F.1.2.1
  refine lv_aload_n (pc := 1950) hx hb dL_law_1950 rfl (lv_at hl 1 rfl) ?_
  refine s_cvi (pc := 1951) [] (fun ad => [.ref (ad 61)]) F w (m_Yard_check  _ _ _ h1) rfl rfl hl.1 ds_61 vc_X11 rfl ok_X11_check rfl kc_X11_check kl_L_231 ki_X11_check kv_X11_check kn_X11 ⟨Nat.le_trans (by decide) hR1, Nat.le_trans (by decide) hR2⟩ hcs (Nat.le_of_ble_eq_true rfl) dL_law_1951 (fun H locs w => ?_)
  refine lv_pop (pc := 1954) hx hb dL_law_1954 rfl ?_
  refine lv_aload_n (pc := 1955) hx hb dL_law_1955 rfl (lv_at hl 2 rfl) ?_
  refine s_cvi (pc := 1956) [] (fun ad => [.ref (ad 0)]) F w (m_M_check  _ _ _ h2) rfl rfl hl.1 ds_0 vc_X12 rfl ok_X12_check rfl kc_X12_check kl_L_234 ki_X12_check kv_X12_check kn_X12 ⟨Nat.le_trans (by decide) hR1, Nat.le_trans (by decide) hR2⟩ hcs (Nat.le_of_ble_eq_true rfl) dL_law_1956 (fun H locs w => ?_)
  refine lv_pop (pc := 1959) hx hb dL_law_1959 rfl ?_
  refine lv_goto (pc := 1960) (tgt := 1963) hx hb dL_law_1960 (by decide) ?_
  exact kk H locs w
end LWC
end
section
-- ===== end of PART A; then your names; then what follows =====
/-! THE CLAIM OUT OF ONE WALK OF THE LAW'S BODY. Your part is whole_start (and what it stands on); all else here is the same for every law, but numbers. -/
def R_law : String := "SwitchYardLaw"
def lw_P (b : Addr) (xs : List Int32) (args : Array Value) (s : State) : Prop := args = #[.ref b] ∧ s.IntsAt b xs ∧ xs.length ≤ 3072 ∧ (Jvm.Cond.and given_1 narrow_1).before args s = true
def lw_Q (_ : Array Value) (s : State) (o : Outcome) (t : State) : Prop := o = .returned (some (.int 1)) ∧ Framed s o t [] 600000 7302250
def lw_Z (below : List Frame) (a : Array Value) (s : State) : State → Prop := fun t => ∃ o, t.status = .running ∧ Ended t below o ∧ lw_Q a s o t
/-- the law's own end, with 1 on the stack, nothing written that was there before, its room as the claim has it -/
theorem lw_ret {p : Program} {l : Launch} {e : Env} {s : State} {m : MethodId} {below : List Frame} {meth : Method} {c : Code} {b : Nat} (hx : p.tables.exec = Jvm.exec) (hb : c.code = code) (hr : meth.sig.returnType = ret) (hlocks : meth.locks = false) {pc : Nat} {H : Heap} {ls : Array Slot} (hdg : decode code pc = .ok (.ireturn, 1)) : W p l e room_1 s m #[Value.ref b] below meth c H [] 600000 7302250 (lw_Z below #[Value.ref b] s) (F0 m pc ls [.int 1]) := by
  intro T hT X
  obtain ⟨fs, hret, hrun, hended, hW, hframe⟩ := X.leave (v := some (.int 1)) (hlocks := hlocks) (fun h => by rw [hr] at h; cases h)
  have hmeth' : T.vm.method? m = some meth := X.method'
  refine ⟨T.setFrames fs, ?_, .returned (some (.int 1)), hrun, hended, rfl, ⟨_, rfl⟩, hW, hframe⟩
  jvm_step X.here [X.here.top, hx, hb, hdg, hmeth', hr, ret, narrow_b1]
  (try refine ⟨rfl, ?_⟩); (try refine ⟨rfl, ?_⟩)
  first | (intro acts; rw [hret _ acts rfl rfl rfl]) | rw [hret _ _ rfl rfl rfl]
  exact Steps.refl _
/-- what holds at the law's entry: the machine, the code, the tables' words (any of lw_tbl by 'hts w (by decide +kernel)'), the script of L ints xs at the cell b, what the Statement gives of the start (any of its parts by flat_of_before) -/
def lw_At (p : Program) (s : State) (m : MethodId) (meth : Method) (c : Code) (b L : Nat) (xs : Nat → Int32) : Prop :=
  p.tables.exec = Jvm.exec ∧ c.code = code ∧ meth.sig.returnType = ret ∧ c.maxLocals = 4 ∧ s.vm.findClass R_law = some m.cls ∧ (∀ w ∈ lw_tbl, w.before #[Value.ref b] s = true) ∧ va_X b L xs s s.heap ∧ b < s.heap.size ∧ meth.locks = false ∧ (Jvm.Cond.and given_1 narrow_1).before #[Value.ref b] s = true
end
section
theorem kl_L_181 : Cond.methodLink RL 181 yX11_undo ∈ lw_gt := lw_i5 159 rfl rfl
theorem kc_X11_undo : Cond.code yX11_undo cX11_undo 1 (some .int) ∈ lw_gt := lw_i5 162 rfl rfl
theorem ki_X11_undo : Cond.instanceMethod yX11_undo ∈ lw_gt := lw_i5 160 rfl rfl
theorem kv_X11_undo : Cond.selects RX11 yX11_undo yX11_undo ∈ lw_gt := lw_i5 161 rfl rfl
theorem kl_L_184 : Cond.methodLink RL 184 yX12_undo ∈ lw_gt := lw_i8 144 rfl rfl
theorem kc_X12_undo : Cond.code yX12_undo cX12_undo 1 (some .int) ∈ lw_gt := lw_i8 147 rfl rfl
theorem ki_X12_undo : Cond.instanceMethod yX12_undo ∈ lw_gt := lw_i8 145 rfl rfl
theorem kv_X12_undo : Cond.selects RX12 yX12_undo yX12_undo ∈ lw_gt := lw_i8 146 rfl rfl
theorem kl_L_185 : Cond.methodLink RL 185 yX11_back ∈ lw_gt := lw_i5 171 rfl rfl
theorem kc_X11_back : Cond.code yX11_back cX11_back 1 (some .int) ∈ lw_gt := lw_i5 174 rfl rfl
theorem ki_X11_back : Cond.instanceMethod yX11_back ∈ lw_gt := lw_i5 172 rfl rfl
theorem kv_X11_back : Cond.selects RX11 yX11_back yX11_back ∈ lw_gt := lw_i5 173 rfl rfl
theorem kl_L_188 : Cond.methodLink RL 188 yX12_back ∈ lw_gt := lw_i8 156 rfl rfl
theorem kc_X12_back : Cond.code yX12_back cX12_back 1 (some .int) ∈ lw_gt := lw_i8 159 rfl rfl
theorem ki_X12_back : Cond.instanceMethod yX12_back ∈ lw_gt := lw_i8 157 rfl rfl
theorem kv_X12_back : Cond.selects RX12 yX12_back yX12_back ∈ lw_gt := lw_i8 158 rfl rfl
theorem kl_L_193 : Cond.methodLink RL 193 yX12_digest ∈ lw_gt := lw_i9 172 rfl rfl
theorem kc_X12_digest : Cond.code yX12_digest cX12_digest 4 (some .long) ∈ lw_gt := lw_i9 175 rfl rfl
theorem ki_X12_digest : Cond.instanceMethod yX12_digest ∈ lw_gt := lw_i9 173 rfl rfl
theorem kv_X12_digest : Cond.selects RX12 yX12_digest yX12_digest ∈ lw_gt := lw_i9 174 rfl rfl
theorem kl_L_211 : Cond.methodLink RL 211 yX11_plan ∈ lw_gt := lw_i6 21 rfl rfl
theorem kc_X11_plan : Cond.code yX11_plan cX11_plan 2 (some .int) ∈ lw_gt := lw_i6 24 rfl rfl
theorem ki_X11_plan : Cond.instanceMethod yX11_plan ∈ lw_gt := lw_i6 22 rfl rfl
theorem kv_X11_plan : Cond.selects RX11 yX11_plan yX11_plan ∈ lw_gt := lw_i6 23 rfl rfl
theorem kl_L_214 : Cond.methodLink RL 214 yX12_plan ∈ lw_gt := lw_i9 200 rfl rfl
theorem kc_X12_plan : Cond.code yX12_plan cX12_plan 3 (some .int) ∈ lw_gt := lw_i9 203 rfl rfl
theorem ki_X12_plan : Cond.instanceMethod yX12_plan ∈ lw_gt := lw_i9 201 rfl rfl
theorem kv_X12_plan : Cond.selects RX12 yX12_plan yX12_plan ∈ lw_gt := lw_i9 202 rfl rfl
theorem ok_X11_undo : Ok yX11_undo 0 := by decide +kernel
theorem ok_X12_undo : Ok yX12_undo 0 := by decide +kernel
theorem ok_X11_back : Ok yX11_back 0 := by decide +kernel
theorem ok_X12_back : Ok yX12_back 0 := by decide +kernel
theorem ok_X12_digest : Ok yX12_digest 0 := by decide +kernel
theorem ok_X11_plan : Ok yX11_plan 1 := by decide +kernel
theorem ok_X12_plan : Ok yX12_plan 1 := by decide +kernel
theorem dL_law_1648 : decode cL_law 1648 = .ok (.aload_n 1, 1) := dc_43 (lw_25 (j := 48) rfl (by decide +kernel))
theorem dL_law_1649 : decode cL_law 1649 = .ok (.invokevirtual 181, 3) := dc_182 (a := 0) (b := 181) (lw_25 (j := 49) rfl (by decide +kernel))
theorem dL_law_1652 : decode cL_law 1652 = .ok (.pop, 1) := dc_87 (lw_25 (j := 52) rfl (by decide +kernel))
theorem dL_law_1653 : decode cL_law 1653 = .ok (.aload_n 2, 1) := dc_44 (lw_25 (j := 53) rfl (by decide +kernel))
theorem dL_law_1654 : decode cL_law 1654 = .ok (.invokevirtual 184, 3) := dc_182 (a := 0) (b := 184) (lw_25 (j := 54) rfl (by decide +kernel))
theorem dL_law_1657 : decode cL_law 1657 = .ok (.pop, 1) := dc_87 (lw_25 (j := 57) rfl (by decide +kernel))
theorem dL_law_1658 : decode cL_law 1658 = .ok (.goto 305, 3) := dc_167 (a := 1) (b := 49) (lw_25 (j := 58) rfl (by decide +kernel)) (by decide)
theorem dL_law_1661 : decode cL_law 1661 = .ok (.aload_n 1, 1) := dc_43 (lw_25 (j := 61) rfl (by decide +kernel))
theorem dL_law_1662 : decode cL_law 1662 = .ok (.invokevirtual 185, 3) := dc_182 (a := 0) (b := 185) (lw_25 (j := 62) rfl (by decide +kernel))
theorem dL_law_1665 : decode cL_law 1665 = .ok (.pop, 1) := dc_87 (lw_26 (j := 1) rfl (by decide +kernel))
theorem dL_law_1666 : decode cL_law 1666 = .ok (.aload_n 2, 1) := dc_44 (lw_26 (j := 2) rfl (by decide +kernel))
theorem dL_law_1667 : decode cL_law 1667 = .ok (.invokevirtual 188, 3) := dc_182 (a := 0) (b := 188) (lw_26 (j := 3) rfl (by decide +kernel))
theorem dL_law_1670 : decode cL_law 1670 = .ok (.pop, 1) := dc_87 (lw_26 (j := 6) rfl (by decide +kernel))
theorem dL_law_1671 : decode cL_law 1671 = .ok (.goto 292, 3) := dc_167 (a := 1) (b := 36) (lw_26 (j := 7) rfl (by decide +kernel)) (by decide)
theorem dL_law_1674 : decode cL_law 1674 = .ok (.aload_n 1, 1) := dc_43 (lw_26 (j := 10) rfl (by decide +kernel))
theorem dL_law_1675 : decode cL_law 1675 = .ok (.invokevirtual 189, 3) := dc_182 (a := 0) (b := 189) (lw_26 (j := 11) rfl (by decide +kernel))
theorem dL_law_1678 : decode cL_law 1678 = .ok (.pop2, 1) := dc_88 (lw_26 (j := 14) rfl (by decide +kernel))
theorem dL_law_1679 : decode cL_law 1679 = .ok (.aload_n 2, 1) := dc_44 (lw_26 (j := 15) rfl (by decide +kernel))
theorem dL_law_1680 : decode cL_law 1680 = .ok (.invokevirtual 193, 3) := dc_182 (a := 0) (b := 193) (lw_26 (j := 16) rfl (by decide +kernel))
theorem dL_law_1683 : decode cL_law 1683 = .ok (.pop2, 1) := dc_88 (lw_26 (j := 19) rfl (by decide +kernel))
theorem dL_law_1684 : decode cL_law 1684 = .ok (.goto 279, 3) := dc_167 (a := 1) (b := 23) (lw_26 (j := 20) rfl (by decide +kernel)) (by decide)
theorem dL_law_1825 : decode cL_law 1825 = .ok (.aload_n 1, 1) := dc_43 (lw_28 (j := 33) rfl (by decide +kernel))
theorem dL_law_1826 : decode cL_law 1826 = .ok (.aload_n 0, 1) := dc_42 (lw_28 (j := 34) rfl (by decide +kernel))
theorem dL_law_1827 : decode cL_law 1827 = .ok (.iload_n 3, 1) := dc_29 (lw_28 (j := 35) rfl (by decide +kernel))
theorem dL_law_1828 : decode cL_law 1828 = .ok (.iconst 1, 1) := dc_4 (lw_28 (j := 36) rfl (by decide +kernel))
theorem dL_law_1829 : decode cL_law 1829 = .ok (.iadd, 1) := dc_96 (lw_28 (j := 37) rfl (by decide +kernel))
theorem dL_law_1830 : decode cL_law 1830 = .ok (.iaload, 1) := dc_46 (lw_28 (j := 38) rfl (by decide +kernel))
theorem dL_law_1831 : decode cL_law 1831 = .ok (.invokevirtual 211, 3) := dc_182 (a := 0) (b := 211) (lw_28 (j := 39) rfl (by decide +kernel))
theorem dL_law_1834 : decode cL_law 1834 = .ok (.pop, 1) := dc_87 (lw_28 (j := 42) rfl (by decide +kernel))
theorem dL_law_1835 : decode cL_law 1835 = .ok (.aload_n 2, 1) := dc_44 (lw_28 (j := 43) rfl (by decide +kernel))
theorem dL_law_1836 : decode cL_law 1836 = .ok (.aload_n 0, 1) := dc_42 (lw_28 (j := 44) rfl (by decide +kernel))
theorem dL_law_1837 : decode cL_law 1837 = .ok (.iload_n 3, 1) := dc_29 (lw_28 (j := 45) rfl (by decide +kernel))
theorem dL_law_1838 : decode cL_law 1838 = .ok (.iconst 1, 1) := dc_4 (lw_28 (j := 46) rfl (by decide +kernel))
theorem dL_law_1839 : decode cL_law 1839 = .ok (.iadd, 1) := dc_96 (lw_28 (j := 47) rfl (by decide +kernel))
theorem dL_law_1840 : decode cL_law 1840 = .ok (.iaload, 1) := dc_46 (lw_28 (j := 48) rfl (by decide +kernel))
theorem dL_law_1841 : decode cL_law 1841 = .ok (.invokevirtual 214, 3) := dc_182 (a := 0) (b := 214) (lw_28 (j := 49) rfl (by decide +kernel))
theorem dL_law_1844 : decode cL_law 1844 = .ok (.pop, 1) := dc_87 (lw_28 (j := 52) rfl (by decide +kernel))
theorem dL_law_1845 : decode cL_law 1845 = .ok (.goto 118, 3) := dc_167 (a := 0) (b := 118) (lw_28 (j := 53) rfl (by decide +kernel)) (by decide)
section LWC
variable {p : Program} {l : Launch} {e : Env} {R : Room} {s : State} {m : MethodId} {args : Array Value} {below : List Frame} {meth : Method} {c : Code} {H : Heap} {locs : List Loc} {Q : State → Prop} {rt : Option FieldType} {ls : Array Slot} {dC : Nat → ClassId} {dI : Nat → Nat → Nat} {cs : Nat → ClassId} {ad : Nat → Nat} {A : Nat → Prop} {D0 : Nat → Nat} {cells slots b L i : Nat} {xs : Nat → Int32}
set_option maxRecDepth 100000 in
set_option maxHeartbeats 4000000 in
theorem lc_40 (F : Fx p s m args meth c cL_law 4 RL rt dC dI cs A) (hX : va_X b L xs s s.heap) (hbl : b < s.heap.size) (hbA : ¬ A b) (hR1 : 8 ≤ R.frames) (hR2 : 340 ≤ R.locals) {S S1 S2 : SS} (hcs : cells + 0 ≤ R.cells ∧ slots + 0 ≤ R.slots) {r1 r2 : Int32} (hi : i + 6 ≤ L) (hL : L ≤ 3072) (w : Wo dC dI cs ad A s.heap D0 S H locs) (hl : lv_has ls 4 [(0, .ref b), (1, .ref (ad 61)), (2, .ref (ad 0)), (3, .int (nI i))]) (h1 : f_Yard_undo  S = some (r1, S1)) (h2 : f_M_undo  S1 = some (r2, S2))
    (kk : ∀ (ad1 : Nat → Nat) (H : Heap) (locs : List Loc), lv_has ls 4 [(0, .ref b), (1, .ref (ad1 61)), (2, .ref (ad1 0)), (3, .int (nI i))] → Wo dC dI cs ad1 A s.heap S1.2 S2 H locs → W p l e R s m args below meth c H locs (cells + 0) (slots + 0) Q (F0 m 1963 ls [])) : W p l e R s m args below meth c H locs cells slots Q (F0 m 1648 ls []) := by
  have hx := F.1.1
  have hb := F.1.2.1
  refine lv_aload_n (pc := 1648) hx hb dL_law_1648 rfl (lv_at hl 1 rfl) ?_
  refine s_cxi (pc := 1649) [] (fun ad => [.ref (ad 61)]) F w (m_Yard_undo  _ _ _ h1) rfl rfl hl.1 ds_61 vc_X11 rfl ok_X11_undo rfl kc_X11_undo kl_L_181 ki_X11_undo kv_X11_undo kn_X11 ⟨Nat.le_trans (by decide) hR1, Nat.le_trans (by decide) hR2⟩ hcs (Nat.le_of_ble_eq_true rfl) dL_law_1649 (fun ad1 H locs hA w => ?_)
  rw [← hA 61 rfl, ← hA 0 rfl] at hl
  refine lv_pop (pc := 1652) hx hb dL_law_1652 rfl ?_
  refine lv_aload_n (pc := 1653) hx hb dL_law_1653 rfl (lv_at hl 2 rfl) ?_
  refine s_cvi (pc := 1654) [] (fun ad => [.ref (ad 0)]) F w (m_M_undo  _ _ _ h2) rfl rfl hl.1 ds_0 vc_X12 rfl ok_X12_undo rfl kc_X12_undo kl_L_184 ki_X12_undo kv_X12_undo kn_X12 ⟨Nat.le_trans (by decide) hR1, Nat.le_trans (by decide) hR2⟩ hcs (Nat.le_of_ble_eq_true rfl) dL_law_1654 (fun H locs w => ?_)
  refine lv_pop (pc := 1657) hx hb dL_law_1657 rfl ?_
  refine lv_goto (pc := 1658) (tgt := 1963) hx hb dL_law_1658 (by decide) ?_
  exact kk ad1 H locs hl w
set_option maxRecDepth 100000 in
set_option maxHeartbeats 4000000 in
theorem lc_41 (F : Fx p s m args meth c cL_law 4 RL rt dC dI cs A) (hX : va_X b L xs s s.heap) (hbl : b < s.heap.size) (hbA : ¬ A b) (hR1 : 8 ≤ R.frames) (hR2 : 340 ≤ R.locals) {S S1 S2 : SS} (hcs : cells + 0 ≤ R.cells ∧ slots + 0 ≤ R.slots) {r1 r2 : Int32} (hi : i + 6 ≤ L) (hL : L ≤ 3072) (w : Wo dC dI cs ad A s.heap D0 S H locs) (hl : lv_has ls 4 [(0, .ref b), (1, .ref (ad 61)), (2, .ref (ad 0)), (3, .int (nI i))]) (h1 : f_Yard_back  S = some (r1, S1)) (h2 : f_M_back  S1 = some (r2, S2))
    (kk : ∀ (ad1 : Nat → Nat) (H : Heap) (locs : List Loc), lv_has ls 4 [(0, .ref b), (1, .ref (ad1 61)), (2, .ref (ad1 0)), (3, .int (nI i))] → Wo dC dI cs ad1 A s.heap S1.2 S2 H locs → W p l e R s m args below meth c H locs (cells + 0) (slots + 0) Q (F0 m 1963 ls [])) : W p l e R s m args below meth c H locs cells slots Q (F0 m 1661 ls []) := by
  have hx := F.1.1
  have hb := F.1.2.1
  refine lv_aload_n (pc := 1661) hx hb dL_law_1661 rfl (lv_at hl 1 rfl) ?_
  refine s_cxi (pc := 1662) [] (fun ad => [.ref (ad 61)]) F w (m_Yard_back  _ _ _ h1) rfl rfl hl.1 ds_61 vc_X11 rfl ok_X11_back rfl kc_X11_back kl_L_185 ki_X11_back kv_X11_back kn_X11 ⟨Nat.le_trans (by decide) hR1, Nat.le_trans (by decide) hR2⟩ hcs (Nat.le_of_ble_eq_true rfl) dL_law_1662 (fun ad1 H locs hA w => ?_)
  rw [← hA 61 rfl, ← hA 0 rfl] at hl
  refine lv_pop (pc := 1665) hx hb dL_law_1665 rfl ?_
  refine lv_aload_n (pc := 1666) hx hb dL_law_1666 rfl (lv_at hl 2 rfl) ?_
  refine s_cvi (pc := 1667) [] (fun ad => [.ref (ad 0)]) F w (m_M_back  _ _ _ h2) rfl rfl hl.1 ds_0 vc_X12 rfl ok_X12_back rfl kc_X12_back kl_L_188 ki_X12_back kv_X12_back kn_X12 ⟨Nat.le_trans (by decide) hR1, Nat.le_trans (by decide) hR2⟩ hcs (Nat.le_of_ble_eq_true rfl) dL_law_1667 (fun H locs w => ?_)
  refine lv_pop (pc := 1670) hx hb dL_law_1670 rfl ?_
  refine lv_goto (pc := 1671) (tgt := 1963) hx hb dL_law_1671 (by decide) ?_
  exact kk ad1 H locs hl w
set_option maxRecDepth 100000 in
set_option maxHeartbeats 4000000 in
theorem lc_42 (F : Fx p s m args meth c cL_law 4 RL rt dC dI cs A) (hX : va_X b L xs s s.heap) (hbl : b < s.heap.size) (hbA : ¬ A b) (hR1 : 8 ≤ R.frames) (hR2 : 340 ≤ R.locals) {S S1 S2 : SS} (hcs : cells ≤ R.cells ∧ slots ≤ R.slots) {r1 r2 : Int64} (hi : i + 6 ≤ L) (hL : L ≤ 3072) (w : Wo dC dI cs ad A s.heap D0 S H locs) (hl : lv_has ls 4 [(0, .ref b), (1, .ref (ad 61)), (2, .ref (ad 0)), (3, .int (nI i))]) (h1 : f_Yard_digest  S = some (r1, S1)) (h2 : f_M_digest  S1 = some (r2, S2))
    (kk : ∀ (H : Heap) (locs : List Loc), Wo dC dI cs ad A s.heap D0 S2 H locs → W p l e R s m args below meth c H locs cells slots Q (F0 m 1963 ls [])) : W p l e R s m args below meth c H locs cells slots Q (F0 m 1674 ls []) := by
  have hx := F.1.1
  have hb := F.1.2.1
  refine lv_aload_n (pc := 1674) hx hb dL_law_1674 rfl (lv_at hl 1 rfl) ?_
  refine s_cvl (pc := 1675) [] (fun ad => [.ref (ad 61)]) F w (m_Yard_digest  _ _ _ h1) rfl rfl hl.1 ds_61 vc_X11 rfl ok_X11_digest rfl kc_X11_digest kl_L_189 ki_X11_digest kv_X11_digest kn_X11 ⟨Nat.le_trans (by decide) hR1, Nat.le_trans (by decide) hR2⟩ hcs (Nat.le_of_ble_eq_true rfl) dL_law_1675 (fun H locs w => ?_)
  refine lv_pop2_2 (pc := 1678) hx hb dL_law_1678 rfl ?_
  refine lv_aload_n (pc := 1679) hx hb dL_law_1679 rfl (lv_at hl 2 rfl) ?_
  refine s_cvl (pc := 1680) [] (fun ad => [.ref (ad 0)]) F w (m_M_digest  _ _ _ h2) rfl rfl hl.1 ds_0 vc_X12 rfl ok_X12_digest rfl kc_X12_digest kl_L_193 ki_X12_digest kv_X12_digest kn_X12 ⟨Nat.le_trans (by decide) hR1, Nat.le_trans (by decide) hR2⟩ hcs (Nat.le_of_ble_eq_true rfl) dL_law_1680 (fun H locs w => ?_)
  refine lv_pop2_2 (pc := 1683) hx hb dL_law_1683 rfl ?_
  refine lv_goto (pc := 1684) (tgt := 1963) hx hb dL_law_1684 (by decide) ?_
  exact kk H locs w
set_option maxRecDepth 100000 in
set_option maxHeartbeats 4000000 in
theorem lc_47 (F : Fx p s m args meth c cL_law 4 RL rt dC dI cs A) (hX : va_X b L xs s s.heap) (hbl : b < s.heap.size) (hbA : ¬ A b) (hR1 : 8 ≤ R.frames) (hR2 : 340 ≤ R.locals) {S S1 S2 : SS} (hcs : cells + (8 * S.2 200) ≤ R.cells ∧ slots + (18641 * S.2 200) ≤ R.slots) {r1 r2 : Int32} (hi : i + 6 ≤ L) (hL : L ≤ 3072) (w : Wo dC dI cs ad A s.heap D0 S H locs) (hl : lv_has ls 4 [(0, .ref b), (1, .ref (ad 61)), (2, .ref (ad 0)), (3, .int (nI i))]) (h1 : f_Yard_plan (xs (i + 1)) S = some (r1, S1)) (h2 : f_M_plan (xs (i + 1)) S1 = some (r2, S2))
    (kk : ∀ (ad1 : Nat → Nat) (H : Heap) (locs : List Loc), lv_has ls 4 [(0, .ref b), (1, .ref (ad1 61)), (2, .ref (ad1 0)), (3, .int (nI i))] → Wo dC dI cs ad1 A s.heap S1.2 S2 H locs → W p l e R s m args below meth c H locs (cells + (8 * S.2 200)) (slots + (18641 * S.2 200)) Q (F0 m 1963 ls [])) : W p l e R s m args below meth c H locs cells slots Q (F0 m 1825 ls []) := by
  have hx := F.1.1
  have hb := F.1.2.1
  refine lv_aload_n (pc := 1825) hx hb dL_law_1825 rfl (lv_at hl 1 rfl) ?_
  refine lv_aload_n (pc := 1826) hx hb dL_law_1826 rfl (lv_at hl 0 rfl) ?_
  refine lv_iload_n (pc := 1827) hx hb dL_law_1827 rfl (lv_at hl 3 rfl) ?_
  refine lv_iconst (pc := 1828) (v := 1) hx hb dL_law_1828 (by decide) ?_
  refine lv_iadd (pc := 1829) hx hb dL_law_1829 ?_
  rw [show nI i + (1 : Int32) = nI (i + 1) from nI_add i 1]
  refine va_sld (pc := 1830) hx hb hX hbl hbA w.2.2.1 (vp_in_nI (show i + 1 < L by omega) (by omega)) dL_law_1830 ?_
  rw [nI_clamp (show i + 1 < 2 ^ 31 by omega)]
  refine s_cxi (pc := 1831) [.int (xs (i + 1))] (fun ad => [.ref (ad 61), .int (xs (i + 1))]) F w (m_Yard_plan _ _ _ _ h1) rfl rfl hl.1 ds_61 vc_X11 rfl ok_X11_plan rfl kc_X11_plan kl_L_211 ki_X11_plan kv_X11_plan kn_X11 ⟨Nat.le_trans (by decide) hR1, Nat.le_trans (by decide) hR2⟩ hcs (Nat.le_of_ble_eq_true rfl) dL_law_1831 (fun ad1 H locs hA w => ?_)
  rw [← hA 61 rfl, ← hA 0 rfl] at hl
  refine lv_pop (pc := 1834) hx hb dL_law_1834 rfl ?_
  refine lv_aload_n (pc := 1835) hx hb dL_law_1835 rfl (lv_at hl 2 rfl) ?_
  refine lv_aload_n (pc := 1836) hx hb dL_law_1836 rfl (lv_at hl 0 rfl) ?_
  refine lv_iload_n (pc := 1837) hx hb dL_law_1837 rfl (lv_at hl 3 rfl) ?_
  refine lv_iconst (pc := 1838) (v := 1) hx hb dL_law_1838 (by decide) ?_
  refine lv_iadd (pc := 1839) hx hb dL_law_1839 ?_
  rw [show nI i + (1 : Int32) = nI (i + 1) from nI_add i 1]
  refine va_sld (pc := 1840) hx hb hX hbl hbA w.2.2.1 (vp_in_nI (show i + 1 < L by omega) (by omega)) dL_law_1840 ?_
  rw [nI_clamp (show i + 1 < 2 ^ 31 by omega)]
  refine s_cvi (pc := 1841) [.int (xs (i + 1))] (fun ad => [.ref (ad 0), .int (xs (i + 1))]) F w (m_M_plan _ _ _ _ h2) rfl rfl hl.1 ds_0 vc_X12 rfl ok_X12_plan rfl kc_X12_plan kl_L_214 ki_X12_plan kv_X12_plan kn_X12 ⟨Nat.le_trans (by decide) hR1, Nat.le_trans (by decide) hR2⟩ hcs (Nat.le_of_ble_eq_true rfl) dL_law_1841 (fun H locs w => ?_)
  refine lv_pop (pc := 1844) hx hb dL_law_1844 rfl ?_
  refine lv_goto (pc := 1845) (tgt := 1963) hx hb dL_law_1845 (by decide) ?_
  exact kk ad1 H locs hl w
end LWC
end
section
/-! ===== the law: its loop ===== -/
/-- the ghost place 200 of the lengths: may this call make rows anew? -/
def gh (S : SS) (d : Nat) : SS := (S.1, fun a => if a = 200 then d else S.2 a)
/-- what a case of the law asks: both calls come to an end on these ints, and the answers that the law compares are equal -/
def cOk : Nat → (Nat → Int32) → SS → SS → Prop
  | 0, x, S, S2 => ∃ (r r' : Int32) (S1 : SS), f_Yard_track (x (1)) S = some (r, S1) ∧ f_M_track (x (1)) S1 = some (r', S2)
  | 1, x, S, S2 => ∃ (r r' : Int32) (S1 : SS), f_Yard_point (x (1)) (x (2)) S = some (r, S1) ∧ f_M_point (x (1)) (x (2)) S1 = some (r', S2)
  | 2, x, S, S2 => ∃ (r r' : Int32) (S1 : SS), f_Yard_link (x (1)) (x (2)) (x (3)) (x (4)) S = some (r, S1) ∧ f_M_link (x (1)) (x (2)) (x (3)) (x (4)) S1 = some (r', S2)
  | 3, x, S, S2 => ∃ (r r' : Int32) (S1 : SS), f_Yard_exit (x (1)) (x (2)) ((if x (3) = 0 then (0 : Int32) else 1)) S = some (r, S1) ∧ f_M_exit (x (1)) (x (2)) ((if x (3) = 0 then (0 : Int32) else 1)) S1 = some (r', S2)
  | 4, x, S, S2 => ∃ (r r' : Int32) (S1 : SS), f_Yard_wagon (x (1)) (x (2)) (x (3)) (x (4)) (x (5)) S = some (r, S1) ∧ f_M_wagon (x (1)) (x (2)) (x (3)) (x (4)) (x (5)) S1 = some (r', S2)
  | 5, x, S, S2 => ∃ (r r' : Int32) (S1 : SS), f_Yard_engine ((if x (1) = 0 then (0 : Int32) else 1)) (x (2)) (x (3)) (x (4)) S = some (r, S1) ∧ f_M_engine ((if x (1) = 0 then (0 : Int32) else 1)) (x (2)) (x (3)) (x (4)) S1 = some (r', S2)
  | 6, x, S, S2 => ∃ (r r' : Int32) (S1 : SS), f_Yard_bar (x (1)) (x (2)) ((if x (3) = 0 then (0 : Int32) else 1)) S = some (r, S1) ∧ f_M_bar (x (1)) (x (2)) ((if x (3) = 0 then (0 : Int32) else 1)) S1 = some (r', S2)
  | 7, x, S, S2 => ∃ (r r' : Int32) (S1 : SS), f_Yard_table (x (1)) (x (2)) S = some (r, S1) ∧ f_M_table (x (1)) (x (2)) S1 = some (r', S2)
  | 8, x, S, S2 => ∃ (r r' : Int32) (S1 : SS), f_Yard_route  S = some (r, S1) ∧ f_M_route  S1 = some (r', S2)
  | 9, x, S, S2 => ∃ (r r' : Int32) (S1 : SS), f_Yard_via (x (1)) (x (2)) (x (3)) (x (4)) S = some (r, S1) ∧ f_M_via (x (1)) (x (2)) (x (3)) (x (4)) S1 = some (r', S2)
  | 10, x, S, S2 => ∃ (r r' : Int32) (S1 : SS), f_Yard_load (x (1)) (x (2)) (x (3)) S = some (r, S1) ∧ f_M_load (x (1)) (x (2)) (x (3)) S1 = some (r', S2)
  | 11, x, S, S2 => ∃ (r r' : Int32) (S1 : SS), f_Yard_piece (x (1)) (x (2)) (x (3)) (x (4)) S = some (r, S1) ∧ f_M_piece (x (1)) (x (2)) (x (3)) (x (4)) S1 = some (r', S2)
  | 12, x, S, S2 => ∃ (r r' : Int32) (S1 : SS), f_Yard_danger (x (1)) (x (2)) S = some (r, S1) ∧ f_M_danger (x (1)) (x (2)) S1 = some (r', S2)
  | 13, x, S, S2 => ∃ (r r' : Int32) (S1 : SS), f_Yard_hold (x (1)) (x (2)) S = some (r, S1) ∧ f_M_hold (x (1)) (x (2)) S1 = some (r', S2)
  | 14, x, S, S2 => ∃ (r r' : Int32) (S1 : SS), f_Yard_jam (x (1)) (x (2)) S = some (r, S1) ∧ f_M_jam (x (1)) (x (2)) S1 = some (r', S2)
  | 15, x, S, S2 => ∃ (r r' : Int32) (S1 : SS), f_Yard_raise (x (1)) S = some (r, S1) ∧ f_M_raise (x (1)) S1 = some (r', S2)
  | 16, x, S, S2 => ∃ (r r' : Int32) (S1 : SS), f_Yard_turn (x (1)) (x (2)) S = some (r, S1) ∧ f_M_turn (x (1)) (x (2)) S1 = some (r', S2)
  | 17, x, S, S2 => ∃ (r r' : Int32) (S1 : SS), f_Yard_lock (x (1)) S = some (r, S1) ∧ f_M_lock (x (1)) S1 = some (r', S2)
  | 18, x, S, S2 => ∃ (r r' : Int32) (S1 : SS), f_Yard_free (x (1)) S = some (r, S1) ∧ f_M_free (x (1)) S1 = some (r', S2)
  | 19, x, S, S2 => ∃ (r r' : Int32) (S1 : SS), f_Yard_couple (x (1)) (x (2)) S = some (r, S1) ∧ f_M_couple (x (1)) (x (2)) S1 = some (r', S2)
  | 20, x, S, S2 => ∃ (r r' : Int32) (S1 : SS), f_Yard_part (x (1)) (x (2)) S = some (r, S1) ∧ f_M_part (x (1)) (x (2)) S1 = some (r', S2)
  | 21, x, S, S2 => ∃ (r r' : Int32) (S1 : SS), f_Yard_pull (x (1)) (x (2)) (x (3)) S = some (r, S1) ∧ f_M_pull (x (1)) (x (2)) (x (3)) S1 = some (r', S2)
  | 22, x, S, S2 => ∃ (r r' : Int32) (S1 : SS), f_Yard_kick (x (1)) (x (2)) S = some (r, S1) ∧ f_M_kick (x (1)) (x (2)) S1 = some (r', S2)
  | 23, x, S, S2 => ∃ (r r' : Int32) (S1 : SS), f_Yard_step (x (1)) S = some (r, S1) ∧ f_M_step (x (1)) S1 = some (r', S2)
  | 24, x, S, S2 => ∃ (r r' : Int32) (S1 : SS), f_Yard_test (x (1)) S = some (r, S1) ∧ f_M_test (x (1)) S1 = some (r', S2)
  | 25, x, S, S2 => ∃ (r r' : Int32) (S1 : SS), f_Yard_leave (x (1)) S = some (r, S1) ∧ f_M_leave (x (1)) S1 = some (r', S2)
  | 26, x, S, S2 => ∃ (r r' : Int32) (S1 : SS), f_Yard_roll (x (1)) (x (2)) (x (3)) S = some (r, S1) ∧ f_M_roll (x (1)) (x (2)) (x (3)) S1 = some (r', S2)
  | 27, x, S, S2 => ∃ (r r' : Int32) (S1 : SS), f_Yard_store (x (1)) (x (2)) S = some (r, S1) ∧ f_M_store (x (1)) (x (2)) S1 = some (r', S2)
  | 28, x, S, S2 => ∃ (r r' : Int32) (S1 : SS), f_Yard_rolled (x (1)) S = some (r, S1) ∧ f_M_rolled (x (1)) S1 = some (r', S2)
  | 29, x, S, S2 => ∃ (r r' : Int32) (S1 : SS), f_Yard_at (x (1)) (x (2)) S = some (r, S1) ∧ f_M_at (x (1)) (x (2)) S1 = some (r', S2)
  | 30, x, S, S2 => ∃ (r r' : Int32) (S1 : SS), f_Yard_thing (x (1)) (x (2)) S = some (r, S1) ∧ f_M_thing (x (1)) (x (2)) S1 = some (r', S2)
  | 31, x, S, S2 => ∃ (r r' : Int32) (S1 : SS), f_Yard_pointed (x (1)) (x (2)) S = some (r, S1) ∧ f_M_pointed (x (1)) (x (2)) S1 = some (r', S2)
  | 32, x, S, S2 => ∃ (r r' : Int32) (S1 : SS), f_Yard_ask (x (1)) (x (2)) S = some (r, S1) ∧ f_M_ask (x (1)) (x (2)) S1 = some (r', S2)
  | 33, x, S, S2 => ∃ (r r' : Int32) (S1 : SS), f_Yard_meet (x (1)) (x (2)) (x (3)) S = some (r, S1) ∧ f_M_meet (x (1)) (x (2)) (x (3)) S1 = some (r', S2)
  | 34, x, S, S2 => ∃ (r r' : Int32) (S1 : SS), f_Yard_weigh (x (1)) S = some (r, S1) ∧ f_M_weigh (x (1)) S1 = some (r', S2)
  | 35, x, S, S2 => ∃ (r r' : Int32) (S1 : SS), f_Yard_share (x (1)) S = some (r, S1) ∧ f_M_share (x (1)) S1 = some (r', S2)
  | 36, x, S, S2 => ∃ (r : Int32) (S1 : SS), f_Yard_consist (x (1)) (x (2)) S = some (r, S1) ∧ f_M_consist (x (1)) (x (2)) S1 = some (r, S2)
  | 37, x, S, S2 => ∃ (r r' : Int32) (S1 : SS), f_Yard_finding (x (1)) S = some (r, S1) ∧ f_M_finding (x (1)) S1 = some (r', S2)
  | 38, x, S, S2 => ∃ (r r' : Int32) (S1 : SS), f_Yard_count (x (1)) S = some (r, S1) ∧ f_M_count (x (1)) S1 = some (r', S2)
  | 39, x, S, S2 => ∃ (r r' : Int32) (S1 : SS), f_Yard_trace (x (1)) S = some (r, S1) ∧ f_M_trace (x (1)) S1 = some (r', S2)
  | 40, x, S, S2 => ∃ (r r' : Int32) (S1 : SS), f_Yard_undo  S = some (r, S1) ∧ f_M_undo  S1 = some (r', S2)
  | 41, x, S, S2 => ∃ (r r' : Int32) (S1 : SS), f_Yard_back  S = some (r, S1) ∧ f_M_back  S1 = some (r', S2)
  | 42, x, S, S2 => ∃ (r r' : Int64) (S1 : SS), f_Yard_digest  S = some (r, S1) ∧ f_M_digest  S1 = some (r', S2)
  | 43, x, S, S2 => ∃ (r r' : Int32) (S1 : SS), f_Yard_log (x (1)) (x (2)) S = some (r, S1) ∧ f_M_log (x (1)) (x (2)) S1 = some (r', S2)
  | 44, x, S, S2 => ∃ (r r' : Int32) (S1 : SS), f_Yard_room (x (1)) (x (2)) S = some (r, S1) ∧ f_M_room (x (1)) (x (2)) S1 = some (r', S2)
  | 45, x, S, S2 => ∃ (r r' : Int32) (S1 : SS), f_Yard_lay ((if x (1) = 0 then (0 : Int32) else 1)) (x (2)) (x (3)) S = some (r, S1) ∧ f_M_lay ((if x (1) = 0 then (0 : Int32) else 1)) (x (2)) (x (3)) S1 = some (r', S2)
  | 46, x, S, S2 => ∃ (r r' : Int32) (S1 : SS), f_Yard_wipe  S = some (r, S1) ∧ f_M_wipe  S1 = some (r', S2)
  | 47, x, S, S2 => ∃ (r r' : Int32) (S1 : SS), f_Yard_plan (x (1)) S = some (r, S1) ∧ f_M_plan (x (1)) S1 = some (r', S2)
  | 48, x, S, S2 => ∃ (r r' : Int32) (S1 : SS), f_Yard_move (x (1)) (x (2)) S = some (r, S1) ∧ f_M_move (x (1)) (x (2)) S1 = some (r', S2)
  | 49, x, S, S2 => ∃ (r r' : Int32) (S1 : SS), f_Yard_bound  S = some (r, S1) ∧ f_M_bound  S1 = some (r', S2)
  | 50, x, S, S2 => ∃ (r r' : Int32) (S1 : SS), f_Yard_proof (x (1)) S = some (r, S1) ∧ f_M_proof (x (1)) S1 = some (r', S2)
  | 51, x, S, S2 => ∃ (r r' : Int32) (S1 : SS), f_Yard_spoil (x (1)) (x (2)) S = some (r, S1) ∧ f_M_spoil (x (1)) (x (2)) S1 = some (r', S2)
  | 52, x, S, S2 => ∃ (r r' : Int32) (S1 : SS), f_Yard_check  S = some (r, S1) ∧ f_M_check  S1 = some (r', S2)
  | _, _, S, S2 => S2 = S
theorem ceOf_cg {cs : Nat → ClassId} {ad : Nat → Nat} {S S' : SS} {k : Nat} {d : dsc} (h1 : S'.1 k = S.1 k) (h2 : S'.2 k = S.2 k) : ceOf cs ad S' k d = ceOf cs ad S k d := by
  rcases d with ⟨ci, fs⟩ | ⟨t, n⟩
  · simp only [ceOf, h1]
  · rcases t with _ | _ | t <;> simp only [ceOf, h1, h2]
theorem dsT_len : dsT.length = 128 := by decide +kernel
theorem gh_ws (cs : Nat → ClassId) (ad : Nat → Nat) (S : SS) (d : Nat) : wsOf cs ad (gh S d) = wsOf cs ad S := by
  apply List.ext_getElem?
  intro i
  rw [wsF_get, wsF_get, Nat.zero_add]
  cases h : dsT[i]? with
  | none => rfl
  | some d' =>
    have hi : i < dsT.length := (List.getElem?_eq_some_iff.mp h).1
    rw [dsT_len] at hi
    simp only [Option.map_some]
    rw [ceOf_cg (S' := gh S d) (S := S) rfl (by show (if i = 200 then d else S.2 i) = S.2 i; rw [if_neg (by omega)])]
theorem gh_wo {dC : Nat → ClassId} {dI : Nat → Nat → Nat} {cs : Nat → ClassId} {ad : Nat → Nat} {A : Nat → Prop} {H0 : Heap} {D0 : Nat → Nat} {S : SS} {H : Heap} {locs : List Loc} (d : Nat) (w : Wo dC dI cs ad A H0 D0 S H locs) : Wo dC dI cs ad A H0 (gh S d).2 (gh S d) H locs := by
  obtain ⟨hP, hD, hS, -⟩ := w
  exact ⟨by rw [gh_ws]; exact hP, by rw [gh_ws]; exact hD, hS, rfl⟩
theorem li6 {L i : Nat} (hL : L ≤ 3072) (hi : i ≤ 4000) : (Int32.ofNat L - 6 < nI i) ↔ L < i + 6 := by
  have e1 : (nI i).toInt = (i : Int) := nI_toInt (by omega)
  have e2 : (Int32.ofNat L - 6).toInt = (L : Int) - 6 := by
    rw [Int32.toInt_sub, Int32.toInt_ofNat_of_lt (by omega), show (6 : Int32).toInt = 6 by decide]
    simp only [Int.bmod_def]
    omega
  rw [Int32.lt_iff_toInt_lt, e1, e2]
  omega
theorem dL_law_18 : decode cL_law 18 = .ok (.iload_n 3, 1) := dc_29 (lw_0 (j := 18) rfl (by decide +kernel))
theorem dL_law_19 : decode cL_law 19 = .ok (.aload_n 0, 1) := dc_42 (lw_0 (j := 19) rfl (by decide +kernel))
theorem dL_law_20 : decode cL_law 20 = .ok (.arraylength, 1) := dc_190 (lw_0 (j := 20) rfl (by decide +kernel))
theorem dL_law_21 : decode cL_law 21 = .ok (.bipush 6, 2) := dc_16 (a := 6) (lw_0 (j := 21) rfl (by decide +kernel)) (by decide)
theorem dL_law_23 : decode cL_law 23 = .ok (.isub, 1) := dc_100 (lw_0 (j := 23) rfl (by decide +kernel))
theorem dL_law_24 : decode cL_law 24 = .ok (.if_icmp .gt 1945, 3) := dc_163 (a := 7) (b := 153) (lw_0 (j := 24) rfl (by decide +kernel)) (by decide)
theorem dL_law_27 : decode cL_law 27 = .ok (.aload_n 0, 1) := dc_42 (lw_0 (j := 27) rfl (by decide +kernel))
theorem dL_law_28 : decode cL_law 28 = .ok (.iload_n 3, 1) := dc_29 (lw_0 (j := 28) rfl (by decide +kernel))
theorem dL_law_29 : decode cL_law 29 = .ok (.iaload, 1) := dc_46 (lw_0 (j := 29) rfl (by decide +kernel))
theorem dL_law_30 : decode cL_law 30 = .ok (.bipush 63, 2) := dc_16 (a := 63) (lw_0 (j := 30) rfl (by decide +kernel)) (by decide)
theorem dL_law_32 : decode cL_law 32 = .ok (.iand, 1) := dc_126 (lw_0 (j := 32) rfl (by decide +kernel))
theorem dL_law_33 : decode cL_law 33 = .ok (.tableswitch 1930 0 52 #[227, 250, 283, 336, 395, 458, 527, 586, 619, 632, 685, 728, 781, 814, 847, 880, 903, 936, 959, 982, 1015, 1048, 1091, 1124, 1147, 1170, 1193, 1236, 1269, 1292, 1325, 1358, 1391, 1424, 1467, 1490, 1513, 1546, 1569, 1592, 1615, 1628, 1641, 1654, 1687, 1720, 1779, 1792, 1815, 1848, 1861, 1884, 1917], 227) := by decide +kernel
theorem dL_law_1963 : decode cL_law 1963 = .ok (.iinc 3 6, 3) := dc_132 (a := 3) (b := 6) (lw_30 (j := 43) rfl (by decide +kernel)) (by decide)
theorem dL_law_1966 : decode cL_law 1966 = .ok (.goto (-1948), 3) := dc_167 (a := 248) (b := 100) (lw_30 (j := 46) rfl (by decide +kernel)) (by decide)
theorem dL_law_1969 : decode cL_law 1969 = .ok (.iconst 1, 1) := dc_4 (lw_30 (j := 49) rfl (by decide +kernel))
theorem dL_law_1970 : decode cL_law 1970 = .ok (.ireturn, 1) := dc_172 (lw_30 (j := 50) rfl (by decide +kernel))
section LWC
variable {p : Program} {l : Launch} {e : Env} {R : Room} {s : State} {m : MethodId} {args : Array Value} {below : List Frame} {meth : Method} {c : Code} {H : Heap} {locs : List Loc} {Q : State → Prop} {rt : Option FieldType} {ls : Array Slot} {dC : Nat → ClassId} {dI : Nat → Nat → Nat} {cs : Nat → ClassId} {ad : Nat → Nat} {A : Nat → Prop} {D0 : Nat → Nat} {cells slots b L i : Nat} {xs : Nat → Int32}
set_option maxRecDepth 100000 in
set_option maxHeartbeats 8000000 in
/-- one turn, from the switch to the loop's iinc -/
theorem law_sw (F : Fx p s m args meth c cL_law 4 RL rt dC dI cs A) (hX : va_X b L xs s s.heap) (hbl : b < s.heap.size) (hbA : ¬ A b) (hR1 : 8 ≤ R.frames) (hR2 : 340 ≤ R.locals) {S S2 : SS} {d : Nat} (hcs : cells + 8 * d ≤ R.cells ∧ slots + 18641 * d ≤ R.slots) (hi : i + 6 ≤ L) (hL : L ≤ 3072) (w : Wo dC dI cs ad A s.heap D0 S H locs) (hl : lv_has ls 4 [(0, .ref b), (1, .ref (ad 61)), (2, .ref (ad 0)), (3, .int (nI i))]) {n : Nat} (hn : n < 64) (hk : cOk n (fun k => xs (i + k)) (gh S d) S2)
    (kk : ∀ (ad : Nat → Nat) (D0 : Nat → Nat) (H : Heap) (locs : List Loc), lv_has ls 4 [(0, .ref b), (1, .ref (ad 61)), (2, .ref (ad 0)), (3, .int (nI i))] → Wo dC dI cs ad A s.heap D0 S2 H locs → W p l e R s m args below meth c H locs (cells + 8 * d) (slots + 18641 * d) Q (F0 m 1963 ls [])) : W p l e R s m args below meth c H locs cells slots Q (F0 m 33 ls [.int (nI n)]) := by
  have hx := F.1.1
  have hb := F.1.2.1
  have w := gh_wo d w
  have hc0 : cells ≤ R.cells ∧ slots ≤ R.slots := ⟨by omega, by omega⟩
  match n, hn, hk with
  | 0, _, hk =>
    refine lv_tableIn (pc := 33) (off := 227) (tgt := 260) hx hb dL_law_33 (by decide) (by decide) (by decide) (by decide) ?_
    obtain ⟨r, r', S1, h1, h2⟩ := hk
    exact lc_0 F hX hbl hbA hR1 hR2 hc0 hi hL w hl h1 h2 (fun H locs w => W.widen (by omega) (by omega) (kk ad _ H locs hl w))
  | 1, _, hk =>
    refine lv_tableIn (pc := 33) (off := 250) (tgt := 283) hx hb dL_law_33 (by decide) (by decide) (by decide) (by decide) ?_
    obtain ⟨r, r', S1, h1, h2⟩ := hk
    exact lc_1 F hX hbl hbA hR1 hR2 hc0 hi hL w hl h1 h2 (fun H locs w => W.widen (by omega) (by omega) (kk ad _ H locs hl w))
  | 2, _, hk =>
    refine lv_tableIn (pc := 33) (off := 283) (tgt := 316) hx hb dL_law_33 (by decide) (by decide) (by decide) (by decide) ?_
    obtain ⟨r, r', S1, h1, h2⟩ := hk
    exact lc_2 F hX hbl hbA hR1 hR2 hc0 hi hL w hl h1 h2 (fun H locs w => W.widen (by omega) (by omega) (kk ad _ H locs hl w))
  | 3, _, hk =>
    refine lv_tableIn (pc := 33) (off := 336) (tgt := 369) hx hb dL_law_33 (by decide) (by decide) (by decide) (by decide) ?_
    obtain ⟨r, r', S1, h1, h2⟩ := hk
    exact lc_3 F hX hbl hbA hR1 hR2 hc0 hi hL w hl h1 h2 (fun H locs w => W.widen (by omega) (by omega) (kk ad _ H locs hl w))
  | 4, _, hk =>
    refine lv_tableIn (pc := 33) (off := 395) (tgt := 428) hx hb dL_law_33 (by decide) (by decide) (by decide) (by decide) ?_
    obtain ⟨r, r', S1, h1, h2⟩ := hk
    exact lc_4 F hX hbl hbA hR1 hR2 hc0 hi hL w hl h1 h2 (fun H locs w => W.widen (by omega) (by omega) (kk ad _ H locs hl w))
  | 5, _, hk =>
    refine lv_tableIn (pc := 33) (off := 458) (tgt := 491) hx hb dL_law_33 (by decide) (by decide) (by decide) (by decide) ?_
    obtain ⟨r, r', S1, h1, h2⟩ := hk
    exact lc_5 F hX hbl hbA hR1 hR2 hc0 hi hL w hl h1 h2 (fun H locs w => W.widen (by omega) (by omega) (kk ad _ H locs hl w))
  | 6, _, hk =>
    refine lv_tableIn (pc := 33) (off := 527) (tgt := 560) hx hb dL_law_33 (by decide) (by decide) (by decide) (by decide) ?_
    obtain ⟨r, r', S1, h1, h2⟩ := hk
    exact lc_6 F hX hbl hbA hR1 hR2 hc0 hi hL w hl h1 h2 (fun H locs w => W.widen (by omega) (by omega) (kk ad _ H locs hl w))
  | 7, _, hk =>
    refine lv_tableIn (pc := 33) (off := 586) (tgt := 619) hx hb dL_law_33 (by decide) (by decide) (by decide) (by decide) ?_
    obtain ⟨r, r', S1, h1, h2⟩ := hk
    exact lc_7 F hX hbl hbA hR1 hR2 hc0 hi hL w hl h1 h2 (fun H locs w => W.widen (by omega) (by omega) (kk ad _ H locs hl w))
  | 8, _, hk =>
    refine lv_tableIn (pc := 33) (off := 619) (tgt := 652) hx hb dL_law_33 (by decide) (by decide) (by decide) (by decide) ?_
    obtain ⟨r, r', S1, h1, h2⟩ := hk
    exact lc_8 F hX hbl hbA hR1 hR2 hc0 hi hL w hl h1 h2 (fun H locs w => W.widen (by omega) (by omega) (kk ad _ H locs hl w))
  | 9, _, hk =>
    refine lv_tableIn (pc := 33) (off := 632) (tgt := 665) hx hb dL_law_33 (by decide) (by decide) (by decide) (by decide) ?_
    obtain ⟨r, r', S1, h1, h2⟩ := hk
    exact lc_9 F hX hbl hbA hR1 hR2 hc0 hi hL w hl h1 h2 (fun H locs w => W.widen (by omega) (by omega) (kk ad _ H locs hl w))
  | 10, _, hk =>
    refine lv_tableIn (pc := 33) (off := 685) (tgt := 718) hx hb dL_law_33 (by decide) (by decide) (by decide) (by decide) ?_
    obtain ⟨r, r', S1, h1, h2⟩ := hk
    exact lc_10 F hX hbl hbA hR1 hR2 hc0 hi hL w hl h1 h2 (fun H locs w => W.widen (by omega) (by omega) (kk ad _ H locs hl w))
  | 11, _, hk =>
    refine lv_tableIn (pc := 33) (off := 728) (tgt := 761) hx hb dL_law_33 (by decide) (by decide) (by decide) (by decide) ?_
    obtain ⟨r, r', S1, h1, h2⟩ := hk
    exact lc_11 F hX hbl hbA hR1 hR2 hc0 hi hL w hl h1 h2 (fun H locs w => W.widen (by omega) (by omega) (kk ad _ H locs hl w))
  | 12, _, hk =>
    refine lv_tableIn (pc := 33) (off := 781) (tgt := 814) hx hb dL_law_33 (by decide) (by decide) (by decide) (by decide) ?_
    obtain ⟨r, r', S1, h1, h2⟩ := hk
    exact lc_12 F hX hbl hbA hR1 hR2 hc0 hi hL w hl h1 h2 (fun H locs w => W.widen (by omega) (by omega) (kk ad _ H locs hl w))
  | 13, _, hk =>
    refine lv_tableIn (pc := 33) (off := 814) (tgt := 847) hx hb dL_law_33 (by decide) (by decide) (by decide) (by decide) ?_
    obtain ⟨r, r', S1, h1, h2⟩ := hk
    exact lc_13 F hX hbl hbA hR1 hR2 hc0 hi hL w hl h1 h2 (fun H locs w => W.widen (by omega) (by omega) (kk ad _ H locs hl w))
  | 14, _, hk =>
    refine lv_tableIn (pc := 33) (off := 847) (tgt := 880) hx hb dL_law_33 (by decide) (by decide) (by decide) (by decide) ?_
    obtain ⟨r, r', S1, h1, h2⟩ := hk
    exact lc_14 F hX hbl hbA hR1 hR2 hc0 hi hL w hl h1 h2 (fun H locs w => W.widen (by omega) (by omega) (kk ad _ H locs hl w))
  | 15, _, hk =>
    refine lv_tableIn (pc := 33) (off := 880) (tgt := 913) hx hb dL_law_33 (by decide) (by decide) (by decide) (by decide) ?_
    obtain ⟨r, r', S1, h1, h2⟩ := hk
    exact lc_15 F hX hbl hbA hR1 hR2 hc0 hi hL w hl h1 h2 (fun H locs w => W.widen (by omega) (by omega) (kk ad _ H locs hl w))
  | 16, _, hk =>
    refine lv_tableIn (pc := 33) (off := 903) (tgt := 936) hx hb dL_law_33 (by decide) (by decide) (by decide) (by decide) ?_
    obtain ⟨r, r', S1, h1, h2⟩ := hk
    exact lc_16 F hX hbl hbA hR1 hR2 hc0 hi hL w hl h1 h2 (fun H locs w => W.widen (by omega) (by omega) (kk ad _ H locs hl w))
  | 17, _, hk =>
    refine lv_tableIn (pc := 33) (off := 936) (tgt := 969) hx hb dL_law_33 (by decide) (by decide) (by decide) (by decide) ?_
    obtain ⟨r, r', S1, h1, h2⟩ := hk
    exact lc_17 F hX hbl hbA hR1 hR2 hc0 hi hL w hl h1 h2 (fun H locs w => W.widen (by omega) (by omega) (kk ad _ H locs hl w))
  | 18, _, hk =>
    refine lv_tableIn (pc := 33) (off := 959) (tgt := 992) hx hb dL_law_33 (by decide) (by decide) (by decide) (by decide) ?_
    obtain ⟨r, r', S1, h1, h2⟩ := hk
    exact lc_18 F hX hbl hbA hR1 hR2 hc0 hi hL w hl h1 h2 (fun H locs w => W.widen (by omega) (by omega) (kk ad _ H locs hl w))
  | 19, _, hk =>
    refine lv_tableIn (pc := 33) (off := 982) (tgt := 1015) hx hb dL_law_33 (by decide) (by decide) (by decide) (by decide) ?_
    obtain ⟨r, r', S1, h1, h2⟩ := hk
    exact lc_19 F hX hbl hbA hR1 hR2 hc0 hi hL w hl h1 h2 (fun H locs w => W.widen (by omega) (by omega) (kk ad _ H locs hl w))
  | 20, _, hk =>
    refine lv_tableIn (pc := 33) (off := 1015) (tgt := 1048) hx hb dL_law_33 (by decide) (by decide) (by decide) (by decide) ?_
    obtain ⟨r, r', S1, h1, h2⟩ := hk
    exact lc_20 F hX hbl hbA hR1 hR2 hc0 hi hL w hl h1 h2 (fun H locs w => W.widen (by omega) (by omega) (kk ad _ H locs hl w))
  | 21, _, hk =>
    refine lv_tableIn (pc := 33) (off := 1048) (tgt := 1081) hx hb dL_law_33 (by decide) (by decide) (by decide) (by decide) ?_
    obtain ⟨r, r', S1, h1, h2⟩ := hk
    exact lc_21 F hX hbl hbA hR1 hR2 hc0 hi hL w hl h1 h2 (fun H locs w => W.widen (by omega) (by omega) (kk ad _ H locs hl w))
  | 22, _, hk =>
    refine lv_tableIn (pc := 33) (off := 1091) (tgt := 1124) hx hb dL_law_33 (by decide) (by decide) (by decide) (by decide) ?_
    obtain ⟨r, r', S1, h1, h2⟩ := hk
    exact lc_22 F hX hbl hbA hR1 hR2 hc0 hi hL w hl h1 h2 (fun H locs w => W.widen (by omega) (by omega) (kk ad _ H locs hl w))
  | 23, _, hk =>
    refine lv_tableIn (pc := 33) (off := 1124) (tgt := 1157) hx hb dL_law_33 (by decide) (by decide) (by decide) (by decide) ?_
    obtain ⟨r, r', S1, h1, h2⟩ := hk
    exact lc_23 F hX hbl hbA hR1 hR2 hc0 hi hL w hl h1 h2 (fun H locs w => W.widen (by omega) (by omega) (kk ad _ H locs hl w))
  | 24, _, hk =>
    refine lv_tableIn (pc := 33) (off := 1147) (tgt := 1180) hx hb dL_law_33 (by decide) (by decide) (by decide) (by decide) ?_
    obtain ⟨r, r', S1, h1, h2⟩ := hk
    exact lc_24 F hX hbl hbA hR1 hR2 hc0 hi hL w hl h1 h2 (fun H locs w => W.widen (by omega) (by omega) (kk ad _ H locs hl w))
  | 25, _, hk =>
    refine lv_tableIn (pc := 33) (off := 1170) (tgt := 1203) hx hb dL_law_33 (by decide) (by decide) (by decide) (by decide) ?_
    obtain ⟨r, r', S1, h1, h2⟩ := hk
    exact lc_25 F hX hbl hbA hR1 hR2 hc0 hi hL w hl h1 h2 (fun H locs w => W.widen (by omega) (by omega) (kk ad _ H locs hl w))
  | 26, _, hk =>
    refine lv_tableIn (pc := 33) (off := 1193) (tgt := 1226) hx hb dL_law_33 (by decide) (by decide) (by decide) (by decide) ?_
    obtain ⟨r, r', S1, h1, h2⟩ := hk
    exact lc_26 F hX hbl hbA hR1 hR2 hc0 hi hL w hl h1 h2 (fun H locs w => W.widen (by omega) (by omega) (kk ad _ H locs hl w))
  | 27, _, hk =>
    refine lv_tableIn (pc := 33) (off := 1236) (tgt := 1269) hx hb dL_law_33 (by decide) (by decide) (by decide) (by decide) ?_
    obtain ⟨r, r', S1, h1, h2⟩ := hk
    exact lc_27 F hX hbl hbA hR1 hR2 hc0 hi hL w hl h1 h2 (fun H locs w => W.widen (by omega) (by omega) (kk ad _ H locs hl w))
  | 28, _, hk =>
    refine lv_tableIn (pc := 33) (off := 1269) (tgt := 1302) hx hb dL_law_33 (by decide) (by decide) (by decide) (by decide) ?_
    obtain ⟨r, r', S1, h1, h2⟩ := hk
    exact lc_28 F hX hbl hbA hR1 hR2 hc0 hi hL w hl h1 h2 (fun H locs w => W.widen (by omega) (by omega) (kk ad _ H locs hl w))
  | 29, _, hk =>
    refine lv_tableIn (pc := 33) (off := 1292) (tgt := 1325) hx hb dL_law_33 (by decide) (by decide) (by decide) (by decide) ?_
    obtain ⟨r, r', S1, h1, h2⟩ := hk
    exact lc_29 F hX hbl hbA hR1 hR2 hc0 hi hL w hl h1 h2 (fun H locs w => W.widen (by omega) (by omega) (kk ad _ H locs hl w))
  | 30, _, hk =>
    refine lv_tableIn (pc := 33) (off := 1325) (tgt := 1358) hx hb dL_law_33 (by decide) (by decide) (by decide) (by decide) ?_
    obtain ⟨r, r', S1, h1, h2⟩ := hk
    exact lc_30 F hX hbl hbA hR1 hR2 hc0 hi hL w hl h1 h2 (fun H locs w => W.widen (by omega) (by omega) (kk ad _ H locs hl w))
  | 31, _, hk =>
    refine lv_tableIn (pc := 33) (off := 1358) (tgt := 1391) hx hb dL_law_33 (by decide) (by decide) (by decide) (by decide) ?_
    obtain ⟨r, r', S1, h1, h2⟩ := hk
    exact lc_31 F hX hbl hbA hR1 hR2 hc0 hi hL w hl h1 h2 (fun H locs w => W.widen (by omega) (by omega) (kk ad _ H locs hl w))
  | 32, _, hk =>
    refine lv_tableIn (pc := 33) (off := 1391) (tgt := 1424) hx hb dL_law_33 (by decide) (by decide) (by decide) (by decide) ?_
    obtain ⟨r, r', S1, h1, h2⟩ := hk
    exact lc_32 F hX hbl hbA hR1 hR2 hc0 hi hL w hl h1 h2 (fun H locs w => W.widen (by omega) (by omega) (kk ad _ H locs hl w))
  | 33, _, hk =>
    refine lv_tableIn (pc := 33) (off := 1424) (tgt := 1457) hx hb dL_law_33 (by decide) (by decide) (by decide) (by decide) ?_
    obtain ⟨r, r', S1, h1, h2⟩ := hk
    exact lc_33 F hX hbl hbA hR1 hR2 hc0 hi hL w hl h1 h2 (fun H locs w => W.widen (by omega) (by omega) (kk ad _ H locs hl w))
  | 34, _, hk =>
    refine lv_tableIn (pc := 33) (off := 1467) (tgt := 1500) hx hb dL_law_33 (by decide) (by decide) (by decide) (by decide) ?_
    obtain ⟨r, r', S1, h1, h2⟩ := hk
    exact lc_34 F hX hbl hbA hR1 hR2 hc0 hi hL w hl h1 h2 (fun H locs w => W.widen (by omega) (by omega) (kk ad _ H locs hl w))
  | 35, _, hk =>
    refine lv_tableIn (pc := 33) (off := 1490) (tgt := 1523) hx hb dL_law_33 (by decide) (by decide) (by decide) (by decide) ?_
    obtain ⟨r, r', S1, h1, h2⟩ := hk
    exact lc_35 F hX hbl hbA hR1 hR2 hc0 hi hL w hl h1 h2 (fun H locs w => W.widen (by omega) (by omega) (kk ad _ H locs hl w))
  | 36, _, hk =>
    refine lv_tableIn (pc := 33) (off := 1513) (tgt := 1546) hx hb dL_law_33 (by decide) (by decide) (by decide) (by decide) ?_
    obtain ⟨r, S1, h1, h2⟩ := hk
    exact lc_36 F hX hbl hbA hR1 hR2 hc0 hi hL w hl h1 h2 rfl (fun H locs w => W.widen (by omega) (by omega) (kk ad _ H locs hl w))
  | 37, _, hk =>
    refine lv_tableIn (pc := 33) (off := 1546) (tgt := 1579) hx hb dL_law_33 (by decide) (by decide) (by decide) (by decide) ?_
    obtain ⟨r, r', S1, h1, h2⟩ := hk
    exact lc_37 F hX hbl hbA hR1 hR2 hc0 hi hL w hl h1 h2 (fun H locs w => W.widen (by omega) (by omega) (kk ad _ H locs hl w))
  | 38, _, hk =>
    refine lv_tableIn (pc := 33) (off := 1569) (tgt := 1602) hx hb dL_law_33 (by decide) (by decide) (by decide) (by decide) ?_
    obtain ⟨r, r', S1, h1, h2⟩ := hk
    exact lc_38 F hX hbl hbA hR1 hR2 hc0 hi hL w hl h1 h2 (fun H locs w => W.widen (by omega) (by omega) (kk ad _ H locs hl w))
  | 39, _, hk =>
    refine lv_tableIn (pc := 33) (off := 1592) (tgt := 1625) hx hb dL_law_33 (by decide) (by decide) (by decide) (by decide) ?_
    obtain ⟨r, r', S1, h1, h2⟩ := hk
    exact lc_39 F hX hbl hbA hR1 hR2 hc0 hi hL w hl h1 h2 (fun H locs w => W.widen (by omega) (by omega) (kk ad _ H locs hl w))
  | 40, _, hk =>
    refine lv_tableIn (pc := 33) (off := 1615) (tgt := 1648) hx hb dL_law_33 (by decide) (by decide) (by decide) (by decide) ?_
    obtain ⟨r, r', S1, h1, h2⟩ := hk
    exact lc_40 F hX hbl hbA hR1 hR2 hc0 hi hL w hl h1 h2 (fun ad H locs hl w => W.widen (by omega) (by omega) (kk ad _ H locs hl w))
  | 41, _, hk =>
    refine lv_tableIn (pc := 33) (off := 1628) (tgt := 1661) hx hb dL_law_33 (by decide) (by decide) (by decide) (by decide) ?_
    obtain ⟨r, r', S1, h1, h2⟩ := hk
    exact lc_41 F hX hbl hbA hR1 hR2 hc0 hi hL w hl h1 h2 (fun ad H locs hl w => W.widen (by omega) (by omega) (kk ad _ H locs hl w))
  | 42, _, hk =>
    refine lv_tableIn (pc := 33) (off := 1641) (tgt := 1674) hx hb dL_law_33 (by decide) (by decide) (by decide) (by decide) ?_
    obtain ⟨r, r', S1, h1, h2⟩ := hk
    exact lc_42 F hX hbl hbA hR1 hR2 hc0 hi hL w hl h1 h2 (fun H locs w => W.widen (by omega) (by omega) (kk ad _ H locs hl w))
  | 43, _, hk =>
    refine lv_tableIn (pc := 33) (off := 1654) (tgt := 1687) hx hb dL_law_33 (by decide) (by decide) (by decide) (by decide) ?_
    obtain ⟨r, r', S1, h1, h2⟩ := hk
    exact lc_43 F hX hbl hbA hR1 hR2 hc0 hi hL w hl h1 h2 (fun H locs w => W.widen (by omega) (by omega) (kk ad _ H locs hl w))
  | 44, _, hk =>
    refine lv_tableIn (pc := 33) (off := 1687) (tgt := 1720) hx hb dL_law_33 (by decide) (by decide) (by decide) (by decide) ?_
    obtain ⟨r, r', S1, h1, h2⟩ := hk
    exact lc_44 F hX hbl hbA hR1 hR2 hc0 hi hL w hl h1 h2 (fun H locs w => W.widen (by omega) (by omega) (kk ad _ H locs hl w))
  | 45, _, hk =>
    refine lv_tableIn (pc := 33) (off := 1720) (tgt := 1753) hx hb dL_law_33 (by decide) (by decide) (by decide) (by decide) ?_
    obtain ⟨r, r', S1, h1, h2⟩ := hk
    exact lc_45 F hX hbl hbA hR1 hR2 hc0 hi hL w hl h1 h2 (fun H locs w => W.widen (by omega) (by omega) (kk ad _ H locs hl w))
  | 46, _, hk =>
    refine lv_tableIn (pc := 33) (off := 1779) (tgt := 1812) hx hb dL_law_33 (by decide) (by decide) (by decide) (by decide) ?_
    obtain ⟨r, r', S1, h1, h2⟩ := hk
    exact lc_46 F hX hbl hbA hR1 hR2 hc0 hi hL w hl h1 h2 (fun H locs w => W.widen (by omega) (by omega) (kk ad _ H locs hl w))
  | 47, _, hk =>
    refine lv_tableIn (pc := 33) (off := 1792) (tgt := 1825) hx hb dL_law_33 (by decide) (by decide) (by decide) (by decide) ?_
    obtain ⟨r, r', S1, h1, h2⟩ := hk
    exact lc_47 F hX hbl hbA hR1 hR2 hcs hi hL w hl h1 h2 (fun ad H locs hl w => kk ad _ H locs hl w)
  | 48, _, hk =>
    refine lv_tableIn (pc := 33) (off := 1815) (tgt := 1848) hx hb dL_law_33 (by decide) (by decide) (by decide) (by decide) ?_
    obtain ⟨r, r', S1, h1, h2⟩ := hk
    exact lc_48 F hX hbl hbA hR1 hR2 hc0 hi hL w hl h1 h2 (fun H locs w => W.widen (by omega) (by omega) (kk ad _ H locs hl w))
  | 49, _, hk =>
    refine lv_tableIn (pc := 33) (off := 1848) (tgt := 1881) hx hb dL_law_33 (by decide) (by decide) (by decide) (by decide) ?_
    obtain ⟨r, r', S1, h1, h2⟩ := hk
    exact lc_49 F hX hbl hbA hR1 hR2 hc0 hi hL w hl h1 h2 (fun H locs w => W.widen (by omega) (by omega) (kk ad _ H locs hl w))
  | 50, _, hk =>
    refine lv_tableIn (pc := 33) (off := 1861) (tgt := 1894) hx hb dL_law_33 (by decide) (by decide) (by decide) (by decide) ?_
    obtain ⟨r, r', S1, h1, h2⟩ := hk
    exact lc_50 F hX hbl hbA hR1 hR2 hc0 hi hL w hl h1 h2 (fun H locs w => W.widen (by omega) (by omega) (kk ad _ H locs hl w))
  | 51, _, hk =>
    refine lv_tableIn (pc := 33) (off := 1884) (tgt := 1917) hx hb dL_law_33 (by decide) (by decide) (by decide) (by decide) ?_
    obtain ⟨r, r', S1, h1, h2⟩ := hk
    exact lc_51 F hX hbl hbA hR1 hR2 hc0 hi hL w hl h1 h2 (fun H locs w => W.widen (by omega) (by omega) (kk ad _ H locs hl w))
  | 52, _, hk =>
    refine lv_tableIn (pc := 33) (off := 1917) (tgt := 1950) hx hb dL_law_33 (by decide) (by decide) (by decide) (by decide) ?_
    obtain ⟨r, r', S1, h1, h2⟩ := hk
    exact lc_52 F hX hbl hbA hR1 hR2 hc0 hi hL w hl h1 h2 (fun H locs w => W.widen (by omega) (by omega) (kk ad _ H locs hl w))
  | 53, _, hk =>
    refine lv_tableOut (pc := 33) (tgt := 1963) hx hb dL_law_33 (by decide) (by decide) ?_
    have e : S2 = gh S d := hk
    subst e
    exact W.widen (by omega) (by omega) (kk ad _ H locs hl w)
  | 54, _, hk =>
    refine lv_tableOut (pc := 33) (tgt := 1963) hx hb dL_law_33 (by decide) (by decide) ?_
    have e : S2 = gh S d := hk
    subst e
    exact W.widen (by omega) (by omega) (kk ad _ H locs hl w)
  | 55, _, hk =>
    refine lv_tableOut (pc := 33) (tgt := 1963) hx hb dL_law_33 (by decide) (by decide) ?_
    have e : S2 = gh S d := hk
    subst e
    exact W.widen (by omega) (by omega) (kk ad _ H locs hl w)
  | 56, _, hk =>
    refine lv_tableOut (pc := 33) (tgt := 1963) hx hb dL_law_33 (by decide) (by decide) ?_
    have e : S2 = gh S d := hk
    subst e
    exact W.widen (by omega) (by omega) (kk ad _ H locs hl w)
  | 57, _, hk =>
    refine lv_tableOut (pc := 33) (tgt := 1963) hx hb dL_law_33 (by decide) (by decide) ?_
    have e : S2 = gh S d := hk
    subst e
    exact W.widen (by omega) (by omega) (kk ad _ H locs hl w)
  | 58, _, hk =>
    refine lv_tableOut (pc := 33) (tgt := 1963) hx hb dL_law_33 (by decide) (by decide) ?_
    have e : S2 = gh S d := hk
    subst e
    exact W.widen (by omega) (by omega) (kk ad _ H locs hl w)
  | 59, _, hk =>
    refine lv_tableOut (pc := 33) (tgt := 1963) hx hb dL_law_33 (by decide) (by decide) ?_
    have e : S2 = gh S d := hk
    subst e
    exact W.widen (by omega) (by omega) (kk ad _ H locs hl w)
  | 60, _, hk =>
    refine lv_tableOut (pc := 33) (tgt := 1963) hx hb dL_law_33 (by decide) (by decide) ?_
    have e : S2 = gh S d := hk
    subst e
    exact W.widen (by omega) (by omega) (kk ad _ H locs hl w)
  | 61, _, hk =>
    refine lv_tableOut (pc := 33) (tgt := 1963) hx hb dL_law_33 (by decide) (by decide) ?_
    have e : S2 = gh S d := hk
    subst e
    exact W.widen (by omega) (by omega) (kk ad _ H locs hl w)
  | 62, _, hk =>
    refine lv_tableOut (pc := 33) (tgt := 1963) hx hb dL_law_33 (by decide) (by decide) ?_
    have e : S2 = gh S d := hk
    subst e
    exact W.widen (by omega) (by omega) (kk ad _ H locs hl w)
  | 63, _, hk =>
    refine lv_tableOut (pc := 33) (tgt := 1963) hx hb dL_law_33 (by decide) (by decide) ?_
    have e : S2 = gh S d := hk
    subst e
    exact W.widen (by omega) (by omega) (kk ad _ H locs hl w)
  | n + 64, hn, _ => exact absurd hn (by omega)
/-- the loop: Rel k g S says of the world behind k calls, with g of them that made rows anew -/
theorem law_loop (F : Fx p s m args meth c cL_law 4 RL rt dC dI cs A) (hX : va_X b L xs s s.heap) (hbl : b < s.heap.size) (hbA : ¬ A b) (hR1 : 8 ≤ R.frames) (hR2 : 340 ≤ R.locals) (c0 s0 : Nat) (hL : L ≤ 3072) (N : Nat) (hN : L ≤ N) (Rel : Nat → Nat → SS → Prop) (hg : ∀ k g S, Rel k g S → c0 + 8 * g ≤ R.cells ∧ s0 + 18641 * g ≤ R.slots)
    (hstep : ∀ k g S, Rel k g S → 6 * k + 6 ≤ N → ∀ (n : Nat) (x : Nat → Int32), n < 64 → ∃ (d : Nat) (S2 : SS), cOk n x (gh S d) S2 ∧ Rel (k + 1) (g + d) S2)
    (hend : ∀ (k g : Nat) (S : SS) (ad D0 : Nat → Nat) (H : Heap) (locs : List Loc) (ls : Array Slot), Rel k g S → Wo dC dI cs ad A s.heap D0 S H locs → W p l e R s m args below meth c H locs (c0 + 8 * g) (s0 + 18641 * g) Q (F0 m 1969 ls [])) :
    ∀ (f k g : Nat) (S : SS) (ad D0 : Nat → Nat) (H : Heap) (locs : List Loc) (ls : Array Slot), L < 6 * k + 6 + f → 6 * k ≤ L + 6 → Rel k g S → Wo dC dI cs ad A s.heap D0 S H locs → lv_has ls 4 [(0, .ref b), (1, .ref (ad 61)), (2, .ref (ad 0)), (3, .int (nI (6 * k)))] → W p l e R s m args below meth c H locs (c0 + 8 * g) (s0 + 18641 * g) Q (F0 m 18 ls []) := by
  have hx := F.1.1
  have hb := F.1.2.1
  have turn : ∀ (f k g : Nat) (S : SS) (ad D0 : Nat → Nat) (H : Heap) (locs : List Loc) (ls : Array Slot), 6 * k ≤ L + 6 → Rel k g S → Wo dC dI cs ad A s.heap D0 S H locs → lv_has ls 4 [(0, .ref b), (1, .ref (ad 61)), (2, .ref (ad 0)), (3, .int (nI (6 * k)))] → (L < 6 * k + 6 ∨ ∀ (g : Nat) (S : SS) (ad D0 : Nat → Nat) (H : Heap) (locs : List Loc) (ls : Array Slot), 6 * (k + 1) ≤ L + 6 → Rel (k + 1) g S → Wo dC dI cs ad A s.heap D0 S H locs → lv_has ls 4 [(0, .ref b), (1, .ref (ad 61)), (2, .ref (ad 0)), (3, .int (nI (6 * (k + 1))))] → W p l e R s m args below meth c H locs (c0 + 8 * g) (s0 + 18641 * g) Q (F0 m 18 ls [])) → W p l e R s m args below meth c H locs (c0 + 8 * g) (s0 + 18641 * g) Q (F0 m 18 ls []) := by
    intro f k g S ad D0 H locs ls hk hr w hl hn
    refine lv_iload_n (pc := 18) hx hb dL_law_18 rfl (lv_at hl 3 rfl) ?_
    refine lv_aload_n (pc := 19) hx hb dL_law_19 rfl (lv_at hl 0 rfl) ?_
    refine va_slen (pc := 20) hx hb hX hbl hbA w.2.2.1 dL_law_20 ?_
    refine lv_bipush (pc := 21) (v := 6) hx hb dL_law_21 (by decide) ?_
    refine lv_isub (pc := 23) hx hb dL_law_23 ?_
    refine lv_icmp_gt (pc := 24) (tgt := 1969) hx hb dL_law_24 (by decide) (fun q => ?_) (fun q => ?_)
    · exact hend k g S ad D0 H locs ls hr w
    · rw [li6 hL (by omega)] at q
      have hi : 6 * k + 6 ≤ L := by omega
      refine lv_aload_n (pc := 27) hx hb dL_law_27 rfl (lv_at hl 0 rfl) ?_
      refine lv_iload_n (pc := 28) hx hb dL_law_28 rfl (lv_at hl 3 rfl) ?_
      refine va_sld (pc := 29) hx hb hX hbl hbA w.2.2.1 (vp_in_nI (show 6 * k < L by omega) (by omega)) dL_law_29 ?_
      rw [nI_clamp (show 6 * k < 2 ^ 31 by omega)]
      refine lv_bipush (pc := 30) (v := 63) hx hb dL_law_30 (by decide) ?_
      refine lv_iand (pc := 32) hx hb dL_law_32 ?_
      obtain ⟨n, hn64, en⟩ := pk_andE (xs (6 * k)) (m := 63) 6 (by decide)
      rw [en]
      obtain ⟨d, S2, hok, hr2⟩ := hstep k g S hr (by omega) n (fun j => xs (6 * k + j)) (by simpa using hn64)
      have hgg := hg _ _ _ hr2
      refine law_sw (i := 6 * k) F hX hbl hbA hR1 hR2 (d := d) ⟨by omega, by omega⟩ hi hL w hl (by simpa using hn64) hok (fun ad D0 H locs hl w => ?_)
      refine lv_iinc (pc := 1963) (v := nI (6 * k + 6)) (k := 3) (lv' := [(3, .int (nI (6 * k + 6))), (0, .ref b), (1, .ref (ad 61)), (2, .ref (ad 0))]) hx hb dL_law_1963 hl rfl (nI_add (6 * k) 6) (by decide) rfl (fun ls hl => ?_)
      refine lv_goto (pc := 1966) (tgt := 18) hx hb dL_law_1966 (by decide) ?_
      rcases hn with hn | hn
      · omega
      · have h2 := hn (g + d) S2 ad D0 H locs ls (by omega) hr2 w (lv_sub hl [1, 2, 3, 0] rfl)
        rw [show c0 + 8 * g + 8 * d = c0 + 8 * (g + d) by omega, show s0 + 18641 * g + 18641 * d = s0 + 18641 * (g + d) by omega]
        exact h2
  intro f
  induction f with
  | zero => intro k g S ad D0 H locs ls h1 h2 hr w hl; exact turn 0 k g S ad D0 H locs ls h2 hr w hl (Or.inl (by omega))
  | succ f ih => intro k g S ad D0 H locs ls h1 h2 hr w hl; exact turn (f + 1) k g S ad D0 H locs ls h2 hr w hl (Or.inr (fun g S ad D0 H locs ls h2 hr w hl => ih (k + 1) g S ad D0 H locs ls (by omega) h2 hr w hl))
end LWC
end
section
/-! ===== the law: its entry ===== -/
theorem kcl_L_7 : Cond.classLink RL 7 RX11 ∈ lw_gt := lw_i1 18 rfl rfl
theorem kin_X11 : Cond.instantiable RX11 11 ∈ lw_gt := lw_i1 19 rfl rfl
theorem kc_X11_init : Cond.code yX11_init cX11_init 1 none ∈ lw_gt := lw_i1 22 rfl rfl
theorem ki_X11_init : Cond.instanceMethod yX11_init ∈ lw_gt := lw_i1 21 rfl rfl
theorem kl_L_9 : Cond.methodLink RL 9 yX11_init ∈ lw_gt := lw_i1 20 rfl rfl
theorem ok_X11_init : Ok yX11_init 0 := by decide +kernel
theorem kcl_L_10 : Cond.classLink RL 10 RX12 ∈ lw_gt := lw_i6 231 rfl rfl
theorem kin_X12 : Cond.instantiable RX12 89 ∈ lw_gt := lw_i6 232 rfl rfl
theorem kc_X12_init : Cond.code yX12_init cX12_init 2 none ∈ lw_gt := lw_i6 235 rfl rfl
theorem ki_X12_init : Cond.instanceMethod yX12_init ∈ lw_gt := lw_i6 234 rfl rfl
theorem kl_L_12 : Cond.methodLink RL 12 yX12_init ∈ lw_gt := lw_i6 233 rfl rfl
theorem ok_X12_init : Ok yX12_init 0 := by decide +kernel
theorem dL_law_0 : decode cL_law 0 = .ok (.new 7, 3) := dc_187 (a := 0) (b := 7) (lw_0 (j := 0) rfl (by decide +kernel))
theorem dL_law_3 : decode cL_law 3 = .ok (.dup, 1) := dc_89 (lw_0 (j := 3) rfl (by decide +kernel))
theorem dL_law_4 : decode cL_law 4 = .ok (.invokespecial 9, 3) := dc_183 (a := 0) (b := 9) (lw_0 (j := 4) rfl (by decide +kernel))
theorem dL_law_7 : decode cL_law 7 = .ok (.astore_n 1, 1) := dc_76 (lw_0 (j := 7) rfl (by decide +kernel))
theorem dL_law_8 : decode cL_law 8 = .ok (.new 10, 3) := dc_187 (a := 0) (b := 10) (lw_0 (j := 8) rfl (by decide +kernel))
theorem dL_law_11 : decode cL_law 11 = .ok (.dup, 1) := dc_89 (lw_0 (j := 11) rfl (by decide +kernel))
theorem dL_law_12 : decode cL_law 12 = .ok (.invokespecial 12, 3) := dc_183 (a := 0) (b := 12) (lw_0 (j := 12) rfl (by decide +kernel))
theorem dL_law_15 : decode cL_law 15 = .ok (.astore_n 2, 1) := dc_77 (lw_0 (j := 15) rfl (by decide +kernel))
theorem dL_law_16 : decode cL_law 16 = .ok (.iconst 0, 1) := dc_3 (lw_0 (j := 16) rfl (by decide +kernel))
theorem dL_law_17 : decode cL_law 17 = .ok (.istore_n 3, 1) := dc_62 (lw_0 (j := 17) rfl (by decide +kernel))
theorem lw_kn {s : State} {a : Array Value} (hg : ∀ w ∈ lw_gt, w.before a s = true) : ∃ (dC : Nat → ClassId) (dI : Nat → Nat → Nat), ∀ (k : Nat) (q : vw_C), vwCl[k]? = some q → u_Kn s q.1 q.2.1 q.2.2 (dC k) (dI k) := by
  have h : ∀ k : Nat, ∃ z : ClassId × (Nat → Nat), ∀ q : vw_C, vwCl[k]? = some q → u_Kn s q.1 q.2.1 q.2.2 z.1 z.2 := by
    intro k
    match k with
    | 0 =>
      obtain ⟨c, i, h⟩ := u_known hg vi_X0 (hg _ kin_X0)
      exact ⟨(c, i), fun q hq => by cases hq; exact h⟩
    | 1 =>
      obtain ⟨c, i, h⟩ := u_known hg vi_X1 (hg _ kin_X1)
      exact ⟨(c, i), fun q hq => by cases hq; exact h⟩
    | 2 =>
      obtain ⟨c, i, h⟩ := u_known hg vi_X2 (hg _ kin_X2)
      exact ⟨(c, i), fun q hq => by cases hq; exact h⟩
    | 3 =>
      obtain ⟨c, i, h⟩ := u_known hg vi_X3 (hg _ kin_X3)
      exact ⟨(c, i), fun q hq => by cases hq; exact h⟩
    | 4 =>
      obtain ⟨c, i, h⟩ := u_known hg vi_X4 (hg _ kin_X4)
      exact ⟨(c, i), fun q hq => by cases hq; exact h⟩
    | 5 =>
      obtain ⟨c, i, h⟩ := u_known hg vi_X5 (hg _ kin_X5)
      exact ⟨(c, i), fun q hq => by cases hq; exact h⟩
    | 6 =>
      obtain ⟨c, i, h⟩ := u_known hg vi_X6 (hg _ kin_X6)
      exact ⟨(c, i), fun q hq => by cases hq; exact h⟩
    | 7 =>
      obtain ⟨c, i, h⟩ := u_known hg vi_X7 (hg _ kin_X7)
      exact ⟨(c, i), fun q hq => by cases hq; exact h⟩
    | 8 =>
      obtain ⟨c, i, h⟩ := u_known hg vi_X8 (hg _ kin_X8)
      exact ⟨(c, i), fun q hq => by cases hq; exact h⟩
    | 9 =>
      obtain ⟨c, i, h⟩ := u_known hg vi_X9 (hg _ kin_X9)
      exact ⟨(c, i), fun q hq => by cases hq; exact h⟩
    | 10 =>
      obtain ⟨c, i, h⟩ := u_known hg vi_X10 (hg _ kin_X10)
      exact ⟨(c, i), fun q hq => by cases hq; exact h⟩
    | 11 =>
      obtain ⟨c, i, h⟩ := u_known hg vi_X11 (hg _ kin_X11)
      exact ⟨(c, i), fun q hq => by cases hq; exact h⟩
    | 12 =>
      obtain ⟨c, i, h⟩ := u_known hg vi_X12 (hg _ kin_X12)
      exact ⟨(c, i), fun q hq => by cases hq; exact h⟩
    | k + 13 => exact ⟨(0, fun _ => 0), fun q hq => by cases hq⟩
  exact ⟨fun k => (Classical.choose (h k)).1, fun k => (Classical.choose (h k)).2, fun k => Classical.choose_spec (h k)⟩
theorem lw_over {s : State} {a : Array Value} {t : FieldType} (h : (Cond.arrayOver (.array t)).before a s = true) : ∃ comp c k, s.vm.findClass (FieldType.array t).toString = some comp ∧ s.vm.classes[c]? = some k ∧ k.kind = .array comp (.array t) ∧ s.vm.findClass ("[" ++ (FieldType.array t).toString) = some c := by
  unfold Cond.before Cond.holds at h
  simp only [Cond.value, beq_iff_eq] at h
  cases hc : s.vm.findClass (FieldType.array t).toString with
  | none => rw [hc] at h; cases h
  | some comp =>
    rw [hc, Option.bind_some, Option.bind_eq_some_iff] at h
    obtain ⟨c, hi, h⟩ := h
    obtain ⟨k, hk, hb⟩ := Option.map_eq_some_iff.mp h
    obtain ⟨hlt, hp, -⟩ := Array.findIdx?_eq_some_iff_getElem.mp hi
    rw [(Array.getElem?_eq_some_iff.mp hk).2] at hp
    cases hkind : k.kind with
    | array component ty =>
      rw [hkind] at hb hp
      simp at hb hp
      exact ⟨comp, c, k, rfl, hk, by rw [hkind, hp, hb.1], hb.2⟩
    | _ => rw [hkind] at hb; simp at hb
theorem lw_ar {s : State} {a : Array Value} (h0 : (Cond.arrayClass .int).before a s = true) (h1 : (Cond.arrayClass .boolean).before a s = true) (h2 : (Cond.arrayOver (.array .int)).before a s = true) : ∃ cs : Nat → ClassId, (∀ (k : Nat) (q : ClassId × FieldType), (tyL cs)[k]? = some q → ArrOfT s q.1 q.2 ∧ va_RA s q.1 q.2) ∧ KA cs s := by
  obtain ⟨c0, k0, p0, a1, a2, a3⟩ := Cond.arrayClass_spec h0
  obtain ⟨c1, k1, p1, b1, b2, b3⟩ := Cond.arrayClass_spec h1
  obtain ⟨p2, c2, k2, e0, e2, e3, e1⟩ := lw_over h2
  have e : p2 = c0 := Option.some.inj (e0.symm.trans a1)
  subst e
  refine ⟨fun k => if k = 0 then p2 else if k = 1 then c1 else c2, fun k q hq => ?_, k2, e2, e3⟩
  match k, hq with
  | 0, hq => cases hq; exact ⟨fun n z => ⟨fun k h => (by cases h), k0, a2, p0, a3⟩, a1⟩
  | 1, hq => cases hq; exact ⟨fun n z => ⟨fun k h => (by cases h), k1, b2, p1, b3⟩, b1⟩
  | 2, hq => cases hq; exact ⟨fun n z => ⟨fun k h => (by cases h), k2, e2, p2, e3⟩, e1⟩
  | k + 3, hq => cases hq
theorem lw_nwC : ∀ w ∈ nwC, Cond.methodLinkNest w.1 w.2.1 w.2.2.1 w.2.2.2 ∈ lw_tbl := by decide +kernel
theorem lw_nwL : ∀ w ∈ nwL, Cond.methodLinkNest w.1 w.2.1 w.2.2.1 w.2.2.2 ∈ lw_tbl := by decide +kernel
theorem lw_a0 : Cond.arrayClass .int ∈ lw_tbl := by decide +kernel
theorem lw_a1 : Cond.arrayClass .boolean ∈ lw_tbl := by decide +kernel
theorem lw_a2 : Cond.arrayOver (.array .int) ∈ lw_tbl := by decide +kernel
set_option maxRecDepth 100000 in
set_option maxHeartbeats 8000000 in
/-- from the law's entry, through both makers, to its loop, with the first world -/
theorem lw_entry {p : Program} {l : Launch} {e : Env} {s : State} {m : MethodId} {below : List Frame} {meth : Method} {c : Code} {b L : Nat} {xs : Nat → Int32} {Q : State → Prop} (C0 : lw_At p s m meth c b L xs)
    (kk : ∀ (dC : Nat → ClassId) (dI : Nat → Nat → Nat) (cs : Nat → ClassId) (ad : Nat → Nat) (H : Heap) (locs : List Loc) (ls : Array Slot), Fx p s m #[Value.ref b] meth c cL_law 4 RL ret dC dI cs (fun q : Nat => s.heap.size ≤ q) → Wo dC dI cs ad (fun q : Nat => s.heap.size ≤ q) s.heap S0.2 S0 H locs → lv_has ls 4 [(0, .ref b), (1, .ref (ad 61)), (2, .ref (ad 0)), (3, .int (nI 0))] → W p l e room_1 s m #[Value.ref b] below meth c H locs 128 69713 Q (F0 m 18 ls [])) : W p l e room_1 s m #[Value.ref b] below meth c s.heap [] 0 0 Q (entryFrame m ([Value.ref b] : List Value).toArray 4) := by
  obtain ⟨hx, hb, hr, hml, hown, hts, hX, hbl, hlocks, hgv⟩ := id C0
  have hb : c.code = cL_law := hb
  have hown : s.vm.findClass RL = some m.cls := hown
  have hg : ∀ w ∈ lw_gt, w.before #[Value.ref b] s = true := fun w hw => hts w (List.mem_filter.mp hw).1
  have hA : ∀ q : Nat, s.heap.size ≤ q → (fun q : Nat => s.heap.size ≤ q) q := fun _ h => h
  obtain ⟨dC, dI, hKc⟩ := lw_kn hg
  obtain ⟨cs, hKt, hKA⟩ := lw_ar (hts _ lw_a0) (hts _ lw_a1) (hts _ lw_a2)
  have hK : va_K (dC, dI) vwCl (tyL cs) s := ⟨hKc, hKt⟩
  have hNk : Nk cs s := ⟨fun w hw => va_Nw.of rfl (hts _ (lw_nwC w hw)), hKA⟩
  have hNw : Nw cs s := ⟨fun w hw => va_Nw.of rfl (hts _ (lw_nwL w hw)), hKA⟩
  have hS : va_S (fun q : Nat => s.heap.size ≤ q) s.heap s.heap [] := va_S.rf
  have hP : va_P (dC, dI) vwCl [] s.heap := fun k q h => by simp at h
  have hD : va_D (fun q : Nat => s.heap.size ≤ q) [] := ⟨fun i j p q h => by simp at h, fun k q h => by simp at h⟩
  have hl := lv_entry ([.ref b]) (n := 4) (Nat.le_of_ble_eq_true rfl)
  rw [lg_entry_eq]
  generalize (lg_sl ([.ref b]) ++ List.replicate (4 - (lg_sl ([.ref b])).length) Slot.unset).toArray = ls at hl ⊢
  have hl : lv_has ls 4 [(0, .ref b)] := hl
  refine va_new (pc := 0) (ci := 11) (fs := [.null, .null, .null, .null, .null, .null, .null, .null, .null, .null, .null]) (C := RX11) (T := TX11) (N := 11) hx hb hg vi_X11 tyX11 tyX11_ok hown (hg _ kcl_L_7) (hg _ kin_X11) (hg _ kn_X11) hK hP hD hS hA vc_X11 (by decide +kernel) (Nat.le_of_ble_eq_true rfl) (Nat.le_of_ble_eq_true rfl) dL_law_0 (fun x0 H hP hD hS => ?_)
  have hP : va_P (dC, dI) vwCl [(x0, .inr (11, [.null, .null, .null, .null, .null, .null, .null, .null, .null, .null, .null]))] H := hP
  have hD : va_D (fun q : Nat => s.heap.size ≤ q) [(x0, .inr (11, [.null, .null, .null, .null, .null, .null, .null, .null, .null, .null, .null]))] := hD
  refine lv_dup (pc := 3) hx hb dL_law_3 rfl ?_
  have hPc := hP.sub (ws' := [(x0, .inr (11, [.null, .null, .null, .null, .null, .null, .null, .null, .null, .null, .null]))]) [0] rfl
  have hDc := hD.sub (ws' := [(x0, .inr (11, [.null, .null, .null, .null, .null, .null, .null, .null, .null, .null, .null]))]) [0] (by decide) rfl
  refine k_back (pc := 4) (w0 := [(x0, .inr (11, [.null, .null, .null, .null, .null, .null, .null, .null, .null, .null, .null]))]) (wr := []) (mc := 66) (ms := 12252) (wq := wq_X11_init x0 cs) (rest := [.ref x0]) (st0 := [.ref x0, .ref x0]) hA hP hD hS [0] [] rfl rfl (by decide) (by decide) (va_runI (As := []) (rest := [.ref x0]) (b := x0) ⟨hx, hb, hml, hown, hg⟩ (c_X11_init x0 l dC dI cs H.size) ⟨callB_of 0 hg (s_wsg kc_X11_init) rfl rfl rfl (hg _ kn_X11) (hg _ kl_L_9) ok_X11_init ⟨Nat.le_of_ble_eq_true rfl, Nat.le_of_ble_eq_true rfl⟩, rfl, hg _ ki_X11_init⟩ ⟨Pk_blind, fun U hU hW => ⟨rfl, by rw [hU], by rw [hU]; exact hPc, va_K.moved hW.alike hK, hDc.weaken (fun _ _ _ _ => trivial), hNk.warm hW⟩⟩ rfl rfl hl.1 rfl (lv_room (Nat.le_of_ble_eq_true rfl)) dL_law_4 ⟨Nat.le_of_ble_eq_true rfl, Nat.le_of_ble_eq_true rfl⟩) (fun qx H locs hP hD hS => ?_)
  have hP : va_P (dC, dI) vwCl (wq_X11_init x0 cs qx) H := hP
  have hD : va_D (fun q : Nat => s.heap.size ≤ q) (wq_X11_init x0 cs qx) := hD
  refine lv_astore_n (pc := 7) (lv' := [(1, .ref x0), (0, .ref b)]) hx hb dL_law_7 rfl hl (by decide) rfl (fun ls hl => ?_)
  refine va_new (pc := 8) (ci := 12) (fs := [.int 0, .int 0, .int 0, .int 0, .null, .int 0, .null, .int 0, .null, .null, .null, .null, .null, .null, .int 0, .int 0, .null, .null, .null, .int 0, .null, .null, .null, .null, .null, .null, .int 0, .int 0, .int 0, .int 0, .null, .null, .null, .null, .null, .null, .null, .null, .null, .null, .null, .null, .null, .null, .null, .null, .null, .int 0, .int 0, .int 0, .null, .null, .null, .null, .int 0, .null, .int 0, .int 0, .int 0, .null, .int 0, .int 0, .int 0, .null, .null, .null, .int 0, .int 0, .null, .null, .int 0, .null, .null, .null, .null, .null, .int 0, .int 0, .null, .null, .null, .int 0, .null, .null, .null, .null, .null, .null, .null]) (C := RX12) (T := TX12) (N := 89) hx hb hg vi_X12 tyX12 tyX12_ok hown (hg _ kcl_L_10) (hg _ kin_X12) (hg _ kn_X12) hK hP hD hS hA vc_X12 (by decide +kernel) (Nat.le_of_ble_eq_true rfl) (Nat.le_of_ble_eq_true rfl) dL_law_8 (fun m0 H hP hD hS => ?_)
  refine lv_dup (pc := 11) hx hb dL_law_11 rfl ?_
  have hPc := hP.sub (ws' := [(m0, .inr (12, [.int 0, .int 0, .int 0, .int 0, .null, .int 0, .null, .int 0, .null, .null, .null, .null, .null, .null, .int 0, .int 0, .null, .null, .null, .int 0, .null, .null, .null, .null, .null, .null, .int 0, .int 0, .int 0, .int 0, .null, .null, .null, .null, .null, .null, .null, .null, .null, .null, .null, .null, .null, .null, .null, .null, .null, .int 0, .int 0, .int 0, .null, .null, .null, .null, .int 0, .null, .int 0, .int 0, .int 0, .null, .int 0, .int 0, .int 0, .null, .null, .null, .int 0, .int 0, .null, .null, .int 0, .null, .null, .null, .null, .null, .int 0, .int 0, .null, .null, .null, .int 0, .null, .null, .null, .null, .null, .null, .null]))]) [67] rfl
  have hDc := hD.sub (ws' := [(m0, .inr (12, [.int 0, .int 0, .int 0, .int 0, .null, .int 0, .null, .int 0, .null, .null, .null, .null, .null, .null, .int 0, .int 0, .null, .null, .null, .int 0, .null, .null, .null, .null, .null, .null, .int 0, .int 0, .int 0, .int 0, .null, .null, .null, .null, .null, .null, .null, .null, .null, .null, .null, .null, .null, .null, .null, .null, .null, .int 0, .int 0, .int 0, .null, .null, .null, .null, .int 0, .null, .int 0, .int 0, .int 0, .null, .int 0, .int 0, .int 0, .null, .null, .null, .int 0, .int 0, .null, .null, .int 0, .null, .null, .null, .null, .null, .int 0, .int 0, .null, .null, .null, .int 0, .null, .null, .null, .null, .null, .null, .null]))]) [67] (by decide) rfl
  refine k_back (pc := 12) (w0 := [(m0, .inr (12, [.int 0, .int 0, .int 0, .int 0, .null, .int 0, .null, .int 0, .null, .null, .null, .null, .null, .null, .int 0, .int 0, .null, .null, .null, .int 0, .null, .null, .null, .null, .null, .null, .int 0, .int 0, .int 0, .int 0, .null, .null, .null, .null, .null, .null, .null, .null, .null, .null, .null, .null, .null, .null, .null, .null, .null, .int 0, .int 0, .int 0, .null, .null, .null, .null, .int 0, .null, .int 0, .int 0, .int 0, .null, .int 0, .int 0, .int 0, .null, .null, .null, .int 0, .int 0, .null, .null, .int 0, .null, .null, .null, .null, .null, .int 0, .int 0, .null, .null, .null, .int 0, .null, .null, .null, .null, .null, .null, .null]))]) (wr := wq_X11_init x0 cs qx) (mc := 60) (ms := 57361) (wq := wq_X12_init m0 cs) (rest := [.ref m0]) (st0 := [.ref m0, .ref m0]) hA hP hD hS [67] [0, 1, 2, 3, 4, 5, 6, 7, 8, 9, 10, 11, 12, 13, 14, 15, 16, 17, 18, 19, 20, 21, 22, 23, 24, 25, 26, 27, 28, 29, 30, 31, 32, 33, 34, 35, 36, 37, 38, 39, 40, 41, 42, 43, 44, 45, 46, 47, 48, 49, 50, 51, 52, 53, 54, 55, 56, 57, 58, 59, 60, 61, 62, 63, 64, 65, 66] rfl rfl (by decide) (by decide) (va_runI (As := []) (rest := [.ref m0]) (b := m0) ⟨hx, hb, hml, hown, hg⟩ (c_X12_init m0 l dC dI cs H.size) ⟨callB_of 0 hg (s_wsg kc_X12_init) rfl rfl rfl (hg _ kn_X12) (hg _ kl_L_12) ok_X12_init ⟨Nat.le_of_ble_eq_true rfl, Nat.le_of_ble_eq_true rfl⟩, rfl, hg _ ki_X12_init⟩ ⟨Pk_blind, fun U hU hW => ⟨rfl, by rw [hU], by rw [hU]; exact hPc, va_K.moved hW.alike hK, hDc.weaken (fun _ _ _ _ => trivial), hNk.warm hW⟩⟩ rfl rfl hl.1 rfl (lv_room (Nat.le_of_ble_eq_true rfl)) dL_law_12 ⟨Nat.le_of_ble_eq_true rfl, Nat.le_of_ble_eq_true rfl⟩) (fun qm H locs hP hD hS => ?_)
  have hw := start_world x0 m0 qx qm hP hD
  refine lv_astore_n (pc := 15) (lv' := [(2, .ref m0), (1, .ref x0), (0, .ref b)]) hx hb dL_law_15 rfl hl (by decide) rfl (fun ls hl => ?_)
  refine lv_iconst (pc := 16) (v := 0) hx hb dL_law_16 (by decide) ?_
  refine lv_istore_n (pc := 17) (lv' := [(3, .int 0), (2, .ref m0), (1, .ref x0), (0, .ref b)]) hx hb dL_law_17 rfl hl (by decide) rfl (fun ls hl => ?_)
  exact W.widen (Nat.le_of_ble_eq_true rfl) (Nat.le_of_ble_eq_true rfl) (kk dC dI cs (ad0 x0 m0 qx qm) H locs ls ⟨⟨hx, hb, hml, hown, hg⟩, hr, hlocks, hK, hA, hNw⟩ ⟨hw.1, hw.2, hS, rfl⟩ (lv_sub hl [3, 2, 1, 0] rfl))
end
