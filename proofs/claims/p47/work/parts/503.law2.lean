theorem kl_L_181 : Cond.methodLink RL 181 yX11_undo ∈ lw_gt := lw_i5 159 rfl rfl
theorem kc_X11_undo : Cond.code yX11_undo cX11_undo 1 (some .int) ∈ lw_gt := lw_i5 162 rfl rfl
theorem ki_X11_undo : Cond.instanceMethod yX11_undo ∈ lw_gt := lw_i5 160 rfl rfl
theorem kv_X11_undo : Cond.selects RX11 yX11_undo yX11_undo ∈ lw_gt := lw_i5 161 rfl rfl
theorem kl_L_184 : Cond.methodLink RL 184 yX12_undo ∈ lw_gt := lw_i8 144 rfl rfl
theorem kc_X12_undo : Cond.code yX12_undo cX12_undo 1 (some .int) ∈ lw_gt := lw_i8 147 rfl rfl
theorem ki_X12_undo : Cond.instanceMethod yX12_undo ∈ lw_gt := lw_i8 145 rfl rfl
theorem kv_X12_undo : Cond.selects RX12 yX12_undo yX12_undo ∈ lw_gt := lw_i8 146 rfl rfl
theorem kl_L_185 : Cond.methodLink RL 185 yX11_back ∈ lw_gt := lw_i5 171 rfl rfl
theorem kc_X11_back : Cond.code yX11_back cX11_back 1 (some .int) ∈ lw_gt := lw_i5 174 rfl rfl
theorem ki_X11_back : Cond.instanceMethod yX11_back ∈ lw_gt := lw_i5 172 rfl rfl
theorem kv_X11_back : Cond.selects RX11 yX11_back yX11_back ∈ lw_gt := lw_i5 173 rfl rfl
theorem kl_L_188 : Cond.methodLink RL 188 yX12_back ∈ lw_gt := lw_i8 156 rfl rfl
theorem kc_X12_back : Cond.code yX12_back cX12_back 1 (some .int) ∈ lw_gt := lw_i8 159 rfl rfl
theorem ki_X12_back : Cond.instanceMethod yX12_back ∈ lw_gt := lw_i8 157 rfl rfl
theorem kv_X12_back : Cond.selects RX12 yX12_back yX12_back ∈ lw_gt := lw_i8 158 rfl rfl
theorem kl_L_193 : Cond.methodLink RL 193 yX12_digest ∈ lw_gt := lw_i9 172 rfl rfl
theorem kc_X12_digest : Cond.code yX12_digest cX12_digest 4 (some .long) ∈ lw_gt := lw_i9 175 rfl rfl
theorem ki_X12_digest : Cond.instanceMethod yX12_digest ∈ lw_gt := lw_i9 173 rfl rfl
theorem kv_X12_digest : Cond.selects RX12 yX12_digest yX12_digest ∈ lw_gt := lw_i9 174 rfl rfl
theorem kl_L_211 : Cond.methodLink RL 211 yX11_plan ∈ lw_gt := lw_i6 21 rfl rfl
theorem kc_X11_plan : Cond.code yX11_plan cX11_plan 2 (some .int) ∈ lw_gt := lw_i6 24 rfl rfl
theorem ki_X11_plan : Cond.instanceMethod yX11_plan ∈ lw_gt := lw_i6 22 rfl rfl
theorem kv_X11_plan : Cond.selects RX11 yX11_plan yX11_plan ∈ lw_gt := lw_i6 23 rfl rfl
theorem kl_L_214 : Cond.methodLink RL 214 yX12_plan ∈ lw_gt := lw_i9 200 rfl rfl
theorem kc_X12_plan : Cond.code yX12_plan cX12_plan 3 (some .int) ∈ lw_gt := lw_i9 203 rfl rfl
theorem ki_X12_plan : Cond.instanceMethod yX12_plan ∈ lw_gt := lw_i9 201 rfl rfl
theorem kv_X12_plan : Cond.selects RX12 yX12_plan yX12_plan ∈ lw_gt := lw_i9 202 rfl rfl
theorem ok_X11_undo : Ok yX11_undo 0 := by decide +kernel
theorem ok_X12_undo : Ok yX12_undo 0 := by decide +kernel
theorem ok_X11_back : Ok yX11_back 0 := by decide +kernel
theorem ok_X12_back : Ok yX12_back 0 := by decide +kernel
theorem ok_X12_digest : Ok yX12_digest 0 := by decide +kernel
theorem ok_X11_plan : Ok yX11_plan 1 := by decide +kernel
theorem ok_X12_plan : Ok yX12_plan 1 := by decide +kernel
theorem dL_law_1648 : decode cL_law 1648 = .ok (.aload_n 1, 1) := dc_43 (by decide +kernel)
theorem dL_law_1649 : decode cL_law 1649 = .ok (.invokevirtual 181, 3) := dc_182 (a := 0) (b := 181) (by decide +kernel)
theorem dL_law_1652 : decode cL_law 1652 = .ok (.pop, 1) := dc_87 (by decide +kernel)
theorem dL_law_1653 : decode cL_law 1653 = .ok (.aload_n 2, 1) := dc_44 (by decide +kernel)
theorem dL_law_1654 : decode cL_law 1654 = .ok (.invokevirtual 184, 3) := dc_182 (a := 0) (b := 184) (by decide +kernel)
theorem dL_law_1657 : decode cL_law 1657 = .ok (.pop, 1) := dc_87 (by decide +kernel)
theorem dL_law_1658 : decode cL_law 1658 = .ok (.goto 305, 3) := dc_167 (a := 1) (b := 49) (by decide +kernel) (by decide)
theorem dL_law_1661 : decode cL_law 1661 = .ok (.aload_n 1, 1) := dc_43 (by decide +kernel)
theorem dL_law_1662 : decode cL_law 1662 = .ok (.invokevirtual 185, 3) := dc_182 (a := 0) (b := 185) (by decide +kernel)
theorem dL_law_1665 : decode cL_law 1665 = .ok (.pop, 1) := dc_87 (by decide +kernel)
theorem dL_law_1666 : decode cL_law 1666 = .ok (.aload_n 2, 1) := dc_44 (by decide +kernel)
theorem dL_law_1667 : decode cL_law 1667 = .ok (.invokevirtual 188, 3) := dc_182 (a := 0) (b := 188) (by decide +kernel)
theorem dL_law_1670 : decode cL_law 1670 = .ok (.pop, 1) := dc_87 (by decide +kernel)
theorem dL_law_1671 : decode cL_law 1671 = .ok (.goto 292, 3) := dc_167 (a := 1) (b := 36) (by decide +kernel) (by decide)
theorem dL_law_1674 : decode cL_law 1674 = .ok (.aload_n 1, 1) := dc_43 (by decide +kernel)
theorem dL_law_1675 : decode cL_law 1675 = .ok (.invokevirtual 189, 3) := dc_182 (a := 0) (b := 189) (by decide +kernel)
theorem dL_law_1678 : decode cL_law 1678 = .ok (.pop2, 1) := dc_88 (by decide +kernel)
theorem dL_law_1679 : decode cL_law 1679 = .ok (.aload_n 2, 1) := dc_44 (by decide +kernel)
theorem dL_law_1680 : decode cL_law 1680 = .ok (.invokevirtual 193, 3) := dc_182 (a := 0) (b := 193) (by decide +kernel)
theorem dL_law_1683 : decode cL_law 1683 = .ok (.pop2, 1) := dc_88 (by decide +kernel)
theorem dL_law_1684 : decode cL_law 1684 = .ok (.goto 279, 3) := dc_167 (a := 1) (b := 23) (by decide +kernel) (by decide)
theorem dL_law_1825 : decode cL_law 1825 = .ok (.aload_n 1, 1) := dc_43 (by decide +kernel)
theorem dL_law_1826 : decode cL_law 1826 = .ok (.aload_n 0, 1) := dc_42 (by decide +kernel)
theorem dL_law_1827 : decode cL_law 1827 = .ok (.iload_n 3, 1) := dc_29 (by decide +kernel)
theorem dL_law_1828 : decode cL_law 1828 = .ok (.iconst 1, 1) := dc_4 (by decide +kernel)
theorem dL_law_1829 : decode cL_law 1829 = .ok (.iadd, 1) := dc_96 (by decide +kernel)
theorem dL_law_1830 : decode cL_law 1830 = .ok (.iaload, 1) := dc_46 (by decide +kernel)
theorem dL_law_1831 : decode cL_law 1831 = .ok (.invokevirtual 211, 3) := dc_182 (a := 0) (b := 211) (by decide +kernel)
theorem dL_law_1834 : decode cL_law 1834 = .ok (.pop, 1) := dc_87 (by decide +kernel)
theorem dL_law_1835 : decode cL_law 1835 = .ok (.aload_n 2, 1) := dc_44 (by decide +kernel)
theorem dL_law_1836 : decode cL_law 1836 = .ok (.aload_n 0, 1) := dc_42 (by decide +kernel)
theorem dL_law_1837 : decode cL_law 1837 = .ok (.iload_n 3, 1) := dc_29 (by decide +kernel)
theorem dL_law_1838 : decode cL_law 1838 = .ok (.iconst 1, 1) := dc_4 (by decide +kernel)
theorem dL_law_1839 : decode cL_law 1839 = .ok (.iadd, 1) := dc_96 (by decide +kernel)
theorem dL_law_1840 : decode cL_law 1840 = .ok (.iaload, 1) := dc_46 (by decide +kernel)
theorem dL_law_1841 : decode cL_law 1841 = .ok (.invokevirtual 214, 3) := dc_182 (a := 0) (b := 214) (by decide +kernel)
theorem dL_law_1844 : decode cL_law 1844 = .ok (.pop, 1) := dc_87 (by decide +kernel)
theorem dL_law_1845 : decode cL_law 1845 = .ok (.goto 118, 3) := dc_167 (a := 0) (b := 118) (by decide +kernel) (by decide)
section LWC
variable {p : Program} {l : Launch} {e : Env} {R : Room} {s : State} {m : MethodId} {args : Array Value} {below : List Frame} {meth : Method} {c : Code} {H : Heap} {locs : List Loc} {Q : State → Prop} {rt : Option FieldType} {ls : Array Slot} {dC : Nat → ClassId} {dI : Nat → Nat → Nat} {cs : Nat → ClassId} {ad : Nat → Nat} {A : Nat → Prop} {D0 : Nat → Nat} {cells slots b L i : Nat} {xs : Nat → Int32}
set_option maxRecDepth 100000 in
set_option maxHeartbeats 4000000 in
theorem lc_40 (F : Fx p s m args meth c cL_law 4 RL rt dC dI cs A) (hX : va_X b L xs s s.heap) (hbl : b < s.heap.size) (hbA : ¬ A b) (hR1 : 8 ≤ R.frames) (hR2 : 340 ≤ R.locals) {S S1 S2 : SS} (hcs : cells + 0 ≤ R.cells ∧ slots + 0 ≤ R.slots) {r1 r2 : Int32} (hi : i + 6 ≤ L) (hL : L ≤ 3072) (w : Wo dC dI cs ad A s.heap D0 S H locs) (hl : lv_has ls 4 [(0, .ref b), (1, .ref (ad 61)), (2, .ref (ad 0)), (3, .int (nI i))]) (h1 : f_Yard_undo  S = some (r1, S1)) (h2 : f_M_undo  S1 = some (r2, S2))
    (kk : ∀ (ad1 : Nat → Nat) (H : Heap) (locs : List Loc), lv_has ls 4 [(0, .ref b), (1, .ref (ad1 61)), (2, .ref (ad1 0)), (3, .int (nI i))] → Wo dC dI cs ad1 A s.heap S1.2 S2 H locs → W p l e R s m args below meth c H locs (cells + 0) (slots + 0) Q (F0 m 1963 ls [])) : W p l e R s m args below meth c H locs cells slots Q (F0 m 1648 ls []) := by
  have hx := F.1.1
  have hb := F.1.2.1
  refine lv_aload_n (pc := 1648) hx hb dL_law_1648 rfl (lv_at hl 1 rfl) ?_
  refine s_cxi (pc := 1649) [] (fun ad => [.ref (ad 61)]) F w (m_Yard_undo  _ _ _ h1) rfl rfl hl.1 ds_61 vc_X11 rfl ok_X11_undo rfl kc_X11_undo kl_L_181 ki_X11_undo kv_X11_undo kn_X11 ⟨Nat.le_trans (by decide) hR1, Nat.le_trans (by decide) hR2⟩ hcs (Nat.le_of_ble_eq_true rfl) dL_law_1649 (fun ad1 H locs hA w => ?_)
  rw [← hA 61 rfl, ← hA 0 rfl] at hl
  refine lv_pop (pc := 1652) hx hb dL_law_1652 rfl ?_
  refine lv_aload_n (pc := 1653) hx hb dL_law_1653 rfl (lv_at hl 2 rfl) ?_
  refine s_cvi (pc := 1654) [] (fun ad => [.ref (ad 0)]) F w (m_M_undo  _ _ _ h2) rfl rfl hl.1 ds_0 vc_X12 rfl ok_X12_undo rfl kc_X12_undo kl_L_184 ki_X12_undo kv_X12_undo kn_X12 ⟨Nat.le_trans (by decide) hR1, Nat.le_trans (by decide) hR2⟩ hcs (Nat.le_of_ble_eq_true rfl) dL_law_1654 (fun H locs w => ?_)
  refine lv_pop (pc := 1657) hx hb dL_law_1657 rfl ?_
  refine lv_goto (pc := 1658) (tgt := 1963) hx hb dL_law_1658 (by decide) ?_
  exact kk ad1 H locs hl w
set_option maxRecDepth 100000 in
set_option maxHeartbeats 4000000 in
theorem lc_41 (F : Fx p s m args meth c cL_law 4 RL rt dC dI cs A) (hX : va_X b L xs s s.heap) (hbl : b < s.heap.size) (hbA : ¬ A b) (hR1 : 8 ≤ R.frames) (hR2 : 340 ≤ R.locals) {S S1 S2 : SS} (hcs : cells + 0 ≤ R.cells ∧ slots + 0 ≤ R.slots) {r1 r2 : Int32} (hi : i + 6 ≤ L) (hL : L ≤ 3072) (w : Wo dC dI cs ad A s.heap D0 S H locs) (hl : lv_has ls 4 [(0, .ref b), (1, .ref (ad 61)), (2, .ref (ad 0)), (3, .int (nI i))]) (h1 : f_Yard_back  S = some (r1, S1)) (h2 : f_M_back  S1 = some (r2, S2))
    (kk : ∀ (ad1 : Nat → Nat) (H : Heap) (locs : List Loc), lv_has ls 4 [(0, .ref b), (1, .ref (ad1 61)), (2, .ref (ad1 0)), (3, .int (nI i))] → Wo dC dI cs ad1 A s.heap S1.2 S2 H locs → W p l e R s m args below meth c H locs (cells + 0) (slots + 0) Q (F0 m 1963 ls [])) : W p l e R s m args below meth c H locs cells slots Q (F0 m 1661 ls []) := by
  have hx := F.1.1
  have hb := F.1.2.1
  refine lv_aload_n (pc := 1661) hx hb dL_law_1661 rfl (lv_at hl 1 rfl) ?_
  refine s_cxi (pc := 1662) [] (fun ad => [.ref (ad 61)]) F w (m_Yard_back  _ _ _ h1) rfl rfl hl.1 ds_61 vc_X11 rfl ok_X11_back rfl kc_X11_back kl_L_185 ki_X11_back kv_X11_back kn_X11 ⟨Nat.le_trans (by decide) hR1, Nat.le_trans (by decide) hR2⟩ hcs (Nat.le_of_ble_eq_true rfl) dL_law_1662 (fun ad1 H locs hA w => ?_)
  rw [← hA 61 rfl, ← hA 0 rfl] at hl
  refine lv_pop (pc := 1665) hx hb dL_law_1665 rfl ?_
  refine lv_aload_n (pc := 1666) hx hb dL_law_1666 rfl (lv_at hl 2 rfl) ?_
  refine s_cvi (pc := 1667) [] (fun ad => [.ref (ad 0)]) F w (m_M_back  _ _ _ h2) rfl rfl hl.1 ds_0 vc_X12 rfl ok_X12_back rfl kc_X12_back kl_L_188 ki_X12_back kv_X12_back kn_X12 ⟨Nat.le_trans (by decide) hR1, Nat.le_trans (by decide) hR2⟩ hcs (Nat.le_of_ble_eq_true rfl) dL_law_1667 (fun H locs w => ?_)
  refine lv_pop (pc := 1670) hx hb dL_law_1670 rfl ?_
  refine lv_goto (pc := 1671) (tgt := 1963) hx hb dL_law_1671 (by decide) ?_
  exact kk ad1 H locs hl w
set_option maxRecDepth 100000 in
set_option maxHeartbeats 4000000 in
theorem lc_42 (F : Fx p s m args meth c cL_law 4 RL rt dC dI cs A) (hX : va_X b L xs s s.heap) (hbl : b < s.heap.size) (hbA : ¬ A b) (hR1 : 8 ≤ R.frames) (hR2 : 340 ≤ R.locals) {S S1 S2 : SS} (hcs : cells ≤ R.cells ∧ slots ≤ R.slots) {r1 r2 : Int64} (hi : i + 6 ≤ L) (hL : L ≤ 3072) (w : Wo dC dI cs ad A s.heap D0 S H locs) (hl : lv_has ls 4 [(0, .ref b), (1, .ref (ad 61)), (2, .ref (ad 0)), (3, .int (nI i))]) (h1 : f_Yard_digest  S = some (r1, S1)) (h2 : f_M_digest  S1 = some (r2, S2))
    (kk : ∀ (H : Heap) (locs : List Loc), Wo dC dI cs ad A s.heap D0 S2 H locs → W p l e R s m args below meth c H locs cells slots Q (F0 m 1963 ls [])) : W p l e R s m args below meth c H locs cells slots Q (F0 m 1674 ls []) := by
  have hx := F.1.1
  have hb := F.1.2.1
  refine lv_aload_n (pc := 1674) hx hb dL_law_1674 rfl (lv_at hl 1 rfl) ?_
  refine s_cvl (pc := 1675) [] (fun ad => [.ref (ad 61)]) F w (m_Yard_digest  _ _ _ h1) rfl rfl hl.1 ds_61 vc_X11 rfl ok_X11_digest rfl kc_X11_digest kl_L_189 ki_X11_digest kv_X11_digest kn_X11 ⟨Nat.le_trans (by decide) hR1, Nat.le_trans (by decide) hR2⟩ hcs (Nat.le_of_ble_eq_true rfl) dL_law_1675 (fun H locs w => ?_)
  refine lv_pop2_2 (pc := 1678) hx hb dL_law_1678 rfl ?_
  refine lv_aload_n (pc := 1679) hx hb dL_law_1679 rfl (lv_at hl 2 rfl) ?_
  refine s_cvl (pc := 1680) [] (fun ad => [.ref (ad 0)]) F w (m_M_digest  _ _ _ h2) rfl rfl hl.1 ds_0 vc_X12 rfl ok_X12_digest rfl kc_X12_digest kl_L_193 ki_X12_digest kv_X12_digest kn_X12 ⟨Nat.le_trans (by decide) hR1, Nat.le_trans (by decide) hR2⟩ hcs (Nat.le_of_ble_eq_true rfl) dL_law_1680 (fun H locs w => ?_)
  refine lv_pop2_2 (pc := 1683) hx hb dL_law_1683 rfl ?_
  refine lv_goto (pc := 1684) (tgt := 1963) hx hb dL_law_1684 (by decide) ?_
  exact kk H locs w
set_option maxRecDepth 100000 in
set_option maxHeartbeats 4000000 in
theorem lc_47 (F : Fx p s m args meth c cL_law 4 RL rt dC dI cs A) (hX : va_X b L xs s s.heap) (hbl : b < s.heap.size) (hbA : ¬ A b) (hR1 : 8 ≤ R.frames) (hR2 : 340 ≤ R.locals) {S S1 S2 : SS} (hcs : cells + (8 * S.2 200) ≤ R.cells ∧ slots + (18641 * S.2 200) ≤ R.slots) {r1 r2 : Int32} (hi : i + 6 ≤ L) (hL : L ≤ 3072) (w : Wo dC dI cs ad A s.heap D0 S H locs) (hl : lv_has ls 4 [(0, .ref b), (1, .ref (ad 61)), (2, .ref (ad 0)), (3, .int (nI i))]) (h1 : f_Yard_plan (xs (i + 1)) S = some (r1, S1)) (h2 : f_M_plan (xs (i + 1)) S1 = some (r2, S2))
    (kk : ∀ (ad1 : Nat → Nat) (H : Heap) (locs : List Loc), lv_has ls 4 [(0, .ref b), (1, .ref (ad1 61)), (2, .ref (ad1 0)), (3, .int (nI i))] → Wo dC dI cs ad1 A s.heap S1.2 S2 H locs → W p l e R s m args below meth c H locs (cells + (8 * S.2 200)) (slots + (18641 * S.2 200)) Q (F0 m 1963 ls [])) : W p l e R s m args below meth c H locs cells slots Q (F0 m 1825 ls []) := by
  have hx := F.1.1
  have hb := F.1.2.1
  refine lv_aload_n (pc := 1825) hx hb dL_law_1825 rfl (lv_at hl 1 rfl) ?_
  refine lv_aload_n (pc := 1826) hx hb dL_law_1826 rfl (lv_at hl 0 rfl) ?_
  refine lv_iload_n (pc := 1827) hx hb dL_law_1827 rfl (lv_at hl 3 rfl) ?_
  refine lv_iconst (pc := 1828) (v := 1) hx hb dL_law_1828 (by decide) ?_
  refine lv_iadd (pc := 1829) hx hb dL_law_1829 ?_
  rw [show nI i + (1 : Int32) = nI (i + 1) from nI_add i 1]
  refine va_sld (pc := 1830) hx hb hX hbl hbA w.2.2.1 (vp_in_nI (show i + 1 < L by omega) (by omega)) dL_law_1830 ?_
  rw [nI_clamp (show i + 1 < 2 ^ 31 by omega)]
  refine s_cxi (pc := 1831) [.int (xs (i + 1))] (fun ad => [.ref (ad 61), .int (xs (i + 1))]) F w (m_Yard_plan _ _ _ _ h1) rfl rfl hl.1 ds_61 vc_X11 rfl ok_X11_plan rfl kc_X11_plan kl_L_211 ki_X11_plan kv_X11_plan kn_X11 ⟨Nat.le_trans (by decide) hR1, Nat.le_trans (by decide) hR2⟩ hcs (Nat.le_of_ble_eq_true rfl) dL_law_1831 (fun ad1 H locs hA w => ?_)
  rw [← hA 61 rfl, ← hA 0 rfl] at hl
  refine lv_pop (pc := 1834) hx hb dL_law_1834 rfl ?_
  refine lv_aload_n (pc := 1835) hx hb dL_law_1835 rfl (lv_at hl 2 rfl) ?_
  refine lv_aload_n (pc := 1836) hx hb dL_law_1836 rfl (lv_at hl 0 rfl) ?_
  refine lv_iload_n (pc := 1837) hx hb dL_law_1837 rfl (lv_at hl 3 rfl) ?_
  refine lv_iconst (pc := 1838) (v := 1) hx hb dL_law_1838 (by decide) ?_
  refine lv_iadd (pc := 1839) hx hb dL_law_1839 ?_
  rw [show nI i + (1 : Int32) = nI (i + 1) from nI_add i 1]
  refine va_sld (pc := 1840) hx hb hX hbl hbA w.2.2.1 (vp_in_nI (show i + 1 < L by omega) (by omega)) dL_law_1840 ?_
  rw [nI_clamp (show i + 1 < 2 ^ 31 by omega)]
  refine s_cvi (pc := 1841) [.int (xs (i + 1))] (fun ad => [.ref (ad 0), .int (xs (i + 1))]) F w (m_M_plan _ _ _ _ h2) rfl rfl hl.1 ds_0 vc_X12 rfl ok_X12_plan rfl kc_X12_plan kl_L_214 ki_X12_plan kv_X12_plan kn_X12 ⟨Nat.le_trans (by decide) hR1, Nat.le_trans (by decide) hR2⟩ hcs (Nat.le_of_ble_eq_true rfl) dL_law_1841 (fun H locs w => ?_)
  refine lv_pop (pc := 1844) hx hb dL_law_1844 rfl ?_
  refine lv_goto (pc := 1845) (tgt := 1963) hx hb dL_law_1845 (by decide) ?_
  exact kk ad1 H locs hl w
end LWC
