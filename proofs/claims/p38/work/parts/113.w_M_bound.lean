/-! ===== printed by wip/gen: M_bound M_proof M_spoil M_works M_proves M_check Report_begin History_forget Layout_addTrack Report_found Yard_track Yard_isNot Layout_trackFinding Layout_isEnd ===== -/
def f_M_bound_j52 (K13 : Int32 → Int32 → SS → Option (Int32 × SS)) (x2 : Int32) (y0 : Int32) (y1 : Int32) (S : SS) : Option (Int32 × SS) :=
    nm (y1 + y0) (fun z7 =>
    nm (x2 + (1 : Int32)) (fun z8 =>
    K13 z7 z8 S))
def f_M_bound_L13  : Nat → Int32 → Int32 → SS → Option (Int32 × SS)
  | 0, _, _, _ => none
  | n + 1, x1, x2, S =>
    if (10 : Int32) ≤ x2 then
      some (x1, S)
    else
      bnd (f_M_under_M_startMany_M_startOn x2 S) (fun r4 S3 =>
      bnd (f_M_under_M_goalMany_M_goalOn x2 S3) (fun r6 S5 =>
      if r4 = r6 then
        f_M_bound_j52 (fun v0 v1 S => f_M_bound_L13 n v0 v1 S) x2 (0 : Int32) x1 S5
      else
        f_M_bound_j52 (fun v0 v1 S => f_M_bound_L13 n v0 v1 S) x2 (1 : Int32) x1 S5))
def f_M_bound  (S : SS) : Option (Int32 × SS) :=
  bnd (f_M_areSame  S) (fun r2 S1 =>
  if r2 = 0 then
    some ((-1 : Int32), S1)
  else
    f_M_bound_L13 NF (0 : Int32) (0 : Int32) S1)
theorem dX12_bound_0 : decode cX12_bound 0 = .ok (.aload_n 0, 1) := dc_42 (by decide +kernel)
theorem dX12_bound_1 : decode cX12_bound 1 = .ok (.invokevirtual 502, 3) := dc_182 (a := 1) (b := 246) (by decide +kernel)
theorem dX12_bound_4 : decode cX12_bound 4 = .ok (.ifCond .ne 5, 3) := dc_154 (a := 0) (b := 5) (by decide +kernel) (by decide)
theorem dX12_bound_7 : decode cX12_bound 7 = .ok (.iconst (-1), 1) := dc_2 (by decide +kernel)
theorem dX12_bound_8 : decode cX12_bound 8 = .ok (.ireturn, 1) := dc_172 (by decide +kernel)
theorem dX12_bound_9 : decode cX12_bound 9 = .ok (.iconst 0, 1) := dc_3 (by decide +kernel)
theorem dX12_bound_10 : decode cX12_bound 10 = .ok (.istore_n 1, 1) := dc_60 (by decide +kernel)
theorem dX12_bound_11 : decode cX12_bound 11 = .ok (.iconst 0, 1) := dc_3 (by decide +kernel)
theorem dX12_bound_12 : decode cX12_bound 12 = .ok (.istore_n 2, 1) := dc_61 (by decide +kernel)
theorem dX12_bound_13 : decode cX12_bound 13 = .ok (.iload_n 2, 1) := dc_28 (by decide +kernel)
theorem dX12_bound_14 : decode cX12_bound 14 = .ok (.bipush 10, 2) := dc_16 (a := 10) (by decide +kernel) (by decide)
theorem dX12_bound_16 : decode cX12_bound 16 = .ok (.if_icmp .ge 44, 3) := dc_162 (a := 0) (b := 44) (by decide +kernel) (by decide)
theorem dX12_bound_19 : decode cX12_bound 19 = .ok (.iload_n 1, 1) := dc_27 (by decide +kernel)
theorem dX12_bound_20 : decode cX12_bound 20 = .ok (.aload_n 0, 1) := dc_42 (by decide +kernel)
theorem dX12_bound_21 : decode cX12_bound 21 = .ok (.getfield 156, 3) := dc_180 (a := 0) (b := 156) (by decide +kernel)
theorem dX12_bound_24 : decode cX12_bound 24 = .ok (.aload_n 0, 1) := dc_42 (by decide +kernel)
theorem dX12_bound_25 : decode cX12_bound 25 = .ok (.getfield 159, 3) := dc_180 (a := 0) (b := 159) (by decide +kernel)
theorem dX12_bound_28 : decode cX12_bound 28 = .ok (.iload_n 2, 1) := dc_28 (by decide +kernel)
theorem dX12_bound_29 : decode cX12_bound 29 = .ok (.invokestatic 515, 3) := dc_184 (a := 2) (b := 3) (by decide +kernel)
theorem dX12_bound_32 : decode cX12_bound 32 = .ok (.aload_n 0, 1) := dc_42 (by decide +kernel)
theorem dX12_bound_33 : decode cX12_bound 33 = .ok (.getfield 162, 3) := dc_180 (a := 0) (b := 162) (by decide +kernel)
theorem dX12_bound_36 : decode cX12_bound 36 = .ok (.aload_n 0, 1) := dc_42 (by decide +kernel)
theorem dX12_bound_37 : decode cX12_bound 37 = .ok (.getfield 165, 3) := dc_180 (a := 0) (b := 165) (by decide +kernel)
theorem dX12_bound_40 : decode cX12_bound 40 = .ok (.iload_n 2, 1) := dc_28 (by decide +kernel)
theorem dX12_bound_41 : decode cX12_bound 41 = .ok (.invokestatic 515, 3) := dc_184 (a := 2) (b := 3) (by decide +kernel)
theorem dX12_bound_44 : decode cX12_bound 44 = .ok (.if_icmp .eq 7, 3) := dc_159 (a := 0) (b := 7) (by decide +kernel) (by decide)
theorem dX12_bound_47 : decode cX12_bound 47 = .ok (.iconst 1, 1) := dc_4 (by decide +kernel)
theorem dX12_bound_48 : decode cX12_bound 48 = .ok (.goto 4, 3) := dc_167 (a := 0) (b := 4) (by decide +kernel) (by decide)
theorem dX12_bound_51 : decode cX12_bound 51 = .ok (.iconst 0, 1) := dc_3 (by decide +kernel)
theorem dX12_bound_52 : decode cX12_bound 52 = .ok (.iadd, 1) := dc_96 (by decide +kernel)
theorem dX12_bound_53 : decode cX12_bound 53 = .ok (.istore_n 1, 1) := dc_60 (by decide +kernel)
theorem dX12_bound_54 : decode cX12_bound 54 = .ok (.iinc 2 1, 3) := dc_132 (a := 2) (b := 1) (by decide +kernel) (by decide)
theorem dX12_bound_57 : decode cX12_bound 57 = .ok (.goto (-44), 3) := dc_167 (a := 255) (b := 212) (by decide +kernel) (by decide)
theorem dX12_bound_60 : decode cX12_bound 60 = .ok (.iload_n 1, 1) := dc_27 (by decide +kernel)
theorem dX12_bound_61 : decode cX12_bound 61 = .ok (.ireturn, 1) := dc_172 (by decide +kernel)
set_option maxRecDepth 100000 in
set_option maxHeartbeats 4000000 in
theorem w_M_bound_j52 {p : Program} {l : Launch} {e : Env} {R : Room} {s : State} {m : MethodId} {args : Array Value} {below : List Frame} {meth : Method} {c : Code} {dC : Nat → ClassId} {dI : Nat → Nat → Nat} {cs : Nat → ClassId} {ad : Nat → Nat} {A : Nat → Prop} {D0 : Nat → Nat} {S' : SS} {r : Int32} (F : Fx p s m args meth c cX12_bound 3 RX12 (some .int) dC dI cs A) (hR1 : 0 ≤ R.frames) (hR2 : 0 ≤ R.locals) (K13 : Int32 → Int32 → SS → Option (Int32 × SS)) (hK13 : ∀ (v0 : Int32) (v1 : Int32) (S : SS), K13 v0 v1 S = some (r, S') → AW p l e R s m args below meth c dC dI cs ad A D0 (some (.int r)) S' 3 13 [(0, .ref (ad 0)), (1, .int v0), (2, .int v1)] [] S) (x2 : Int32) (y0 : Int32) (y1 : Int32) (S : SS) (h : f_M_bound_j52 K13 x2 y0 y1 S = some (r, S')) : AW p l e R s m args below meth c dC dI cs ad A D0 (some (.int r)) S' 3 52 [(0, .ref (ad 0)), (2, .int x2)] [.int y0, .int y1] S := by
  have hx := F.1.1
  have hb := F.1.2.1
  intro H locs ls w hl
  rw [f_M_bound_j52] at h
  refine lv_iadd (pc := 52) hx hb dX12_bound_52 ?_
  refine s_nm h (fun z7 ez7 h => ?_)
  rw [← ez7]
  refine lv_istore_n (pc := 53) (lv' := [(1, .int z7), (0, .ref (ad 0)), (2, .int x2)]) hx hb dX12_bound_53 rfl hl (by decide) rfl (fun ls hl => ?_)
  refine s_nm h (fun z8 ez8 h => ?_)
  refine lv_iinc (pc := 54) (v := z8) (lv' := [(2, .int z8), (1, .int z7), (0, .ref (ad 0))]) hx hb dX12_bound_54 hl (k := 2) rfl (by rw [ez8]; rfl) (by decide) rfl (fun ls hl => ?_)
  refine lv_goto (pc := 57) (tgt := 13) hx hb dX12_bound_57 (by decide) ?_
  exact hK13 _ _ _ h _ _ _ w (lv_sub hl [2, 1, 0] rfl)
set_option maxRecDepth 100000 in
set_option maxHeartbeats 4000000 in
theorem w_M_bound_L13 {p : Program} {l : Launch} {e : Env} {R : Room} {s : State} {m : MethodId} {args : Array Value} {below : List Frame} {meth : Method} {c : Code} {dC : Nat → ClassId} {dI : Nat → Nat → Nat} {cs : Nat → ClassId} {ad : Nat → Nat} {A : Nat → Prop} {D0 : Nat → Nat} {S' : SS} {r : Int32} (F : Fx p s m args meth c cX12_bound 3 RX12 (some .int) dC dI cs A) (hR1 : 1 ≤ R.frames) (hR2 : 25 ≤ R.locals) : ∀ (n : Nat) (x1 : Int32) (x2 : Int32) (S : SS), f_M_bound_L13 n x1 x2 S = some (r, S') → AW p l e R s m args below meth c dC dI cs ad A D0 (some (.int r)) S' 3 13 [(0, .ref (ad 0)), (1, .int x1), (2, .int x2)] [] S := by
  have hx := F.1.1
  have hb := F.1.2.1
  intro n
  induction n with
  | zero => intro x1 x2 S h; cases h
  | succ n ih =>
    intro x1 x2 S h H locs ls w hl
    rw [f_M_bound_L13] at h
    refine lv_iload_n (pc := 13) hx hb dX12_bound_13 rfl (lv_at hl 2 rfl) ?_
    refine lv_bipush (pc := 14) (v := 10) hx hb dX12_bound_14 (by decide) ?_
    refine lv_icmp_ge (pc := 16) (tgt := 60) hx hb dX12_bound_16 (by decide) (fun q => ?_) (fun q => ?_)
    · have h := ite_t q h
      refine lv_iload_n (pc := 60) hx hb dX12_bound_60 rfl (lv_at hl 1 rfl) ?_
      exact s_iret F w h dX12_bound_61
    · have h := ite_f q h
      refine lv_iload_n (pc := 19) hx hb dX12_bound_19 rfl (lv_at hl 1 rfl) ?_
      refine lv_aload_n (pc := 20) hx hb dX12_bound_20 rfl (lv_at hl 0 rfl) ?_
      refine s_getR (pc := 21) F w 47 ds_0 (j := 72) vc_X12 vi_X12 rfl (by decide) kf_X12_156 dX12_bound_21 ?_
      refine lv_aload_n (pc := 24) hx hb dX12_bound_24 rfl (lv_at hl 0 rfl) ?_
      refine s_getR (pc := 25) F w 48 ds_0 (j := 73) vc_X12 vi_X12 rfl (by decide) kf_X12_159 dX12_bound_25 ?_
      refine lv_iload_n (pc := 28) hx hb dX12_bound_28 rfl (lv_at hl 2 rfl) ?_
      obtain ⟨r4, S3, hc, h⟩ := bnd_t h
      refine s_csi (pc := 29) [.ref (ad 47), .ref (ad 48), .int x2] (fun ad => [.ref (ad 47), .ref (ad 48), .int x2]) F w (m_M_under_M_startMany_M_startOn _ _ _ _ hc) rfl rfl hl.1 ok_X12_under rfl kc_X12_under kl_X12_515 ks_X12_under kn_X12 ⟨Nat.le_trans (by decide) hR1, Nat.le_trans (by decide) hR2⟩ ⟨Nat.zero_le _, Nat.zero_le _⟩ (Nat.le_of_ble_eq_true rfl) dX12_bound_29 (fun H locs w => ?_)
      refine lv_aload_n (pc := 32) hx hb dX12_bound_32 rfl (lv_at hl 0 rfl) ?_
      refine s_getR (pc := 33) F w 49 ds_0 (j := 74) vc_X12 vi_X12 rfl (by decide) kf_X12_162 dX12_bound_33 ?_
      refine lv_aload_n (pc := 36) hx hb dX12_bound_36 rfl (lv_at hl 0 rfl) ?_
      refine s_getR (pc := 37) F w 50 ds_0 (j := 75) vc_X12 vi_X12 rfl (by decide) kf_X12_165 dX12_bound_37 ?_
      refine lv_iload_n (pc := 40) hx hb dX12_bound_40 rfl (lv_at hl 2 rfl) ?_
      obtain ⟨r6, S5, hc, h⟩ := bnd_t h
      refine s_csi (pc := 41) [.ref (ad 49), .ref (ad 50), .int x2] (fun ad => [.ref (ad 49), .ref (ad 50), .int x2]) F w (m_M_under_M_goalMany_M_goalOn _ _ _ _ hc) rfl rfl hl.1 ok_X12_under rfl kc_X12_under kl_X12_515 ks_X12_under kn_X12 ⟨Nat.le_trans (by decide) hR1, Nat.le_trans (by decide) hR2⟩ ⟨Nat.zero_le _, Nat.zero_le _⟩ (Nat.le_of_ble_eq_true rfl) dX12_bound_41 (fun H locs w => ?_)
      refine lv_icmp_eq (pc := 44) (tgt := 51) hx hb dX12_bound_44 (by decide) (fun q => ?_) (fun q => ?_)
      · have h := ite_t q h
        refine lv_iconst (pc := 51) (v := 0) hx hb dX12_bound_51 (by decide) ?_
        exact w_M_bound_j52 F (Nat.le_trans (by decide) hR1) (Nat.le_trans (by decide) hR2) _ (fun v0 v1 S h => ih v0 v1 S h) _ _ _ _ h _ _ _ w (lv_sub hl [0, 2] rfl)
      · have h := ite_f q h
        refine lv_iconst (pc := 47) (v := 1) hx hb dX12_bound_47 (by decide) ?_
        refine lv_goto (pc := 48) (tgt := 52) hx hb dX12_bound_48 (by decide) ?_
        exact w_M_bound_j52 F (Nat.le_trans (by decide) hR1) (Nat.le_trans (by decide) hR2) _ (fun v0 v1 S h => ih v0 v1 S h) _ _ _ _ h _ _ _ w (lv_sub hl [0, 2] rfl)
set_option maxRecDepth 100000 in
set_option maxHeartbeats 4000000 in
theorem m_M_bound  (S S' : SS) (r : Int32) (h : f_M_bound  S = some (r, S')) : MT yX12_bound cX12_bound 3 (some .int) 2 47 (fun ad => [.ref (ad 0)]) S (some (.int r)) S' := by
  refine MT.of RX12 (fun ad => [(0, .ref (ad 0))]) (by decide) rfl (fun _ => Nat.le_of_ble_eq_true rfl) (fun _ => rfl) ?_
  intro p l e R s m args below meth c dC dI cs ad A hR1 hR2 F H locs ls w hl
  have hx := F.1.1
  have hb := F.1.2.1
  rw [f_M_bound] at h
  refine lv_aload_n (pc := 0) hx hb dX12_bound_0 rfl (lv_at hl 0 rfl) ?_
  obtain ⟨r2, S1, hc, h⟩ := bnd_t h
  refine s_cvi (pc := 1) [] (fun ad => [.ref (ad 0)]) F w (m_M_areSame  _ _ _ hc) rfl rfl hl.1 ds_0 vc_X12 rfl ok_X12_areSame rfl kc_X12_areSame kl_X12_502 ki_X12_areSame kv_X12_areSame kn_X12 ⟨Nat.le_trans (by decide) hR1, Nat.le_trans (by decide) hR2⟩ ⟨Nat.zero_le _, Nat.zero_le _⟩ (Nat.le_of_ble_eq_true rfl) dX12_bound_1 (fun H locs w => ?_)
  refine lv_if_ne (pc := 4) (tgt := 9) hx hb dX12_bound_4 (by decide) (fun q => ?_) (fun q => ?_)
  · have h := ite_f q h
    refine lv_iconst (pc := 9) (v := 0) hx hb dX12_bound_9 (by decide) ?_
    refine lv_istore_n (pc := 10) (lv' := [(1, .int (0 : Int32)), (0, .ref (ad 0))]) hx hb dX12_bound_10 rfl hl (by decide) rfl (fun ls hl => ?_)
    refine lv_iconst (pc := 11) (v := 0) hx hb dX12_bound_11 (by decide) ?_
    refine lv_istore_n (pc := 12) (lv' := [(2, .int (0 : Int32)), (1, .int (0 : Int32)), (0, .ref (ad 0))]) hx hb dX12_bound_12 rfl hl (by decide) rfl (fun ls hl => ?_)
    exact w_M_bound_L13 F (Nat.le_trans (by decide) hR1) (Nat.le_trans (by decide) hR2) _ _ _ _ h _ _ _ w (lv_sub hl [2, 1, 0] rfl)
  · have h := ite_t q h
    refine lv_iconst (pc := 7) (v := -1) hx hb dX12_bound_7 (by decide) ?_
    exact s_iret F w h dX12_bound_8
def f_M_proof (a1 : Int32) (S : SS) : Option (Int32 × SS) :=
  if 0 ≤ a1 then
    if (S.1 0 76) = 0 then
      if a1 ≤ (S.1 0 77) then
        grd (inb a1 400) (
        grd (inb (S.1 56 a1.toNatClampNeg) 25920) (
        some (S.1 55 (S.1 56 a1.toNatClampNeg).toNatClampNeg, S)))
      else
        some ((-4 : Int32), S)
    else
      some ((-4 : Int32), S)
  else
    some ((-1 : Int32), S)
theorem dX12_proof_0 : decode cX12_proof 0 = .ok (.iload_n 1, 1) := dc_27 (by decide +kernel)
theorem dX12_proof_1 : decode cX12_proof 1 = .ok (.ifCond .ge 5, 3) := dc_156 (a := 0) (b := 5) (by decide +kernel) (by decide)
theorem dX12_proof_4 : decode cX12_proof 4 = .ok (.iconst (-1), 1) := dc_2 (by decide +kernel)
theorem dX12_proof_5 : decode cX12_proof 5 = .ok (.ireturn, 1) := dc_172 (by decide +kernel)
theorem dX12_proof_6 : decode cX12_proof 6 = .ok (.aload_n 0, 1) := dc_42 (by decide +kernel)
theorem dX12_proof_7 : decode cX12_proof 7 = .ok (.getfield 168, 3) := dc_180 (a := 0) (b := 168) (by decide +kernel)
theorem dX12_proof_10 : decode cX12_proof 10 = .ok (.ifCond .ne 11, 3) := dc_154 (a := 0) (b := 11) (by decide +kernel) (by decide)
theorem dX12_proof_13 : decode cX12_proof 13 = .ok (.iload_n 1, 1) := dc_27 (by decide +kernel)
theorem dX12_proof_14 : decode cX12_proof 14 = .ok (.aload_n 0, 1) := dc_42 (by decide +kernel)
theorem dX12_proof_15 : decode cX12_proof 15 = .ok (.getfield 463, 3) := dc_180 (a := 1) (b := 207) (by decide +kernel)
theorem dX12_proof_18 : decode cX12_proof 18 = .ok (.if_icmp .le 8, 3) := dc_164 (a := 0) (b := 8) (by decide +kernel) (by decide)
theorem dX12_proof_21 : decode cX12_proof 21 = .ok (.bipush (-4), 2) := dc_16 (a := 252) (by decide +kernel) (by decide)
theorem dX12_proof_23 : decode cX12_proof 23 = .ok (.goto 14, 3) := dc_167 (a := 0) (b := 14) (by decide +kernel) (by decide)
theorem dX12_proof_26 : decode cX12_proof 26 = .ok (.aload_n 0, 1) := dc_42 (by decide +kernel)
theorem dX12_proof_27 : decode cX12_proof 27 = .ok (.getfield 183, 3) := dc_180 (a := 0) (b := 183) (by decide +kernel)
theorem dX12_proof_30 : decode cX12_proof 30 = .ok (.aload_n 0, 1) := dc_42 (by decide +kernel)
theorem dX12_proof_31 : decode cX12_proof 31 = .ok (.getfield 186, 3) := dc_180 (a := 0) (b := 186) (by decide +kernel)
theorem dX12_proof_34 : decode cX12_proof 34 = .ok (.iload_n 1, 1) := dc_27 (by decide +kernel)
theorem dX12_proof_35 : decode cX12_proof 35 = .ok (.iaload, 1) := dc_46 (by decide +kernel)
theorem dX12_proof_36 : decode cX12_proof 36 = .ok (.iaload, 1) := dc_46 (by decide +kernel)
theorem dX12_proof_37 : decode cX12_proof 37 = .ok (.ireturn, 1) := dc_172 (by decide +kernel)
set_option maxRecDepth 100000 in
set_option maxHeartbeats 4000000 in
theorem m_M_proof (a1 : Int32) (S S' : SS) (r : Int32) (h : f_M_proof a1 S = some (r, S')) : MT yX12_proof cX12_proof 2 (some .int) 0 0 (fun ad => [.ref (ad 0), .int a1]) S (some (.int r)) S' := by
  refine MT.of RX12 (fun ad => [(0, .ref (ad 0)), (1, .int a1)]) (by decide) rfl (fun _ => Nat.le_of_ble_eq_true rfl) (fun _ => rfl) ?_
  intro p l e R s m args below meth c dC dI cs ad A hR1 hR2 F H locs ls w hl
  have hx := F.1.1
  have hb := F.1.2.1
  rw [f_M_proof] at h
  refine lv_iload_n (pc := 0) hx hb dX12_proof_0 rfl (lv_at hl 1 rfl) ?_
  refine lv_if_ge (pc := 1) (tgt := 6) hx hb dX12_proof_1 (by decide) (fun q => ?_) (fun q => ?_)
  · have h := ite_t q h
    refine lv_aload_n (pc := 6) hx hb dX12_proof_6 rfl (lv_at hl 0 rfl) ?_
    refine s_getI (pc := 7) F w ds_0 (j := 76) vc_X12 vi_X12 rfl (by decide) kf_X12_168 dX12_proof_7 ?_
    refine lv_if_ne (pc := 10) (tgt := 21) hx hb dX12_proof_10 (by decide) (fun q => ?_) (fun q => ?_)
    · have h := ite_f q h
      refine lv_bipush (pc := 21) (v := -4) hx hb dX12_proof_21 (by decide) ?_
      refine lv_goto (pc := 23) (tgt := 37) hx hb dX12_proof_23 (by decide) ?_
      exact s_iret F w h dX12_proof_37
    · have h := ite_t q h
      refine lv_iload_n (pc := 13) hx hb dX12_proof_13 rfl (lv_at hl 1 rfl) ?_
      refine lv_aload_n (pc := 14) hx hb dX12_proof_14 rfl (lv_at hl 0 rfl) ?_
      refine s_getI (pc := 15) F w ds_0 (j := 77) vc_X12 vi_X12 rfl (by decide) kf_X12_463 dX12_proof_15 ?_
      refine lv_icmp_le (pc := 18) (tgt := 26) hx hb dX12_proof_18 (by decide) (fun q => ?_) (fun q => ?_)
      · have h := ite_t q h
        refine lv_aload_n (pc := 26) hx hb dX12_proof_26 rfl (lv_at hl 0 rfl) ?_
        refine s_getR (pc := 27) F w 55 ds_0 (j := 83) vc_X12 vi_X12 rfl (by decide) kf_X12_183 dX12_proof_27 ?_
        refine lv_aload_n (pc := 30) hx hb dX12_proof_30 rfl (lv_at hl 0 rfl) ?_
        refine s_getR (pc := 31) F w 56 ds_0 (j := 84) vc_X12 vi_X12 rfl (by decide) kf_X12_186 dX12_proof_31 ?_
        refine lv_iload_n (pc := 34) hx hb dX12_proof_34 rfl (lv_at hl 1 rfl) ?_
        refine s_iald (pc := 35) F w ds_56 h dX12_proof_35 (fun h => ?_)
        refine s_iald (pc := 36) F w ds_55 h dX12_proof_36 (fun h => ?_)
        exact s_iret F w h dX12_proof_37
      · have h := ite_f q h
        refine lv_bipush (pc := 21) (v := -4) hx hb dX12_proof_21 (by decide) ?_
        refine lv_goto (pc := 23) (tgt := 37) hx hb dX12_proof_23 (by decide) ?_
        exact s_iret F w h dX12_proof_37
  · have h := ite_f q h
    refine lv_iconst (pc := 4) (v := -1) hx hb dX12_proof_4 (by decide) ?_
    exact s_iret F w h dX12_proof_5
def f_M_spoil (a1 : Int32) (a2 : Int32) (S : SS) : Option (Int32 × SS) :=
  if a1 < 0 then
    some ((-1 : Int32), S)
  else
    if a2 < 0 then
      some ((-1 : Int32), S)
    else
      if a2 ≤ (99 : Int32) then
        if (S.1 0 76) = 0 then
          if a1 ≤ (S.1 0 77) then
            grd (inb a1 400) (
            grd (inb (S.1 56 a1.toNatClampNeg) 25920) (
            nm (S.1 55 (S.1 56 a1.toNatClampNeg).toNatClampNeg) (fun z1 =>
            grd (inb a1 400) (
            grd (inb (S.1 56 a1.toNatClampNeg) 25920) (wr S 55 (S.1 56 a1.toNatClampNeg).toNatClampNeg a2 (fun S2 =>
            some (z1, S2)))))))
          else
            some ((-4 : Int32), S)
        else
          some ((-4 : Int32), S)
      else
        some ((-1 : Int32), S)
theorem dX12_spoil_0 : decode cX12_spoil 0 = .ok (.iload_n 1, 1) := dc_27 (by decide +kernel)
theorem dX12_spoil_1 : decode cX12_spoil 1 = .ok (.ifCond .lt 13, 3) := dc_155 (a := 0) (b := 13) (by decide +kernel) (by decide)
theorem dX12_spoil_4 : decode cX12_spoil 4 = .ok (.iload_n 2, 1) := dc_28 (by decide +kernel)
theorem dX12_spoil_5 : decode cX12_spoil 5 = .ok (.ifCond .lt 9, 3) := dc_155 (a := 0) (b := 9) (by decide +kernel) (by decide)
theorem dX12_spoil_8 : decode cX12_spoil 8 = .ok (.iload_n 2, 1) := dc_28 (by decide +kernel)
theorem dX12_spoil_9 : decode cX12_spoil 9 = .ok (.bipush 99, 2) := dc_16 (a := 99) (by decide +kernel) (by decide)
theorem dX12_spoil_11 : decode cX12_spoil 11 = .ok (.if_icmp .le 5, 3) := dc_164 (a := 0) (b := 5) (by decide +kernel) (by decide)
theorem dX12_spoil_14 : decode cX12_spoil 14 = .ok (.iconst (-1), 1) := dc_2 (by decide +kernel)
theorem dX12_spoil_15 : decode cX12_spoil 15 = .ok (.ireturn, 1) := dc_172 (by decide +kernel)
theorem dX12_spoil_16 : decode cX12_spoil 16 = .ok (.aload_n 0, 1) := dc_42 (by decide +kernel)
theorem dX12_spoil_17 : decode cX12_spoil 17 = .ok (.getfield 168, 3) := dc_180 (a := 0) (b := 168) (by decide +kernel)
theorem dX12_spoil_20 : decode cX12_spoil 20 = .ok (.ifCond .ne 11, 3) := dc_154 (a := 0) (b := 11) (by decide +kernel) (by decide)
theorem dX12_spoil_23 : decode cX12_spoil 23 = .ok (.iload_n 1, 1) := dc_27 (by decide +kernel)
theorem dX12_spoil_24 : decode cX12_spoil 24 = .ok (.aload_n 0, 1) := dc_42 (by decide +kernel)
theorem dX12_spoil_25 : decode cX12_spoil 25 = .ok (.getfield 463, 3) := dc_180 (a := 1) (b := 207) (by decide +kernel)
theorem dX12_spoil_28 : decode cX12_spoil 28 = .ok (.if_icmp .le 6, 3) := dc_164 (a := 0) (b := 6) (by decide +kernel) (by decide)
theorem dX12_spoil_31 : decode cX12_spoil 31 = .ok (.bipush (-4), 2) := dc_16 (a := 252) (by decide +kernel) (by decide)
theorem dX12_spoil_33 : decode cX12_spoil 33 = .ok (.ireturn, 1) := dc_172 (by decide +kernel)
theorem dX12_spoil_34 : decode cX12_spoil 34 = .ok (.aload_n 0, 1) := dc_42 (by decide +kernel)
theorem dX12_spoil_35 : decode cX12_spoil 35 = .ok (.getfield 183, 3) := dc_180 (a := 0) (b := 183) (by decide +kernel)
theorem dX12_spoil_38 : decode cX12_spoil 38 = .ok (.aload_n 0, 1) := dc_42 (by decide +kernel)
theorem dX12_spoil_39 : decode cX12_spoil 39 = .ok (.getfield 186, 3) := dc_180 (a := 0) (b := 186) (by decide +kernel)
theorem dX12_spoil_42 : decode cX12_spoil 42 = .ok (.iload_n 1, 1) := dc_27 (by decide +kernel)
theorem dX12_spoil_43 : decode cX12_spoil 43 = .ok (.iaload, 1) := dc_46 (by decide +kernel)
theorem dX12_spoil_44 : decode cX12_spoil 44 = .ok (.iaload, 1) := dc_46 (by decide +kernel)
theorem dX12_spoil_45 : decode cX12_spoil 45 = .ok (.istore_n 3, 1) := dc_62 (by decide +kernel)
theorem dX12_spoil_46 : decode cX12_spoil 46 = .ok (.aload_n 0, 1) := dc_42 (by decide +kernel)
theorem dX12_spoil_47 : decode cX12_spoil 47 = .ok (.getfield 183, 3) := dc_180 (a := 0) (b := 183) (by decide +kernel)
theorem dX12_spoil_50 : decode cX12_spoil 50 = .ok (.aload_n 0, 1) := dc_42 (by decide +kernel)
theorem dX12_spoil_51 : decode cX12_spoil 51 = .ok (.getfield 186, 3) := dc_180 (a := 0) (b := 186) (by decide +kernel)
theorem dX12_spoil_54 : decode cX12_spoil 54 = .ok (.iload_n 1, 1) := dc_27 (by decide +kernel)
theorem dX12_spoil_55 : decode cX12_spoil 55 = .ok (.iaload, 1) := dc_46 (by decide +kernel)
theorem dX12_spoil_56 : decode cX12_spoil 56 = .ok (.iload_n 2, 1) := dc_28 (by decide +kernel)
theorem dX12_spoil_57 : decode cX12_spoil 57 = .ok (.iastore, 1) := dc_79 (by decide +kernel)
theorem dX12_spoil_58 : decode cX12_spoil 58 = .ok (.iload_n 3, 1) := dc_29 (by decide +kernel)
theorem dX12_spoil_59 : decode cX12_spoil 59 = .ok (.ireturn, 1) := dc_172 (by decide +kernel)
set_option maxRecDepth 100000 in
set_option maxHeartbeats 4000000 in
theorem m_M_spoil (a1 : Int32) (a2 : Int32) (S S' : SS) (r : Int32) (h : f_M_spoil a1 a2 S = some (r, S')) : MT yX12_spoil cX12_spoil 4 (some .int) 0 0 (fun ad => [.ref (ad 0), .int a1, .int a2]) S (some (.int r)) S' := by
  refine MT.of RX12 (fun ad => [(0, .ref (ad 0)), (1, .int a1), (2, .int a2)]) (by decide) rfl (fun _ => Nat.le_of_ble_eq_true rfl) (fun _ => rfl) ?_
  intro p l e R s m args below meth c dC dI cs ad A hR1 hR2 F H locs ls w hl
  have hx := F.1.1
  have hb := F.1.2.1
  rw [f_M_spoil] at h
  refine lv_iload_n (pc := 0) hx hb dX12_spoil_0 rfl (lv_at hl 1 rfl) ?_
  refine lv_if_lt (pc := 1) (tgt := 14) hx hb dX12_spoil_1 (by decide) (fun q => ?_) (fun q => ?_)
  · have h := ite_t q h
    refine lv_iconst (pc := 14) (v := -1) hx hb dX12_spoil_14 (by decide) ?_
    exact s_iret F w h dX12_spoil_15
  · have h := ite_f q h
    refine lv_iload_n (pc := 4) hx hb dX12_spoil_4 rfl (lv_at hl 2 rfl) ?_
    refine lv_if_lt (pc := 5) (tgt := 14) hx hb dX12_spoil_5 (by decide) (fun q => ?_) (fun q => ?_)
    · have h := ite_t q h
      refine lv_iconst (pc := 14) (v := -1) hx hb dX12_spoil_14 (by decide) ?_
      exact s_iret F w h dX12_spoil_15
    · have h := ite_f q h
      refine lv_iload_n (pc := 8) hx hb dX12_spoil_8 rfl (lv_at hl 2 rfl) ?_
      refine lv_bipush (pc := 9) (v := 99) hx hb dX12_spoil_9 (by decide) ?_
      refine lv_icmp_le (pc := 11) (tgt := 16) hx hb dX12_spoil_11 (by decide) (fun q => ?_) (fun q => ?_)
      · have h := ite_t q h
        refine lv_aload_n (pc := 16) hx hb dX12_spoil_16 rfl (lv_at hl 0 rfl) ?_
        refine s_getI (pc := 17) F w ds_0 (j := 76) vc_X12 vi_X12 rfl (by decide) kf_X12_168 dX12_spoil_17 ?_
        refine lv_if_ne (pc := 20) (tgt := 31) hx hb dX12_spoil_20 (by decide) (fun q => ?_) (fun q => ?_)
        · have h := ite_f q h
          refine lv_bipush (pc := 31) (v := -4) hx hb dX12_spoil_31 (by decide) ?_
          exact s_iret F w h dX12_spoil_33
        · have h := ite_t q h
          refine lv_iload_n (pc := 23) hx hb dX12_spoil_23 rfl (lv_at hl 1 rfl) ?_
          refine lv_aload_n (pc := 24) hx hb dX12_spoil_24 rfl (lv_at hl 0 rfl) ?_
          refine s_getI (pc := 25) F w ds_0 (j := 77) vc_X12 vi_X12 rfl (by decide) kf_X12_463 dX12_spoil_25 ?_
          refine lv_icmp_le (pc := 28) (tgt := 34) hx hb dX12_spoil_28 (by decide) (fun q => ?_) (fun q => ?_)
          · have h := ite_t q h
            refine lv_aload_n (pc := 34) hx hb dX12_spoil_34 rfl (lv_at hl 0 rfl) ?_
            refine s_getR (pc := 35) F w 55 ds_0 (j := 83) vc_X12 vi_X12 rfl (by decide) kf_X12_183 dX12_spoil_35 ?_
            refine lv_aload_n (pc := 38) hx hb dX12_spoil_38 rfl (lv_at hl 0 rfl) ?_
            refine s_getR (pc := 39) F w 56 ds_0 (j := 84) vc_X12 vi_X12 rfl (by decide) kf_X12_186 dX12_spoil_39 ?_
            refine lv_iload_n (pc := 42) hx hb dX12_spoil_42 rfl (lv_at hl 1 rfl) ?_
            refine s_iald (pc := 43) F w ds_56 h dX12_spoil_43 (fun h => ?_)
            refine s_iald (pc := 44) F w ds_55 h dX12_spoil_44 (fun h => ?_)
            refine s_nm h (fun z1 ez1 h => ?_)
            rw [← ez1]
            refine lv_istore_n (pc := 45) (lv' := [(3, .int z1), (0, .ref (ad 0)), (1, .int a1), (2, .int a2)]) hx hb dX12_spoil_45 rfl hl (by decide) rfl (fun ls hl => ?_)
            refine lv_aload_n (pc := 46) hx hb dX12_spoil_46 rfl (lv_at hl 1 rfl) ?_
            refine s_getR (pc := 47) F w 55 ds_0 (j := 83) vc_X12 vi_X12 rfl (by decide) kf_X12_183 dX12_spoil_47 ?_
            refine lv_aload_n (pc := 50) hx hb dX12_spoil_50 rfl (lv_at hl 1 rfl) ?_
            refine s_getR (pc := 51) F w 56 ds_0 (j := 84) vc_X12 vi_X12 rfl (by decide) kf_X12_186 dX12_spoil_51 ?_
            refine lv_iload_n (pc := 54) hx hb dX12_spoil_54 rfl (lv_at hl 2 rfl) ?_
            refine s_iald (pc := 55) F w ds_56 h dX12_spoil_55 (fun h => ?_)
            refine lv_iload_n (pc := 56) hx hb dX12_spoil_56 rfl (lv_at hl 3 rfl) ?_
            refine s_iast (pc := 57) F w ds_55 h dX12_spoil_57 (fun S2 H locs h w => ?_)
            refine lv_iload_n (pc := 58) hx hb dX12_spoil_58 rfl (lv_at hl 0 rfl) ?_
            exact s_iret F w h dX12_spoil_59
          · have h := ite_f q h
            refine lv_bipush (pc := 31) (v := -4) hx hb dX12_spoil_31 (by decide) ?_
            exact s_iret F w h dX12_spoil_33
      · have h := ite_f q h
        refine lv_iconst (pc := 14) (v := -1) hx hb dX12_spoil_14 (by decide) ?_
        exact s_iret F w h dX12_spoil_15
def f_M_works_j161 (K78 : Int32 → Int32 → SS → Option (Int32 × SS)) (x1 : Int32) (x2 : Int32) (S : SS) : Option (Int32 × SS) :=
    nm (x2 + (1 : Int32)) (fun z2 =>
    K78 x1 z2 S)
def f_M_works_j154 (K110 : Int32 → Int32 → Int32 → SS → Option (Int32 × SS)) (x2 : Int32) (x3 : Int32) (y0 : Int32) (S : SS) : Option (Int32 × SS) :=
    nm (x3 + (1 : Int32)) (fun z3 =>
    K110 y0 x2 z3 S)
def f_M_works_L110 (K78 : Int32 → Int32 → SS → Option (Int32 × SS)) : Nat → Int32 → Int32 → Int32 → SS → Option (Int32 × SS)
  | 0, _, _, _, _ => none
  | n + 1, x1, x2, x3, S =>
    grd (inb x2 4) (
    if (S.1 58 x2.toNatClampNeg) ≤ x3 then
      f_M_works_j161 K78 x1 x2 S
    else
      if x1 = 0 then
        f_M_works_j161 K78 x1 x2 S
      else
        grd (inb (((10 : Int32) * x2) + x3) 40) (
        grd (inb (((10 : Int32) * x2) + x3) 40) (
        if (S.1 57 (((10 : Int32) * x2) + x3).toNatClampNeg) = (S.1 50 (((10 : Int32) * x2) + x3).toNatClampNeg) then
          f_M_works_j154 (fun v0 v1 v2 S => f_M_works_L110 K78 n v0 v1 v2 S) x2 x3 (1 : Int32) S
        else
          f_M_works_j154 (fun v0 v1 v2 S => f_M_works_L110 K78 n v0 v1 v2 S) x2 x3 (0 : Int32) S)))
def f_M_works_j107 (K78 : Int32 → Int32 → SS → Option (Int32 × SS)) (x2 : Int32) (y0 : Int32) (S : SS) : Option (Int32 × SS) :=
    f_M_works_L110 K78 NF y0 x2 (0 : Int32) S
def f_M_works_L78  : Nat → Int32 → Int32 → SS → Option (Int32 × SS)
  | 0, _, _, _ => none
  | n + 1, x1, x2, S =>
    if (4 : Int32) ≤ x2 then
      grd (isB x1) (some (x1, S))
    else
      if x1 = 0 then
        grd (isB x1) (some (x1, S))
      else
        grd (inb x2 4) (
        grd (inb x2 4) (
        if (S.1 58 x2.toNatClampNeg) = (S.1 49 x2.toNatClampNeg) then
          f_M_works_j107 (fun v0 v1 S => f_M_works_L78 n v0 v1 S) x2 (1 : Int32) S
        else
          f_M_works_j107 (fun v0 v1 S => f_M_works_L78 n v0 v1 S) x2 (0 : Int32) S))
def f_M_works_j76  (x1 : Int32) (S : SS) : Option (Int32 × SS) :=
    f_M_works_L78 NF x1 (0 : Int32) S
def f_M_works_j70 (K9 : Int32 → Int32 → SS → Option (Int32 × SS)) (x1 : Int32) (x2 : Int32) (S : SS) : Option (Int32 × SS) :=
    nm (x2 + (1 : Int32)) (fun z6 =>
    K9 x1 z6 S)
def f_M_works_L9  : Nat → Int32 → Int32 → SS → Option (Int32 × SS)
  | 0, _, _, _ => none
  | n + 1, x1, x2, S =>
    if (S.1 0 77) ≤ x2 then
      f_M_works_j76 x1 S
    else
      if x1 = 0 then
        f_M_works_j76 x1 S
      else
        grd (inb x2 400) (
        grd (inb x2 400) (
        grd (inb x2 400) (
        bnd (f_M_mayMove (S.1 51 x2.toNatClampNeg) (S.1 52 x2.toNatClampNeg) (S.1 53 x2.toNatClampNeg) S) (fun r5 S4 =>
        if r5 = 0 then
          f_M_works_j70 (fun v0 v1 S => f_M_works_L9 n v0 v1 S) r5 x2 S4
        else
          grd (inb x2 400) (
          grd (inb x2 400) (
          grd (inb x2 400) (
          bndv (f_M_shift (S4.1 51 x2.toNatClampNeg) (S4.1 52 x2.toNatClampNeg) (S4.1 53 x2.toNatClampNeg) S4) (fun S7 =>
          f_M_works_j70 (fun v0 v1 S => f_M_works_L9 n v0 v1 S) r5 x2 S7))))))))
def f_M_works  (S : SS) : Option (Int32 × SS) :=
  bndv (f_M_take (0 : Int32) S) (fun S1 =>
  f_M_works_L9 NF (1 : Int32) (0 : Int32) S1)
theorem dX12_works_0 : decode cX12_works 0 = .ok (.aload_n 0, 1) := dc_42 (by decide +kernel)
theorem dX12_works_1 : decode cX12_works 1 = .ok (.iconst 0, 1) := dc_3 (by decide +kernel)
theorem dX12_works_2 : decode cX12_works 2 = .ok (.invokevirtual 472, 3) := dc_182 (a := 1) (b := 216) (by decide +kernel)
theorem dX12_works_5 : decode cX12_works 5 = .ok (.iconst 1, 1) := dc_4 (by decide +kernel)
theorem dX12_works_6 : decode cX12_works 6 = .ok (.istore_n 1, 1) := dc_60 (by decide +kernel)
theorem dX12_works_7 : decode cX12_works 7 = .ok (.iconst 0, 1) := dc_3 (by decide +kernel)
theorem dX12_works_8 : decode cX12_works 8 = .ok (.istore_n 2, 1) := dc_61 (by decide +kernel)
theorem dX12_works_9 : decode cX12_works 9 = .ok (.iload_n 2, 1) := dc_28 (by decide +kernel)
theorem dX12_works_10 : decode cX12_works 10 = .ok (.aload_n 0, 1) := dc_42 (by decide +kernel)
theorem dX12_works_11 : decode cX12_works 11 = .ok (.getfield 463, 3) := dc_180 (a := 1) (b := 207) (by decide +kernel)
theorem dX12_works_14 : decode cX12_works 14 = .ok (.if_icmp .ge 62, 3) := dc_162 (a := 0) (b := 62) (by decide +kernel) (by decide)
theorem dX12_works_17 : decode cX12_works 17 = .ok (.iload_n 1, 1) := dc_27 (by decide +kernel)
theorem dX12_works_18 : decode cX12_works 18 = .ok (.ifCond .eq 58, 3) := dc_153 (a := 0) (b := 58) (by decide +kernel) (by decide)
theorem dX12_works_21 : decode cX12_works 21 = .ok (.aload_n 0, 1) := dc_42 (by decide +kernel)
theorem dX12_works_22 : decode cX12_works 22 = .ok (.aload_n 0, 1) := dc_42 (by decide +kernel)
theorem dX12_works_23 : decode cX12_works 23 = .ok (.getfield 171, 3) := dc_180 (a := 0) (b := 171) (by decide +kernel)
theorem dX12_works_26 : decode cX12_works 26 = .ok (.iload_n 2, 1) := dc_28 (by decide +kernel)
theorem dX12_works_27 : decode cX12_works 27 = .ok (.iaload, 1) := dc_46 (by decide +kernel)
theorem dX12_works_28 : decode cX12_works 28 = .ok (.aload_n 0, 1) := dc_42 (by decide +kernel)
theorem dX12_works_29 : decode cX12_works 29 = .ok (.getfield 174, 3) := dc_180 (a := 0) (b := 174) (by decide +kernel)
theorem dX12_works_32 : decode cX12_works 32 = .ok (.iload_n 2, 1) := dc_28 (by decide +kernel)
theorem dX12_works_33 : decode cX12_works 33 = .ok (.iaload, 1) := dc_46 (by decide +kernel)
theorem dX12_works_34 : decode cX12_works 34 = .ok (.aload_n 0, 1) := dc_42 (by decide +kernel)
theorem dX12_works_35 : decode cX12_works 35 = .ok (.getfield 177, 3) := dc_180 (a := 0) (b := 177) (by decide +kernel)
theorem dX12_works_38 : decode cX12_works 38 = .ok (.iload_n 2, 1) := dc_28 (by decide +kernel)
theorem dX12_works_39 : decode cX12_works 39 = .ok (.iaload, 1) := dc_46 (by decide +kernel)
theorem dX12_works_40 : decode cX12_works 40 = .ok (.invokevirtual 482, 3) := dc_182 (a := 1) (b := 226) (by decide +kernel)
theorem dX12_works_43 : decode cX12_works 43 = .ok (.istore_n 1, 1) := dc_60 (by decide +kernel)
theorem dX12_works_44 : decode cX12_works 44 = .ok (.iload_n 1, 1) := dc_27 (by decide +kernel)
theorem dX12_works_45 : decode cX12_works 45 = .ok (.ifCond .eq 25, 3) := dc_153 (a := 0) (b := 25) (by decide +kernel) (by decide)
theorem dX12_works_48 : decode cX12_works 48 = .ok (.aload_n 0, 1) := dc_42 (by decide +kernel)
theorem dX12_works_49 : decode cX12_works 49 = .ok (.aload_n 0, 1) := dc_42 (by decide +kernel)
theorem dX12_works_50 : decode cX12_works 50 = .ok (.getfield 171, 3) := dc_180 (a := 0) (b := 171) (by decide +kernel)
theorem dX12_works_53 : decode cX12_works 53 = .ok (.iload_n 2, 1) := dc_28 (by decide +kernel)
theorem dX12_works_54 : decode cX12_works 54 = .ok (.iaload, 1) := dc_46 (by decide +kernel)
theorem dX12_works_55 : decode cX12_works 55 = .ok (.aload_n 0, 1) := dc_42 (by decide +kernel)
theorem dX12_works_56 : decode cX12_works 56 = .ok (.getfield 174, 3) := dc_180 (a := 0) (b := 174) (by decide +kernel)
theorem dX12_works_59 : decode cX12_works 59 = .ok (.iload_n 2, 1) := dc_28 (by decide +kernel)
theorem dX12_works_60 : decode cX12_works 60 = .ok (.iaload, 1) := dc_46 (by decide +kernel)
theorem dX12_works_61 : decode cX12_works 61 = .ok (.aload_n 0, 1) := dc_42 (by decide +kernel)
theorem dX12_works_62 : decode cX12_works 62 = .ok (.getfield 177, 3) := dc_180 (a := 0) (b := 177) (by decide +kernel)
theorem dX12_works_65 : decode cX12_works 65 = .ok (.iload_n 2, 1) := dc_28 (by decide +kernel)
theorem dX12_works_66 : decode cX12_works 66 = .ok (.iaload, 1) := dc_46 (by decide +kernel)
theorem dX12_works_67 : decode cX12_works 67 = .ok (.invokevirtual 485, 3) := dc_182 (a := 1) (b := 229) (by decide +kernel)
theorem dX12_works_70 : decode cX12_works 70 = .ok (.iinc 2 1, 3) := dc_132 (a := 2) (b := 1) (by decide +kernel) (by decide)
theorem dX12_works_73 : decode cX12_works 73 = .ok (.goto (-64), 3) := dc_167 (a := 255) (b := 192) (by decide +kernel) (by decide)
theorem dX12_works_76 : decode cX12_works 76 = .ok (.iconst 0, 1) := dc_3 (by decide +kernel)
theorem dX12_works_77 : decode cX12_works 77 = .ok (.istore_n 2, 1) := dc_61 (by decide +kernel)
theorem dX12_works_78 : decode cX12_works 78 = .ok (.iload_n 2, 1) := dc_28 (by decide +kernel)
theorem dX12_works_79 : decode cX12_works 79 = .ok (.iconst 4, 1) := dc_7 (by decide +kernel)
theorem dX12_works_80 : decode cX12_works 80 = .ok (.if_icmp .ge 87, 3) := dc_162 (a := 0) (b := 87) (by decide +kernel) (by decide)
theorem dX12_works_83 : decode cX12_works 83 = .ok (.iload_n 1, 1) := dc_27 (by decide +kernel)
theorem dX12_works_84 : decode cX12_works 84 = .ok (.ifCond .eq 83, 3) := dc_153 (a := 0) (b := 83) (by decide +kernel) (by decide)
theorem dX12_works_87 : decode cX12_works 87 = .ok (.aload_n 0, 1) := dc_42 (by decide +kernel)
theorem dX12_works_88 : decode cX12_works 88 = .ok (.getfield 192, 3) := dc_180 (a := 0) (b := 192) (by decide +kernel)
theorem dX12_works_91 : decode cX12_works 91 = .ok (.iload_n 2, 1) := dc_28 (by decide +kernel)
theorem dX12_works_92 : decode cX12_works 92 = .ok (.iaload, 1) := dc_46 (by decide +kernel)
theorem dX12_works_93 : decode cX12_works 93 = .ok (.aload_n 0, 1) := dc_42 (by decide +kernel)
theorem dX12_works_94 : decode cX12_works 94 = .ok (.getfield 162, 3) := dc_180 (a := 0) (b := 162) (by decide +kernel)
theorem dX12_works_97 : decode cX12_works 97 = .ok (.iload_n 2, 1) := dc_28 (by decide +kernel)
theorem dX12_works_98 : decode cX12_works 98 = .ok (.iaload, 1) := dc_46 (by decide +kernel)
theorem dX12_works_99 : decode cX12_works 99 = .ok (.if_icmp .ne 7, 3) := dc_160 (a := 0) (b := 7) (by decide +kernel) (by decide)
theorem dX12_works_102 : decode cX12_works 102 = .ok (.iconst 1, 1) := dc_4 (by decide +kernel)
theorem dX12_works_103 : decode cX12_works 103 = .ok (.goto 4, 3) := dc_167 (a := 0) (b := 4) (by decide +kernel) (by decide)
theorem dX12_works_106 : decode cX12_works 106 = .ok (.iconst 0, 1) := dc_3 (by decide +kernel)
theorem dX12_works_107 : decode cX12_works 107 = .ok (.istore_n 1, 1) := dc_60 (by decide +kernel)
theorem dX12_works_108 : decode cX12_works 108 = .ok (.iconst 0, 1) := dc_3 (by decide +kernel)
theorem dX12_works_109 : decode cX12_works 109 = .ok (.istore_n 3, 1) := dc_62 (by decide +kernel)
theorem dX12_works_110 : decode cX12_works 110 = .ok (.iload_n 3, 1) := dc_29 (by decide +kernel)
theorem dX12_works_111 : decode cX12_works 111 = .ok (.aload_n 0, 1) := dc_42 (by decide +kernel)
theorem dX12_works_112 : decode cX12_works 112 = .ok (.getfield 192, 3) := dc_180 (a := 0) (b := 192) (by decide +kernel)
theorem dX12_works_115 : decode cX12_works 115 = .ok (.iload_n 2, 1) := dc_28 (by decide +kernel)
theorem dX12_works_116 : decode cX12_works 116 = .ok (.iaload, 1) := dc_46 (by decide +kernel)
theorem dX12_works_117 : decode cX12_works 117 = .ok (.if_icmp .ge 44, 3) := dc_162 (a := 0) (b := 44) (by decide +kernel) (by decide)
theorem dX12_works_120 : decode cX12_works 120 = .ok (.iload_n 1, 1) := dc_27 (by decide +kernel)
theorem dX12_works_121 : decode cX12_works 121 = .ok (.ifCond .eq 40, 3) := dc_153 (a := 0) (b := 40) (by decide +kernel) (by decide)
theorem dX12_works_124 : decode cX12_works 124 = .ok (.aload_n 0, 1) := dc_42 (by decide +kernel)
theorem dX12_works_125 : decode cX12_works 125 = .ok (.getfield 189, 3) := dc_180 (a := 0) (b := 189) (by decide +kernel)
theorem dX12_works_128 : decode cX12_works 128 = .ok (.bipush 10, 2) := dc_16 (a := 10) (by decide +kernel) (by decide)
theorem dX12_works_130 : decode cX12_works 130 = .ok (.iload_n 2, 1) := dc_28 (by decide +kernel)
theorem dX12_works_131 : decode cX12_works 131 = .ok (.imul, 1) := dc_104 (by decide +kernel)
theorem dX12_works_132 : decode cX12_works 132 = .ok (.iload_n 3, 1) := dc_29 (by decide +kernel)
theorem dX12_works_133 : decode cX12_works 133 = .ok (.iadd, 1) := dc_96 (by decide +kernel)
theorem dX12_works_134 : decode cX12_works 134 = .ok (.iaload, 1) := dc_46 (by decide +kernel)
theorem dX12_works_135 : decode cX12_works 135 = .ok (.aload_n 0, 1) := dc_42 (by decide +kernel)
theorem dX12_works_136 : decode cX12_works 136 = .ok (.getfield 165, 3) := dc_180 (a := 0) (b := 165) (by decide +kernel)
theorem dX12_works_139 : decode cX12_works 139 = .ok (.bipush 10, 2) := dc_16 (a := 10) (by decide +kernel) (by decide)
theorem dX12_works_141 : decode cX12_works 141 = .ok (.iload_n 2, 1) := dc_28 (by decide +kernel)
theorem dX12_works_142 : decode cX12_works 142 = .ok (.imul, 1) := dc_104 (by decide +kernel)
theorem dX12_works_143 : decode cX12_works 143 = .ok (.iload_n 3, 1) := dc_29 (by decide +kernel)
theorem dX12_works_144 : decode cX12_works 144 = .ok (.iadd, 1) := dc_96 (by decide +kernel)
theorem dX12_works_145 : decode cX12_works 145 = .ok (.iaload, 1) := dc_46 (by decide +kernel)
theorem dX12_works_146 : decode cX12_works 146 = .ok (.if_icmp .ne 7, 3) := dc_160 (a := 0) (b := 7) (by decide +kernel) (by decide)
theorem dX12_works_149 : decode cX12_works 149 = .ok (.iconst 1, 1) := dc_4 (by decide +kernel)
theorem dX12_works_150 : decode cX12_works 150 = .ok (.goto 4, 3) := dc_167 (a := 0) (b := 4) (by decide +kernel) (by decide)
theorem dX12_works_153 : decode cX12_works 153 = .ok (.iconst 0, 1) := dc_3 (by decide +kernel)
theorem dX12_works_154 : decode cX12_works 154 = .ok (.istore_n 1, 1) := dc_60 (by decide +kernel)
theorem dX12_works_155 : decode cX12_works 155 = .ok (.iinc 3 1, 3) := dc_132 (a := 3) (b := 1) (by decide +kernel) (by decide)
theorem dX12_works_158 : decode cX12_works 158 = .ok (.goto (-48), 3) := dc_167 (a := 255) (b := 208) (by decide +kernel) (by decide)
theorem dX12_works_161 : decode cX12_works 161 = .ok (.iinc 2 1, 3) := dc_132 (a := 2) (b := 1) (by decide +kernel) (by decide)
theorem dX12_works_164 : decode cX12_works 164 = .ok (.goto (-86), 3) := dc_167 (a := 255) (b := 170) (by decide +kernel) (by decide)
theorem dX12_works_167 : decode cX12_works 167 = .ok (.iload_n 1, 1) := dc_27 (by decide +kernel)
theorem dX12_works_168 : decode cX12_works 168 = .ok (.ireturn, 1) := dc_172 (by decide +kernel)
set_option maxRecDepth 100000 in
set_option maxHeartbeats 4000000 in
theorem w_M_works_j161 {p : Program} {l : Launch} {e : Env} {R : Room} {s : State} {m : MethodId} {args : Array Value} {below : List Frame} {meth : Method} {c : Code} {dC : Nat → ClassId} {dI : Nat → Nat → Nat} {cs : Nat → ClassId} {ad : Nat → Nat} {A : Nat → Prop} {D0 : Nat → Nat} {S' : SS} {r : Int32} (F : Fx p s m args meth c cX12_works 4 RX12 (some .boolean) dC dI cs A) (hR1 : 0 ≤ R.frames) (hR2 : 0 ≤ R.locals) (K78 : Int32 → Int32 → SS → Option (Int32 × SS)) (hK78 : ∀ (v0 : Int32) (v1 : Int32) (S : SS), K78 v0 v1 S = some (r, S') → AW p l e R s m args below meth c dC dI cs ad A D0 (some (.int r)) S' 4 78 [(0, .ref (ad 0)), (1, .int v0), (2, .int v1)] [] S) (x1 : Int32) (x2 : Int32) (S : SS) (h : f_M_works_j161 K78 x1 x2 S = some (r, S')) : AW p l e R s m args below meth c dC dI cs ad A D0 (some (.int r)) S' 4 161 [(0, .ref (ad 0)), (1, .int x1), (2, .int x2)] [] S := by
  have hx := F.1.1
  have hb := F.1.2.1
  intro H locs ls w hl
  rw [f_M_works_j161] at h
  refine s_nm h (fun z2 ez2 h => ?_)
  refine lv_iinc (pc := 161) (v := z2) (lv' := [(2, .int z2), (0, .ref (ad 0)), (1, .int x1)]) hx hb dX12_works_161 hl (k := 2) rfl (by rw [ez2]; rfl) (by decide) rfl (fun ls hl => ?_)
  refine lv_goto (pc := 164) (tgt := 78) hx hb dX12_works_164 (by decide) ?_
  exact hK78 _ _ _ h _ _ _ w (lv_sub hl [1, 2, 0] rfl)
set_option maxRecDepth 100000 in
set_option maxHeartbeats 4000000 in
theorem w_M_works_j154 {p : Program} {l : Launch} {e : Env} {R : Room} {s : State} {m : MethodId} {args : Array Value} {below : List Frame} {meth : Method} {c : Code} {dC : Nat → ClassId} {dI : Nat → Nat → Nat} {cs : Nat → ClassId} {ad : Nat → Nat} {A : Nat → Prop} {D0 : Nat → Nat} {S' : SS} {r : Int32} (F : Fx p s m args meth c cX12_works 4 RX12 (some .boolean) dC dI cs A) (hR1 : 0 ≤ R.frames) (hR2 : 0 ≤ R.locals) (K110 : Int32 → Int32 → Int32 → SS → Option (Int32 × SS)) (hK110 : ∀ (v0 : Int32) (v1 : Int32) (v2 : Int32) (S : SS), K110 v0 v1 v2 S = some (r, S') → AW p l e R s m args below meth c dC dI cs ad A D0 (some (.int r)) S' 4 110 [(0, .ref (ad 0)), (1, .int v0), (2, .int v1), (3, .int v2)] [] S) (x2 : Int32) (x3 : Int32) (y0 : Int32) (S : SS) (h : f_M_works_j154 K110 x2 x3 y0 S = some (r, S')) : AW p l e R s m args below meth c dC dI cs ad A D0 (some (.int r)) S' 4 154 [(0, .ref (ad 0)), (2, .int x2), (3, .int x3)] [.int y0] S := by
  have hx := F.1.1
  have hb := F.1.2.1
  intro H locs ls w hl
  rw [f_M_works_j154] at h
  refine lv_istore_n (pc := 154) (lv' := [(1, .int y0), (0, .ref (ad 0)), (2, .int x2), (3, .int x3)]) hx hb dX12_works_154 rfl hl (by decide) rfl (fun ls hl => ?_)
  refine s_nm h (fun z3 ez3 h => ?_)
  refine lv_iinc (pc := 155) (v := z3) (lv' := [(3, .int z3), (1, .int y0), (0, .ref (ad 0)), (2, .int x2)]) hx hb dX12_works_155 hl (k := 3) rfl (by rw [ez3]; rfl) (by decide) rfl (fun ls hl => ?_)
  refine lv_goto (pc := 158) (tgt := 110) hx hb dX12_works_158 (by decide) ?_
  exact hK110 _ _ _ _ h _ _ _ w (lv_sub hl [2, 1, 3, 0] rfl)
set_option maxRecDepth 100000 in
set_option maxHeartbeats 4000000 in
theorem w_M_works_L110 {p : Program} {l : Launch} {e : Env} {R : Room} {s : State} {m : MethodId} {args : Array Value} {below : List Frame} {meth : Method} {c : Code} {dC : Nat → ClassId} {dI : Nat → Nat → Nat} {cs : Nat → ClassId} {ad : Nat → Nat} {A : Nat → Prop} {D0 : Nat → Nat} {S' : SS} {r : Int32} (F : Fx p s m args meth c cX12_works 4 RX12 (some .boolean) dC dI cs A) (hR1 : 0 ≤ R.frames) (hR2 : 0 ≤ R.locals) (K78 : Int32 → Int32 → SS → Option (Int32 × SS)) (hK78 : ∀ (v0 : Int32) (v1 : Int32) (S : SS), K78 v0 v1 S = some (r, S') → AW p l e R s m args below meth c dC dI cs ad A D0 (some (.int r)) S' 4 78 [(0, .ref (ad 0)), (1, .int v0), (2, .int v1)] [] S) : ∀ (n : Nat) (x1 : Int32) (x2 : Int32) (x3 : Int32) (S : SS), f_M_works_L110 K78 n x1 x2 x3 S = some (r, S') → AW p l e R s m args below meth c dC dI cs ad A D0 (some (.int r)) S' 4 110 [(0, .ref (ad 0)), (1, .int x1), (2, .int x2), (3, .int x3)] [] S := by
  have hx := F.1.1
  have hb := F.1.2.1
  intro n
  induction n with
  | zero => intro x1 x2 x3 S h; cases h
  | succ n ih =>
    intro x1 x2 x3 S h H locs ls w hl
    rw [f_M_works_L110] at h
    refine lv_iload_n (pc := 110) hx hb dX12_works_110 rfl (lv_at hl 3 rfl) ?_
    refine lv_aload_n (pc := 111) hx hb dX12_works_111 rfl (lv_at hl 0 rfl) ?_
    refine s_getR (pc := 112) F w 58 ds_0 (j := 86) vc_X12 vi_X12 rfl (by decide) kf_X12_192 dX12_works_112 ?_
    refine lv_iload_n (pc := 115) hx hb dX12_works_115 rfl (lv_at hl 2 rfl) ?_
    refine s_iald (pc := 116) F w ds_58 h dX12_works_116 (fun h => ?_)
    refine lv_icmp_ge (pc := 117) (tgt := 161) hx hb dX12_works_117 (by decide) (fun q => ?_) (fun q => ?_)
    · have h := ite_t q h
      exact w_M_works_j161 F (Nat.le_trans (by decide) hR1) (Nat.le_trans (by decide) hR2) _ hK78 _ _ _ h _ _ _ w (lv_sub hl [0, 1, 2] rfl)
    · have h := ite_f q h
      refine lv_iload_n (pc := 120) hx hb dX12_works_120 rfl (lv_at hl 1 rfl) ?_
      refine lv_if_eq (pc := 121) (tgt := 161) hx hb dX12_works_121 (by decide) (fun q => ?_) (fun q => ?_)
      · have h := ite_t q h
        exact w_M_works_j161 F (Nat.le_trans (by decide) hR1) (Nat.le_trans (by decide) hR2) _ hK78 _ _ _ h _ _ _ w (lv_sub hl [0, 1, 2] rfl)
      · have h := ite_f q h
        refine lv_aload_n (pc := 124) hx hb dX12_works_124 rfl (lv_at hl 0 rfl) ?_
        refine s_getR (pc := 125) F w 57 ds_0 (j := 85) vc_X12 vi_X12 rfl (by decide) kf_X12_189 dX12_works_125 ?_
        refine lv_bipush (pc := 128) (v := 10) hx hb dX12_works_128 (by decide) ?_
        refine lv_iload_n (pc := 130) hx hb dX12_works_130 rfl (lv_at hl 2 rfl) ?_
        refine lv_imul (pc := 131) hx hb dX12_works_131 ?_
        refine lv_iload_n (pc := 132) hx hb dX12_works_132 rfl (lv_at hl 3 rfl) ?_
        refine lv_iadd (pc := 133) hx hb dX12_works_133 ?_
        refine s_iald (pc := 134) F w ds_57 h dX12_works_134 (fun h => ?_)
        refine lv_aload_n (pc := 135) hx hb dX12_works_135 rfl (lv_at hl 0 rfl) ?_
        refine s_getR (pc := 136) F w 50 ds_0 (j := 75) vc_X12 vi_X12 rfl (by decide) kf_X12_165 dX12_works_136 ?_
        refine lv_bipush (pc := 139) (v := 10) hx hb dX12_works_139 (by decide) ?_
        refine lv_iload_n (pc := 141) hx hb dX12_works_141 rfl (lv_at hl 2 rfl) ?_
        refine lv_imul (pc := 142) hx hb dX12_works_142 ?_
        refine lv_iload_n (pc := 143) hx hb dX12_works_143 rfl (lv_at hl 3 rfl) ?_
        refine lv_iadd (pc := 144) hx hb dX12_works_144 ?_
        refine s_iald (pc := 145) F w ds_50 h dX12_works_145 (fun h => ?_)
        refine lv_icmp_ne (pc := 146) (tgt := 153) hx hb dX12_works_146 (by decide) (fun q => ?_) (fun q => ?_)
        · have h := ite_f q h
          refine lv_iconst (pc := 153) (v := 0) hx hb dX12_works_153 (by decide) ?_
          exact w_M_works_j154 F (Nat.le_trans (by decide) hR1) (Nat.le_trans (by decide) hR2) _ (fun v0 v1 v2 S h => ih v0 v1 v2 S h) _ _ _ _ h _ _ _ w (lv_sub hl [0, 2, 3] rfl)
        · have h := ite_t q h
          refine lv_iconst (pc := 149) (v := 1) hx hb dX12_works_149 (by decide) ?_
          refine lv_goto (pc := 150) (tgt := 154) hx hb dX12_works_150 (by decide) ?_
          exact w_M_works_j154 F (Nat.le_trans (by decide) hR1) (Nat.le_trans (by decide) hR2) _ (fun v0 v1 v2 S h => ih v0 v1 v2 S h) _ _ _ _ h _ _ _ w (lv_sub hl [0, 2, 3] rfl)
set_option maxRecDepth 100000 in
set_option maxHeartbeats 4000000 in
theorem w_M_works_j107 {p : Program} {l : Launch} {e : Env} {R : Room} {s : State} {m : MethodId} {args : Array Value} {below : List Frame} {meth : Method} {c : Code} {dC : Nat → ClassId} {dI : Nat → Nat → Nat} {cs : Nat → ClassId} {ad : Nat → Nat} {A : Nat → Prop} {D0 : Nat → Nat} {S' : SS} {r : Int32} (F : Fx p s m args meth c cX12_works 4 RX12 (some .boolean) dC dI cs A) (hR1 : 0 ≤ R.frames) (hR2 : 0 ≤ R.locals) (K78 : Int32 → Int32 → SS → Option (Int32 × SS)) (hK78 : ∀ (v0 : Int32) (v1 : Int32) (S : SS), K78 v0 v1 S = some (r, S') → AW p l e R s m args below meth c dC dI cs ad A D0 (some (.int r)) S' 4 78 [(0, .ref (ad 0)), (1, .int v0), (2, .int v1)] [] S) (x2 : Int32) (y0 : Int32) (S : SS) (h : f_M_works_j107 K78 x2 y0 S = some (r, S')) : AW p l e R s m args below meth c dC dI cs ad A D0 (some (.int r)) S' 4 107 [(0, .ref (ad 0)), (2, .int x2)] [.int y0] S := by
  have hx := F.1.1
  have hb := F.1.2.1
  intro H locs ls w hl
  rw [f_M_works_j107] at h
  refine lv_istore_n (pc := 107) (lv' := [(1, .int y0), (0, .ref (ad 0)), (2, .int x2)]) hx hb dX12_works_107 rfl hl (by decide) rfl (fun ls hl => ?_)
  refine lv_iconst (pc := 108) (v := 0) hx hb dX12_works_108 (by decide) ?_
  refine lv_istore_n (pc := 109) (lv' := [(3, .int (0 : Int32)), (1, .int y0), (0, .ref (ad 0)), (2, .int x2)]) hx hb dX12_works_109 rfl hl (by decide) rfl (fun ls hl => ?_)
  exact w_M_works_L110 F (Nat.le_trans (by decide) hR1) (Nat.le_trans (by decide) hR2) _ hK78 _ _ _ _ _ h _ _ _ w (lv_sub hl [2, 1, 3, 0] rfl)
set_option maxRecDepth 100000 in
set_option maxHeartbeats 4000000 in
theorem w_M_works_L78 {p : Program} {l : Launch} {e : Env} {R : Room} {s : State} {m : MethodId} {args : Array Value} {below : List Frame} {meth : Method} {c : Code} {dC : Nat → ClassId} {dI : Nat → Nat → Nat} {cs : Nat → ClassId} {ad : Nat → Nat} {A : Nat → Prop} {D0 : Nat → Nat} {S' : SS} {r : Int32} (F : Fx p s m args meth c cX12_works 4 RX12 (some .boolean) dC dI cs A) (hR1 : 0 ≤ R.frames) (hR2 : 0 ≤ R.locals) : ∀ (n : Nat) (x1 : Int32) (x2 : Int32) (S : SS), f_M_works_L78 n x1 x2 S = some (r, S') → AW p l e R s m args below meth c dC dI cs ad A D0 (some (.int r)) S' 4 78 [(0, .ref (ad 0)), (1, .int x1), (2, .int x2)] [] S := by
  have hx := F.1.1
  have hb := F.1.2.1
  intro n
  induction n with
  | zero => intro x1 x2 S h; cases h
  | succ n ih =>
    intro x1 x2 S h H locs ls w hl
    rw [f_M_works_L78] at h
    refine lv_iload_n (pc := 78) hx hb dX12_works_78 rfl (lv_at hl 2 rfl) ?_
    refine lv_iconst (pc := 79) (v := 4) hx hb dX12_works_79 (by decide) ?_
    refine lv_icmp_ge (pc := 80) (tgt := 167) hx hb dX12_works_80 (by decide) (fun q => ?_) (fun q => ?_)
    · have h := ite_t q h
      refine lv_iload_n (pc := 167) hx hb dX12_works_167 rfl (lv_at hl 1 rfl) ?_
      exact s_zret F w h dX12_works_168
    · have h := ite_f q h
      refine lv_iload_n (pc := 83) hx hb dX12_works_83 rfl (lv_at hl 1 rfl) ?_
      refine lv_if_eq (pc := 84) (tgt := 167) hx hb dX12_works_84 (by decide) (fun q => ?_) (fun q => ?_)
      · have h := ite_t q h
        refine lv_iload_n (pc := 167) hx hb dX12_works_167 rfl (lv_at hl 1 rfl) ?_
        exact s_zret F w h dX12_works_168
      · have h := ite_f q h
        refine lv_aload_n (pc := 87) hx hb dX12_works_87 rfl (lv_at hl 0 rfl) ?_
        refine s_getR (pc := 88) F w 58 ds_0 (j := 86) vc_X12 vi_X12 rfl (by decide) kf_X12_192 dX12_works_88 ?_
        refine lv_iload_n (pc := 91) hx hb dX12_works_91 rfl (lv_at hl 2 rfl) ?_
        refine s_iald (pc := 92) F w ds_58 h dX12_works_92 (fun h => ?_)
        refine lv_aload_n (pc := 93) hx hb dX12_works_93 rfl (lv_at hl 0 rfl) ?_
        refine s_getR (pc := 94) F w 49 ds_0 (j := 74) vc_X12 vi_X12 rfl (by decide) kf_X12_162 dX12_works_94 ?_
        refine lv_iload_n (pc := 97) hx hb dX12_works_97 rfl (lv_at hl 2 rfl) ?_
        refine s_iald (pc := 98) F w ds_49 h dX12_works_98 (fun h => ?_)
        refine lv_icmp_ne (pc := 99) (tgt := 106) hx hb dX12_works_99 (by decide) (fun q => ?_) (fun q => ?_)
        · have h := ite_f q h
          refine lv_iconst (pc := 106) (v := 0) hx hb dX12_works_106 (by decide) ?_
          exact w_M_works_j107 F (Nat.le_trans (by decide) hR1) (Nat.le_trans (by decide) hR2) _ (fun v0 v1 S h => ih v0 v1 S h) _ _ _ h _ _ _ w (lv_sub hl [0, 2] rfl)
        · have h := ite_t q h
          refine lv_iconst (pc := 102) (v := 1) hx hb dX12_works_102 (by decide) ?_
          refine lv_goto (pc := 103) (tgt := 107) hx hb dX12_works_103 (by decide) ?_
          exact w_M_works_j107 F (Nat.le_trans (by decide) hR1) (Nat.le_trans (by decide) hR2) _ (fun v0 v1 S h => ih v0 v1 S h) _ _ _ h _ _ _ w (lv_sub hl [0, 2] rfl)
set_option maxRecDepth 100000 in
set_option maxHeartbeats 4000000 in
theorem w_M_works_j76 {p : Program} {l : Launch} {e : Env} {R : Room} {s : State} {m : MethodId} {args : Array Value} {below : List Frame} {meth : Method} {c : Code} {dC : Nat → ClassId} {dI : Nat → Nat → Nat} {cs : Nat → ClassId} {ad : Nat → Nat} {A : Nat → Prop} {D0 : Nat → Nat} {S' : SS} {r : Int32} (F : Fx p s m args meth c cX12_works 4 RX12 (some .boolean) dC dI cs A) (hR1 : 0 ≤ R.frames) (hR2 : 0 ≤ R.locals) (x1 : Int32) (S : SS) (h : f_M_works_j76 x1 S = some (r, S')) : AW p l e R s m args below meth c dC dI cs ad A D0 (some (.int r)) S' 4 76 [(0, .ref (ad 0)), (1, .int x1)] [] S := by
  have hx := F.1.1
  have hb := F.1.2.1
  intro H locs ls w hl
  rw [f_M_works_j76] at h
  refine lv_iconst (pc := 76) (v := 0) hx hb dX12_works_76 (by decide) ?_
  refine lv_istore_n (pc := 77) (lv' := [(2, .int (0 : Int32)), (0, .ref (ad 0)), (1, .int x1)]) hx hb dX12_works_77 rfl hl (by decide) rfl (fun ls hl => ?_)
  exact w_M_works_L78 F (Nat.le_trans (by decide) hR1) (Nat.le_trans (by decide) hR2) _ _ _ _ h _ _ _ w (lv_sub hl [1, 2, 0] rfl)
set_option maxRecDepth 100000 in
set_option maxHeartbeats 4000000 in
theorem w_M_works_j70 {p : Program} {l : Launch} {e : Env} {R : Room} {s : State} {m : MethodId} {args : Array Value} {below : List Frame} {meth : Method} {c : Code} {dC : Nat → ClassId} {dI : Nat → Nat → Nat} {cs : Nat → ClassId} {ad : Nat → Nat} {A : Nat → Prop} {D0 : Nat → Nat} {S' : SS} {r : Int32} (F : Fx p s m args meth c cX12_works 4 RX12 (some .boolean) dC dI cs A) (hR1 : 0 ≤ R.frames) (hR2 : 0 ≤ R.locals) (K9 : Int32 → Int32 → SS → Option (Int32 × SS)) (hK9 : ∀ (v0 : Int32) (v1 : Int32) (S : SS), K9 v0 v1 S = some (r, S') → AW p l e R s m args below meth c dC dI cs ad A D0 (some (.int r)) S' 4 9 [(0, .ref (ad 0)), (1, .int v0), (2, .int v1)] [] S) (x1 : Int32) (x2 : Int32) (S : SS) (h : f_M_works_j70 K9 x1 x2 S = some (r, S')) : AW p l e R s m args below meth c dC dI cs ad A D0 (some (.int r)) S' 4 70 [(0, .ref (ad 0)), (1, .int x1), (2, .int x2)] [] S := by
  have hx := F.1.1
  have hb := F.1.2.1
  intro H locs ls w hl
  rw [f_M_works_j70] at h
  refine s_nm h (fun z6 ez6 h => ?_)
  refine lv_iinc (pc := 70) (v := z6) (lv' := [(2, .int z6), (0, .ref (ad 0)), (1, .int x1)]) hx hb dX12_works_70 hl (k := 2) rfl (by rw [ez6]; rfl) (by decide) rfl (fun ls hl => ?_)
  refine lv_goto (pc := 73) (tgt := 9) hx hb dX12_works_73 (by decide) ?_
  exact hK9 _ _ _ h _ _ _ w (lv_sub hl [1, 2, 0] rfl)
set_option maxRecDepth 100000 in
set_option maxHeartbeats 4000000 in
theorem w_M_works_L9 {p : Program} {l : Launch} {e : Env} {R : Room} {s : State} {m : MethodId} {args : Array Value} {below : List Frame} {meth : Method} {c : Code} {dC : Nat → ClassId} {dI : Nat → Nat → Nat} {cs : Nat → ClassId} {ad : Nat → Nat} {A : Nat → Prop} {D0 : Nat → Nat} {S' : SS} {r : Int32} (F : Fx p s m args meth c cX12_works 4 RX12 (some .boolean) dC dI cs A) (hR1 : 1 ≤ R.frames) (hR2 : 24 ≤ R.locals) : ∀ (n : Nat) (x1 : Int32) (x2 : Int32) (S : SS), f_M_works_L9 n x1 x2 S = some (r, S') → AW p l e R s m args below meth c dC dI cs ad A D0 (some (.int r)) S' 4 9 [(0, .ref (ad 0)), (1, .int x1), (2, .int x2)] [] S := by
  have hx := F.1.1
  have hb := F.1.2.1
  intro n
  induction n with
  | zero => intro x1 x2 S h; cases h
  | succ n ih =>
    intro x1 x2 S h H locs ls w hl
    rw [f_M_works_L9] at h
    refine lv_iload_n (pc := 9) hx hb dX12_works_9 rfl (lv_at hl 2 rfl) ?_
    refine lv_aload_n (pc := 10) hx hb dX12_works_10 rfl (lv_at hl 0 rfl) ?_
    refine s_getI (pc := 11) F w ds_0 (j := 77) vc_X12 vi_X12 rfl (by decide) kf_X12_463 dX12_works_11 ?_
    refine lv_icmp_ge (pc := 14) (tgt := 76) hx hb dX12_works_14 (by decide) (fun q => ?_) (fun q => ?_)
    · have h := ite_t q h
      exact w_M_works_j76 F (Nat.le_trans (by decide) hR1) (Nat.le_trans (by decide) hR2) _ _ h _ _ _ w (lv_sub hl [0, 1] rfl)
    · have h := ite_f q h
      refine lv_iload_n (pc := 17) hx hb dX12_works_17 rfl (lv_at hl 1 rfl) ?_
      refine lv_if_eq (pc := 18) (tgt := 76) hx hb dX12_works_18 (by decide) (fun q => ?_) (fun q => ?_)
      · have h := ite_t q h
        exact w_M_works_j76 F (Nat.le_trans (by decide) hR1) (Nat.le_trans (by decide) hR2) _ _ h _ _ _ w (lv_sub hl [0, 1] rfl)
      · have h := ite_f q h
        refine lv_aload_n (pc := 21) hx hb dX12_works_21 rfl (lv_at hl 0 rfl) ?_
        refine lv_aload_n (pc := 22) hx hb dX12_works_22 rfl (lv_at hl 0 rfl) ?_
        refine s_getR (pc := 23) F w 51 ds_0 (j := 78) vc_X12 vi_X12 rfl (by decide) kf_X12_171 dX12_works_23 ?_
        refine lv_iload_n (pc := 26) hx hb dX12_works_26 rfl (lv_at hl 2 rfl) ?_
        refine s_iald (pc := 27) F w ds_51 h dX12_works_27 (fun h => ?_)
        refine lv_aload_n (pc := 28) hx hb dX12_works_28 rfl (lv_at hl 0 rfl) ?_
        refine s_getR (pc := 29) F w 52 ds_0 (j := 79) vc_X12 vi_X12 rfl (by decide) kf_X12_174 dX12_works_29 ?_
        refine lv_iload_n (pc := 32) hx hb dX12_works_32 rfl (lv_at hl 2 rfl) ?_
        refine s_iald (pc := 33) F w ds_52 h dX12_works_33 (fun h => ?_)
        refine lv_aload_n (pc := 34) hx hb dX12_works_34 rfl (lv_at hl 0 rfl) ?_
        refine s_getR (pc := 35) F w 53 ds_0 (j := 80) vc_X12 vi_X12 rfl (by decide) kf_X12_177 dX12_works_35 ?_
        refine lv_iload_n (pc := 38) hx hb dX12_works_38 rfl (lv_at hl 2 rfl) ?_
        refine s_iald (pc := 39) F w ds_53 h dX12_works_39 (fun h => ?_)
        obtain ⟨r5, S4, hc, h⟩ := bnd_t h
        refine s_cvi (pc := 40) [.int (S.1 51 x2.toNatClampNeg), .int (S.1 52 x2.toNatClampNeg), .int (S.1 53 x2.toNatClampNeg)] (fun ad => [.ref (ad 0), .int (S.1 51 x2.toNatClampNeg), .int (S.1 52 x2.toNatClampNeg), .int (S.1 53 x2.toNatClampNeg)]) F w (m_M_mayMove _ _ _ _ _ _ hc) rfl rfl hl.1 ds_0 vc_X12 rfl ok_X12_mayMove rfl kc_X12_mayMove kl_X12_482 ki_X12_mayMove kv_X12_mayMove kn_X12 ⟨Nat.le_trans (by decide) hR1, Nat.le_trans (by decide) hR2⟩ ⟨Nat.zero_le _, Nat.zero_le _⟩ (Nat.le_of_ble_eq_true rfl) dX12_works_40 (fun H locs w => ?_)
        refine lv_istore_n (pc := 43) (lv' := [(1, .int r5), (0, .ref (ad 0)), (2, .int x2)]) hx hb dX12_works_43 rfl hl (by decide) rfl (fun ls hl => ?_)
        refine lv_iload_n (pc := 44) hx hb dX12_works_44 rfl (lv_at hl 0 rfl) ?_
        refine lv_if_eq (pc := 45) (tgt := 70) hx hb dX12_works_45 (by decide) (fun q => ?_) (fun q => ?_)
        · have h := ite_t q h
          exact w_M_works_j70 F (Nat.le_trans (by decide) hR1) (Nat.le_trans (by decide) hR2) _ (fun v0 v1 S h => ih v0 v1 S h) _ _ _ h _ _ _ w (lv_sub hl [1, 0, 2] rfl)
        · have h := ite_f q h
          refine lv_aload_n (pc := 48) hx hb dX12_works_48 rfl (lv_at hl 1 rfl) ?_
          refine lv_aload_n (pc := 49) hx hb dX12_works_49 rfl (lv_at hl 1 rfl) ?_
          refine s_getR (pc := 50) F w 51 ds_0 (j := 78) vc_X12 vi_X12 rfl (by decide) kf_X12_171 dX12_works_50 ?_
          refine lv_iload_n (pc := 53) hx hb dX12_works_53 rfl (lv_at hl 2 rfl) ?_
          refine s_iald (pc := 54) F w ds_51 h dX12_works_54 (fun h => ?_)
          refine lv_aload_n (pc := 55) hx hb dX12_works_55 rfl (lv_at hl 1 rfl) ?_
          refine s_getR (pc := 56) F w 52 ds_0 (j := 79) vc_X12 vi_X12 rfl (by decide) kf_X12_174 dX12_works_56 ?_
          refine lv_iload_n (pc := 59) hx hb dX12_works_59 rfl (lv_at hl 2 rfl) ?_
          refine s_iald (pc := 60) F w ds_52 h dX12_works_60 (fun h => ?_)
          refine lv_aload_n (pc := 61) hx hb dX12_works_61 rfl (lv_at hl 1 rfl) ?_
          refine s_getR (pc := 62) F w 53 ds_0 (j := 80) vc_X12 vi_X12 rfl (by decide) kf_X12_177 dX12_works_62 ?_
          refine lv_iload_n (pc := 65) hx hb dX12_works_65 rfl (lv_at hl 2 rfl) ?_
          refine s_iald (pc := 66) F w ds_53 h dX12_works_66 (fun h => ?_)
          obtain ⟨S7, hc, h⟩ := bndv_t h
          refine s_cvv (pc := 67) [.int (S4.1 51 x2.toNatClampNeg), .int (S4.1 52 x2.toNatClampNeg), .int (S4.1 53 x2.toNatClampNeg)] (fun ad => [.ref (ad 0), .int (S4.1 51 x2.toNatClampNeg), .int (S4.1 52 x2.toNatClampNeg), .int (S4.1 53 x2.toNatClampNeg)]) F w (m_M_shift _ _ _ _ _ hc) rfl rfl hl.1 ds_0 vc_X12 rfl ok_X12_shift rfl kc_X12_shift kl_X12_485 ki_X12_shift kv_X12_shift kn_X12 ⟨Nat.le_trans (by decide) hR1, Nat.le_trans (by decide) hR2⟩ ⟨Nat.zero_le _, Nat.zero_le _⟩ (Nat.le_of_ble_eq_true rfl) dX12_works_67 (fun H locs w => ?_)
          exact w_M_works_j70 F (Nat.le_trans (by decide) hR1) (Nat.le_trans (by decide) hR2) _ (fun v0 v1 S h => ih v0 v1 S h) _ _ _ h _ _ _ w (lv_sub hl [1, 0, 2] rfl)
set_option maxRecDepth 100000 in
set_option maxHeartbeats 4000000 in
theorem m_M_works  (S S' : SS) (r : Int32) (h : f_M_works  S = some (r, S')) : MT yX12_works cX12_works 4 (some .boolean) 1 24 (fun ad => [.ref (ad 0)]) S (some (.int r)) S' := by
  refine MT.of RX12 (fun ad => [(0, .ref (ad 0))]) (by decide) rfl (fun _ => Nat.le_of_ble_eq_true rfl) (fun _ => rfl) ?_
  intro p l e R s m args below meth c dC dI cs ad A hR1 hR2 F H locs ls w hl
  have hx := F.1.1
  have hb := F.1.2.1
  rw [f_M_works] at h
  refine lv_aload_n (pc := 0) hx hb dX12_works_0 rfl (lv_at hl 0 rfl) ?_
  refine lv_iconst (pc := 1) (v := 0) hx hb dX12_works_1 (by decide) ?_
  obtain ⟨S1, hc, h⟩ := bndv_t h
  refine s_cvv (pc := 2) [.int (0 : Int32)] (fun ad => [.ref (ad 0), .int (0 : Int32)]) F w (m_M_take _ _ _ hc) rfl rfl hl.1 ds_0 vc_X12 rfl ok_X12_take rfl kc_X12_take kl_X12_472 ki_X12_take kv_X12_take kn_X12 ⟨Nat.le_trans (by decide) hR1, Nat.le_trans (by decide) hR2⟩ ⟨Nat.zero_le _, Nat.zero_le _⟩ (Nat.le_of_ble_eq_true rfl) dX12_works_2 (fun H locs w => ?_)
  refine lv_iconst (pc := 5) (v := 1) hx hb dX12_works_5 (by decide) ?_
  refine lv_istore_n (pc := 6) (lv' := [(1, .int (1 : Int32)), (0, .ref (ad 0))]) hx hb dX12_works_6 rfl hl (by decide) rfl (fun ls hl => ?_)
  refine lv_iconst (pc := 7) (v := 0) hx hb dX12_works_7 (by decide) ?_
  refine lv_istore_n (pc := 8) (lv' := [(2, .int (0 : Int32)), (1, .int (1 : Int32)), (0, .ref (ad 0))]) hx hb dX12_works_8 rfl hl (by decide) rfl (fun ls hl => ?_)
  exact w_M_works_L9 F (Nat.le_trans (by decide) hR1) (Nat.le_trans (by decide) hR2) _ _ _ _ h _ _ _ w (lv_sub hl [2, 1, 0] rfl)
def f_M_proves_j214 (K63 : Int32 → Int32 → SS → Option (Int32 × SS)) (x3 : Int32) (x4 : Int32) (S : SS) : Option (Int32 × SS) :=
    nm (x4 + (1 : Int32)) (fun z8 =>
    K63 x3 z8 S)
def f_M_proves_j208 (K97 : Int32 → Int32 → Int32 → SS → Option (Int32 × SS)) (x3 : Int32) (x4 : Int32) (x5 : Int32) (S : SS) : Option (Int32 × SS) :=
    nm (x5 + (1 : Int32)) (fun z18 =>
    K97 x3 x4 z18 S)
def f_M_proves_j207 (K97 : Int32 → Int32 → Int32 → SS → Option (Int32 × SS)) (x4 : Int32) (x5 : Int32) (y0 : Int32) (S : SS) : Option (Int32 × SS) :=
    f_M_proves_j208 K97 y0 x4 x5 S
def f_M_proves_j206 (K97 : Int32 → Int32 → Int32 → SS → Option (Int32 × SS)) (x4 : Int32) (x5 : Int32) (S : SS) : Option (Int32 × SS) :=
    f_M_proves_j207 K97 x4 x5 (0 : Int32) S
def f_M_proves_L97 (K63 : Int32 → Int32 → SS → Option (Int32 × SS)) : Nat → Int32 → Int32 → Int32 → SS → Option (Int32 × SS)
  | 0, _, _, _, _ => none
  | n + 1, x3, x4, x5, S =>
    if (80 : Int32) ≤ x5 then
      f_M_proves_j214 K63 x3 x4 S
    else
      if x3 = 0 then
        f_M_proves_j214 K63 x3 x4 S
      else
        nm (x5 / (20 : Int32)) (fun z9 =>
        nm ((x5 / (5 : Int32)) - (x5 / (5 : Int32)) / (4 : Int32) * (4 : Int32)) (fun z10 =>
        nm ((x5 - x5 / (5 : Int32) * (5 : Int32)) + (1 : Int32)) (fun z11 =>
        bnd (f_M_mayMove z9 z10 z11 S) (fun r13 S12 =>
        if r13 = 0 then
          f_M_proves_j208 (fun v0 v1 v2 S => f_M_proves_L97 K63 n v0 v1 v2 S) x3 x4 x5 S12
        else
          bndv (f_M_shift z9 z10 z11 S12) (fun S14 =>
          bnd (f_M_code  S14) (fun r16 S15 =>
          bndv (f_M_shift z10 z9 z11 S15) (fun S17 =>
          grd (inb r16 25920) (
          if (S17.1 55 r16.toNatClampNeg) < 0 then
            f_M_proves_j206 (fun v0 v1 v2 S => f_M_proves_L97 K63 n v0 v1 v2 S) x4 x5 S17
          else
            grd (inb r16 25920) (
            grd (inb x4 25920) (
            if (S17.1 55 r16.toNatClampNeg) < ((S17.1 55 x4.toNatClampNeg) - (1 : Int32)) then
              f_M_proves_j206 (fun v0 v1 v2 S => f_M_proves_L97 K63 n v0 v1 v2 S) x4 x5 S17
            else
              f_M_proves_j207 (fun v0 v1 v2 S => f_M_proves_L97 K63 n v0 v1 v2 S) x4 x5 (1 : Int32) S17))))))))))
def f_M_proves_L63  : Nat → Int32 → Int32 → SS → Option (Int32 × SS)
  | 0, _, _, _ => none
  | n + 1, x3, x4, S =>
    if (25920 : Int32) ≤ x4 then
      grd (isB x3) (some (x3, S))
    else
      if x3 = 0 then
        grd (isB x3) (some (x3, S))
      else
        grd (inb x4 25920) (
        if 0 ≤ (S.1 55 x4.toNatClampNeg) then
          bndv (f_M_decode x4 S) (fun S7 =>
          f_M_proves_L97 (fun v0 v1 S => f_M_proves_L63 n v0 v1 S) NF x3 x4 (0 : Int32) S7)
        else
          f_M_proves_j214 (fun v0 v1 S => f_M_proves_L63 n v0 v1 S) x3 x4 S)
def f_M_proves_j59  (y0 : Int32) (S : SS) : Option (Int32 × SS) :=
    f_M_proves_L63 NF y0 (0 : Int32) S
def f_M_proves_j58   (S : SS) : Option (Int32 × SS) :=
    f_M_proves_j59 (0 : Int32) S
def f_M_proves  (S : SS) : Option (Int32 × SS) :=
  bndv (f_M_take (1 : Int32) S) (fun S1 =>
  bnd (f_M_code  S1) (fun r3 S2 =>
  bndv (f_M_take (0 : Int32) S2) (fun S4 =>
  bnd (f_M_code  S4) (fun r6 S5 =>
  if r3 = (-4 : Int32) then
    f_M_proves_j58  S5
  else
    if r6 = (-4 : Int32) then
      f_M_proves_j58  S5
    else
      grd (inb r3 25920) (
      if (S5.1 55 r3.toNatClampNeg) = 0 then
        grd (inb r6 25920) (
        if (S5.1 55 r6.toNatClampNeg) = (S5.1 0 77) then
          f_M_proves_j59 (1 : Int32) S5
        else
          f_M_proves_j58  S5)
      else
        f_M_proves_j58  S5)))))
theorem dX12_proves_0 : decode cX12_proves 0 = .ok (.aload_n 0, 1) := dc_42 (by decide +kernel)
theorem dX12_proves_1 : decode cX12_proves 1 = .ok (.iconst 1, 1) := dc_4 (by decide +kernel)
theorem dX12_proves_2 : decode cX12_proves 2 = .ok (.invokevirtual 472, 3) := dc_182 (a := 1) (b := 216) (by decide +kernel)
theorem dX12_proves_5 : decode cX12_proves 5 = .ok (.aload_n 0, 1) := dc_42 (by decide +kernel)
theorem dX12_proves_6 : decode cX12_proves 6 = .ok (.invokevirtual 476, 3) := dc_182 (a := 1) (b := 220) (by decide +kernel)
theorem dX12_proves_9 : decode cX12_proves 9 = .ok (.istore_n 1, 1) := dc_60 (by decide +kernel)
theorem dX12_proves_10 : decode cX12_proves 10 = .ok (.aload_n 0, 1) := dc_42 (by decide +kernel)
theorem dX12_proves_11 : decode cX12_proves 11 = .ok (.iconst 0, 1) := dc_3 (by decide +kernel)
theorem dX12_proves_12 : decode cX12_proves 12 = .ok (.invokevirtual 472, 3) := dc_182 (a := 1) (b := 216) (by decide +kernel)
theorem dX12_proves_15 : decode cX12_proves 15 = .ok (.aload_n 0, 1) := dc_42 (by decide +kernel)
theorem dX12_proves_16 : decode cX12_proves 16 = .ok (.invokevirtual 476, 3) := dc_182 (a := 1) (b := 220) (by decide +kernel)
theorem dX12_proves_19 : decode cX12_proves 19 = .ok (.istore_n 2, 1) := dc_61 (by decide +kernel)
theorem dX12_proves_20 : decode cX12_proves 20 = .ok (.iload_n 1, 1) := dc_27 (by decide +kernel)
theorem dX12_proves_21 : decode cX12_proves 21 = .ok (.bipush (-4), 2) := dc_16 (a := 252) (by decide +kernel) (by decide)
theorem dX12_proves_23 : decode cX12_proves 23 = .ok (.if_icmp .eq 35, 3) := dc_159 (a := 0) (b := 35) (by decide +kernel) (by decide)
theorem dX12_proves_26 : decode cX12_proves 26 = .ok (.iload_n 2, 1) := dc_28 (by decide +kernel)
theorem dX12_proves_27 : decode cX12_proves 27 = .ok (.bipush (-4), 2) := dc_16 (a := 252) (by decide +kernel) (by decide)
theorem dX12_proves_29 : decode cX12_proves 29 = .ok (.if_icmp .eq 29, 3) := dc_159 (a := 0) (b := 29) (by decide +kernel) (by decide)
theorem dX12_proves_32 : decode cX12_proves 32 = .ok (.aload_n 0, 1) := dc_42 (by decide +kernel)
theorem dX12_proves_33 : decode cX12_proves 33 = .ok (.getfield 183, 3) := dc_180 (a := 0) (b := 183) (by decide +kernel)
theorem dX12_proves_36 : decode cX12_proves 36 = .ok (.iload_n 1, 1) := dc_27 (by decide +kernel)
theorem dX12_proves_37 : decode cX12_proves 37 = .ok (.iaload, 1) := dc_46 (by decide +kernel)
theorem dX12_proves_38 : decode cX12_proves 38 = .ok (.ifCond .ne 20, 3) := dc_154 (a := 0) (b := 20) (by decide +kernel) (by decide)
theorem dX12_proves_41 : decode cX12_proves 41 = .ok (.aload_n 0, 1) := dc_42 (by decide +kernel)
theorem dX12_proves_42 : decode cX12_proves 42 = .ok (.getfield 183, 3) := dc_180 (a := 0) (b := 183) (by decide +kernel)
theorem dX12_proves_45 : decode cX12_proves 45 = .ok (.iload_n 2, 1) := dc_28 (by decide +kernel)
theorem dX12_proves_46 : decode cX12_proves 46 = .ok (.iaload, 1) := dc_46 (by decide +kernel)
theorem dX12_proves_47 : decode cX12_proves 47 = .ok (.aload_n 0, 1) := dc_42 (by decide +kernel)
theorem dX12_proves_48 : decode cX12_proves 48 = .ok (.getfield 463, 3) := dc_180 (a := 1) (b := 207) (by decide +kernel)
theorem dX12_proves_51 : decode cX12_proves 51 = .ok (.if_icmp .ne 7, 3) := dc_160 (a := 0) (b := 7) (by decide +kernel) (by decide)
theorem dX12_proves_54 : decode cX12_proves 54 = .ok (.iconst 1, 1) := dc_4 (by decide +kernel)
theorem dX12_proves_55 : decode cX12_proves 55 = .ok (.goto 4, 3) := dc_167 (a := 0) (b := 4) (by decide +kernel) (by decide)
theorem dX12_proves_58 : decode cX12_proves 58 = .ok (.iconst 0, 1) := dc_3 (by decide +kernel)
theorem dX12_proves_59 : decode cX12_proves 59 = .ok (.istore_n 3, 1) := dc_62 (by decide +kernel)
theorem dX12_proves_60 : decode cX12_proves 60 = .ok (.iconst 0, 1) := dc_3 (by decide +kernel)
theorem dX12_proves_61 : decode cX12_proves 61 = .ok (.istore 4, 2) := dc_54 (a := 4) (by decide +kernel)
theorem dX12_proves_63 : decode cX12_proves 63 = .ok (.iload 4, 2) := dc_21 (a := 4) (by decide +kernel)
theorem dX12_proves_65 : decode cX12_proves 65 = .ok (.sipush 25920, 3) := dc_17 (a := 101) (b := 64) (by decide +kernel) (by decide)
theorem dX12_proves_68 : decode cX12_proves 68 = .ok (.if_icmp .ge 152, 3) := dc_162 (a := 0) (b := 152) (by decide +kernel) (by decide)
theorem dX12_proves_71 : decode cX12_proves 71 = .ok (.iload_n 3, 1) := dc_29 (by decide +kernel)
theorem dX12_proves_72 : decode cX12_proves 72 = .ok (.ifCond .eq 148, 3) := dc_153 (a := 0) (b := 148) (by decide +kernel) (by decide)
theorem dX12_proves_75 : decode cX12_proves 75 = .ok (.aload_n 0, 1) := dc_42 (by decide +kernel)
theorem dX12_proves_76 : decode cX12_proves 76 = .ok (.getfield 183, 3) := dc_180 (a := 0) (b := 183) (by decide +kernel)
theorem dX12_proves_79 : decode cX12_proves 79 = .ok (.iload 4, 2) := dc_21 (a := 4) (by decide +kernel)
theorem dX12_proves_81 : decode cX12_proves 81 = .ok (.iaload, 1) := dc_46 (by decide +kernel)
theorem dX12_proves_82 : decode cX12_proves 82 = .ok (.ifCond .ge 6, 3) := dc_156 (a := 0) (b := 6) (by decide +kernel) (by decide)
theorem dX12_proves_85 : decode cX12_proves 85 = .ok (.goto 129, 3) := dc_167 (a := 0) (b := 129) (by decide +kernel) (by decide)
theorem dX12_proves_88 : decode cX12_proves 88 = .ok (.aload_n 0, 1) := dc_42 (by decide +kernel)
theorem dX12_proves_89 : decode cX12_proves 89 = .ok (.iload 4, 2) := dc_21 (a := 4) (by decide +kernel)
theorem dX12_proves_91 : decode cX12_proves 91 = .ok (.invokevirtual 479, 3) := dc_182 (a := 1) (b := 223) (by decide +kernel)
theorem dX12_proves_94 : decode cX12_proves 94 = .ok (.iconst 0, 1) := dc_3 (by decide +kernel)
theorem dX12_proves_95 : decode cX12_proves 95 = .ok (.istore 5, 2) := dc_54 (a := 5) (by decide +kernel)
theorem dX12_proves_97 : decode cX12_proves 97 = .ok (.iload 5, 2) := dc_21 (a := 5) (by decide +kernel)
theorem dX12_proves_99 : decode cX12_proves 99 = .ok (.bipush 80, 2) := dc_16 (a := 80) (by decide +kernel) (by decide)
theorem dX12_proves_101 : decode cX12_proves 101 = .ok (.if_icmp .ge 113, 3) := dc_162 (a := 0) (b := 113) (by decide +kernel) (by decide)
theorem dX12_proves_104 : decode cX12_proves 104 = .ok (.iload_n 3, 1) := dc_29 (by decide +kernel)
theorem dX12_proves_105 : decode cX12_proves 105 = .ok (.ifCond .eq 109, 3) := dc_153 (a := 0) (b := 109) (by decide +kernel) (by decide)
theorem dX12_proves_108 : decode cX12_proves 108 = .ok (.iload 5, 2) := dc_21 (a := 5) (by decide +kernel)
theorem dX12_proves_110 : decode cX12_proves 110 = .ok (.bipush 20, 2) := dc_16 (a := 20) (by decide +kernel) (by decide)
theorem dX12_proves_112 : decode cX12_proves 112 = .ok (.idiv, 1) := dc_108 (by decide +kernel)
theorem dX12_proves_113 : decode cX12_proves 113 = .ok (.istore 6, 2) := dc_54 (a := 6) (by decide +kernel)
theorem dX12_proves_115 : decode cX12_proves 115 = .ok (.iload 5, 2) := dc_21 (a := 5) (by decide +kernel)
theorem dX12_proves_117 : decode cX12_proves 117 = .ok (.iconst 5, 1) := dc_8 (by decide +kernel)
theorem dX12_proves_118 : decode cX12_proves 118 = .ok (.idiv, 1) := dc_108 (by decide +kernel)
theorem dX12_proves_119 : decode cX12_proves 119 = .ok (.iconst 4, 1) := dc_7 (by decide +kernel)
theorem dX12_proves_120 : decode cX12_proves 120 = .ok (.irem, 1) := dc_112 (by decide +kernel)
theorem dX12_proves_121 : decode cX12_proves 121 = .ok (.istore 7, 2) := dc_54 (a := 7) (by decide +kernel)
theorem dX12_proves_123 : decode cX12_proves 123 = .ok (.iload 5, 2) := dc_21 (a := 5) (by decide +kernel)
theorem dX12_proves_125 : decode cX12_proves 125 = .ok (.iconst 5, 1) := dc_8 (by decide +kernel)
theorem dX12_proves_126 : decode cX12_proves 126 = .ok (.irem, 1) := dc_112 (by decide +kernel)
theorem dX12_proves_127 : decode cX12_proves 127 = .ok (.iconst 1, 1) := dc_4 (by decide +kernel)
theorem dX12_proves_128 : decode cX12_proves 128 = .ok (.iadd, 1) := dc_96 (by decide +kernel)
theorem dX12_proves_129 : decode cX12_proves 129 = .ok (.istore 8, 2) := dc_54 (a := 8) (by decide +kernel)
theorem dX12_proves_131 : decode cX12_proves 131 = .ok (.aload_n 0, 1) := dc_42 (by decide +kernel)
theorem dX12_proves_132 : decode cX12_proves 132 = .ok (.iload 6, 2) := dc_21 (a := 6) (by decide +kernel)
theorem dX12_proves_134 : decode cX12_proves 134 = .ok (.iload 7, 2) := dc_21 (a := 7) (by decide +kernel)
theorem dX12_proves_136 : decode cX12_proves 136 = .ok (.iload 8, 2) := dc_21 (a := 8) (by decide +kernel)
theorem dX12_proves_138 : decode cX12_proves 138 = .ok (.invokevirtual 482, 3) := dc_182 (a := 1) (b := 226) (by decide +kernel)
theorem dX12_proves_141 : decode cX12_proves 141 = .ok (.ifCond .ne 6, 3) := dc_154 (a := 0) (b := 6) (by decide +kernel) (by decide)
theorem dX12_proves_144 : decode cX12_proves 144 = .ok (.goto 64, 3) := dc_167 (a := 0) (b := 64) (by decide +kernel) (by decide)
theorem dX12_proves_147 : decode cX12_proves 147 = .ok (.aload_n 0, 1) := dc_42 (by decide +kernel)
theorem dX12_proves_148 : decode cX12_proves 148 = .ok (.iload 6, 2) := dc_21 (a := 6) (by decide +kernel)
theorem dX12_proves_150 : decode cX12_proves 150 = .ok (.iload 7, 2) := dc_21 (a := 7) (by decide +kernel)
theorem dX12_proves_152 : decode cX12_proves 152 = .ok (.iload 8, 2) := dc_21 (a := 8) (by decide +kernel)
theorem dX12_proves_154 : decode cX12_proves 154 = .ok (.invokevirtual 485, 3) := dc_182 (a := 1) (b := 229) (by decide +kernel)
theorem dX12_proves_157 : decode cX12_proves 157 = .ok (.aload_n 0, 1) := dc_42 (by decide +kernel)
theorem dX12_proves_158 : decode cX12_proves 158 = .ok (.invokevirtual 476, 3) := dc_182 (a := 1) (b := 220) (by decide +kernel)
theorem dX12_proves_161 : decode cX12_proves 161 = .ok (.istore 9, 2) := dc_54 (a := 9) (by decide +kernel)
theorem dX12_proves_163 : decode cX12_proves 163 = .ok (.aload_n 0, 1) := dc_42 (by decide +kernel)
theorem dX12_proves_164 : decode cX12_proves 164 = .ok (.iload 7, 2) := dc_21 (a := 7) (by decide +kernel)
theorem dX12_proves_166 : decode cX12_proves 166 = .ok (.iload 6, 2) := dc_21 (a := 6) (by decide +kernel)
theorem dX12_proves_168 : decode cX12_proves 168 = .ok (.iload 8, 2) := dc_21 (a := 8) (by decide +kernel)
theorem dX12_proves_170 : decode cX12_proves 170 = .ok (.invokevirtual 485, 3) := dc_182 (a := 1) (b := 229) (by decide +kernel)
theorem dX12_proves_173 : decode cX12_proves 173 = .ok (.aload_n 0, 1) := dc_42 (by decide +kernel)
theorem dX12_proves_174 : decode cX12_proves 174 = .ok (.getfield 183, 3) := dc_180 (a := 0) (b := 183) (by decide +kernel)
theorem dX12_proves_177 : decode cX12_proves 177 = .ok (.iload 9, 2) := dc_21 (a := 9) (by decide +kernel)
theorem dX12_proves_179 : decode cX12_proves 179 = .ok (.iaload, 1) := dc_46 (by decide +kernel)
theorem dX12_proves_180 : decode cX12_proves 180 = .ok (.ifCond .lt 26, 3) := dc_155 (a := 0) (b := 26) (by decide +kernel) (by decide)
theorem dX12_proves_183 : decode cX12_proves 183 = .ok (.aload_n 0, 1) := dc_42 (by decide +kernel)
theorem dX12_proves_184 : decode cX12_proves 184 = .ok (.getfield 183, 3) := dc_180 (a := 0) (b := 183) (by decide +kernel)
theorem dX12_proves_187 : decode cX12_proves 187 = .ok (.iload 9, 2) := dc_21 (a := 9) (by decide +kernel)
theorem dX12_proves_189 : decode cX12_proves 189 = .ok (.iaload, 1) := dc_46 (by decide +kernel)
theorem dX12_proves_190 : decode cX12_proves 190 = .ok (.aload_n 0, 1) := dc_42 (by decide +kernel)
theorem dX12_proves_191 : decode cX12_proves 191 = .ok (.getfield 183, 3) := dc_180 (a := 0) (b := 183) (by decide +kernel)
theorem dX12_proves_194 : decode cX12_proves 194 = .ok (.iload 4, 2) := dc_21 (a := 4) (by decide +kernel)
theorem dX12_proves_196 : decode cX12_proves 196 = .ok (.iaload, 1) := dc_46 (by decide +kernel)
theorem dX12_proves_197 : decode cX12_proves 197 = .ok (.iconst 1, 1) := dc_4 (by decide +kernel)
theorem dX12_proves_198 : decode cX12_proves 198 = .ok (.isub, 1) := dc_100 (by decide +kernel)
theorem dX12_proves_199 : decode cX12_proves 199 = .ok (.if_icmp .lt 7, 3) := dc_161 (a := 0) (b := 7) (by decide +kernel) (by decide)
theorem dX12_proves_202 : decode cX12_proves 202 = .ok (.iconst 1, 1) := dc_4 (by decide +kernel)
theorem dX12_proves_203 : decode cX12_proves 203 = .ok (.goto 4, 3) := dc_167 (a := 0) (b := 4) (by decide +kernel) (by decide)
theorem dX12_proves_206 : decode cX12_proves 206 = .ok (.iconst 0, 1) := dc_3 (by decide +kernel)
theorem dX12_proves_207 : decode cX12_proves 207 = .ok (.istore_n 3, 1) := dc_62 (by decide +kernel)
theorem dX12_proves_208 : decode cX12_proves 208 = .ok (.iinc 5 1, 3) := dc_132 (a := 5) (b := 1) (by decide +kernel) (by decide)
theorem dX12_proves_211 : decode cX12_proves 211 = .ok (.goto (-114), 3) := dc_167 (a := 255) (b := 142) (by decide +kernel) (by decide)
theorem dX12_proves_214 : decode cX12_proves 214 = .ok (.iinc 4 1, 3) := dc_132 (a := 4) (b := 1) (by decide +kernel) (by decide)
theorem dX12_proves_217 : decode cX12_proves 217 = .ok (.goto (-154), 3) := dc_167 (a := 255) (b := 102) (by decide +kernel) (by decide)
theorem dX12_proves_220 : decode cX12_proves 220 = .ok (.iload_n 3, 1) := dc_29 (by decide +kernel)
theorem dX12_proves_221 : decode cX12_proves 221 = .ok (.ireturn, 1) := dc_172 (by decide +kernel)
set_option maxRecDepth 100000 in
set_option maxHeartbeats 4000000 in
theorem w_M_proves_j214 {p : Program} {l : Launch} {e : Env} {R : Room} {s : State} {m : MethodId} {args : Array Value} {below : List Frame} {meth : Method} {c : Code} {dC : Nat → ClassId} {dI : Nat → Nat → Nat} {cs : Nat → ClassId} {ad : Nat → Nat} {A : Nat → Prop} {D0 : Nat → Nat} {S' : SS} {r : Int32} (F : Fx p s m args meth c cX12_proves 10 RX12 (some .boolean) dC dI cs A) (hR1 : 0 ≤ R.frames) (hR2 : 0 ≤ R.locals) (K63 : Int32 → Int32 → SS → Option (Int32 × SS)) (hK63 : ∀ (v0 : Int32) (v1 : Int32) (S : SS), K63 v0 v1 S = some (r, S') → AW p l e R s m args below meth c dC dI cs ad A D0 (some (.int r)) S' 10 63 [(0, .ref (ad 0)), (3, .int v0), (4, .int v1)] [] S) (x3 : Int32) (x4 : Int32) (S : SS) (h : f_M_proves_j214 K63 x3 x4 S = some (r, S')) : AW p l e R s m args below meth c dC dI cs ad A D0 (some (.int r)) S' 10 214 [(0, .ref (ad 0)), (3, .int x3), (4, .int x4)] [] S := by
  have hx := F.1.1
  have hb := F.1.2.1
  intro H locs ls w hl
  rw [f_M_proves_j214] at h
  refine s_nm h (fun z8 ez8 h => ?_)
  refine lv_iinc (pc := 214) (v := z8) (lv' := [(4, .int z8), (0, .ref (ad 0)), (3, .int x3)]) hx hb dX12_proves_214 hl (k := 2) rfl (by rw [ez8]; rfl) (by decide) rfl (fun ls hl => ?_)
  refine lv_goto (pc := 217) (tgt := 63) hx hb dX12_proves_217 (by decide) ?_
  exact hK63 _ _ _ h _ _ _ w (lv_sub hl [1, 2, 0] rfl)
set_option maxRecDepth 100000 in
set_option maxHeartbeats 4000000 in
theorem w_M_proves_j208 {p : Program} {l : Launch} {e : Env} {R : Room} {s : State} {m : MethodId} {args : Array Value} {below : List Frame} {meth : Method} {c : Code} {dC : Nat → ClassId} {dI : Nat → Nat → Nat} {cs : Nat → ClassId} {ad : Nat → Nat} {A : Nat → Prop} {D0 : Nat → Nat} {S' : SS} {r : Int32} (F : Fx p s m args meth c cX12_proves 10 RX12 (some .boolean) dC dI cs A) (hR1 : 0 ≤ R.frames) (hR2 : 0 ≤ R.locals) (K97 : Int32 → Int32 → Int32 → SS → Option (Int32 × SS)) (hK97 : ∀ (v0 : Int32) (v1 : Int32) (v2 : Int32) (S : SS), K97 v0 v1 v2 S = some (r, S') → AW p l e R s m args below meth c dC dI cs ad A D0 (some (.int r)) S' 10 97 [(0, .ref (ad 0)), (3, .int v0), (4, .int v1), (5, .int v2)] [] S) (x3 : Int32) (x4 : Int32) (x5 : Int32) (S : SS) (h : f_M_proves_j208 K97 x3 x4 x5 S = some (r, S')) : AW p l e R s m args below meth c dC dI cs ad A D0 (some (.int r)) S' 10 208 [(0, .ref (ad 0)), (3, .int x3), (4, .int x4), (5, .int x5)] [] S := by
  have hx := F.1.1
  have hb := F.1.2.1
  intro H locs ls w hl
  rw [f_M_proves_j208] at h
  refine s_nm h (fun z18 ez18 h => ?_)
  refine lv_iinc (pc := 208) (v := z18) (lv' := [(5, .int z18), (0, .ref (ad 0)), (3, .int x3), (4, .int x4)]) hx hb dX12_proves_208 hl (k := 3) rfl (by rw [ez18]; rfl) (by decide) rfl (fun ls hl => ?_)
  refine lv_goto (pc := 211) (tgt := 97) hx hb dX12_proves_211 (by decide) ?_
  exact hK97 _ _ _ _ h _ _ _ w (lv_sub hl [1, 2, 3, 0] rfl)
set_option maxRecDepth 100000 in
set_option maxHeartbeats 4000000 in
theorem w_M_proves_j207 {p : Program} {l : Launch} {e : Env} {R : Room} {s : State} {m : MethodId} {args : Array Value} {below : List Frame} {meth : Method} {c : Code} {dC : Nat → ClassId} {dI : Nat → Nat → Nat} {cs : Nat → ClassId} {ad : Nat → Nat} {A : Nat → Prop} {D0 : Nat → Nat} {S' : SS} {r : Int32} (F : Fx p s m args meth c cX12_proves 10 RX12 (some .boolean) dC dI cs A) (hR1 : 0 ≤ R.frames) (hR2 : 0 ≤ R.locals) (K97 : Int32 → Int32 → Int32 → SS → Option (Int32 × SS)) (hK97 : ∀ (v0 : Int32) (v1 : Int32) (v2 : Int32) (S : SS), K97 v0 v1 v2 S = some (r, S') → AW p l e R s m args below meth c dC dI cs ad A D0 (some (.int r)) S' 10 97 [(0, .ref (ad 0)), (3, .int v0), (4, .int v1), (5, .int v2)] [] S) (x4 : Int32) (x5 : Int32) (y0 : Int32) (S : SS) (h : f_M_proves_j207 K97 x4 x5 y0 S = some (r, S')) : AW p l e R s m args below meth c dC dI cs ad A D0 (some (.int r)) S' 10 207 [(0, .ref (ad 0)), (4, .int x4), (5, .int x5)] [.int y0] S := by
  have hx := F.1.1
  have hb := F.1.2.1
  intro H locs ls w hl
  rw [f_M_proves_j207] at h
  refine lv_istore_n (pc := 207) (lv' := [(3, .int y0), (0, .ref (ad 0)), (4, .int x4), (5, .int x5)]) hx hb dX12_proves_207 rfl hl (by decide) rfl (fun ls hl => ?_)
  exact w_M_proves_j208 F (Nat.le_trans (by decide) hR1) (Nat.le_trans (by decide) hR2) _ hK97 _ _ _ _ h _ _ _ w (lv_sub hl [1, 0, 2, 3] rfl)
set_option maxRecDepth 100000 in
set_option maxHeartbeats 4000000 in
theorem w_M_proves_j206 {p : Program} {l : Launch} {e : Env} {R : Room} {s : State} {m : MethodId} {args : Array Value} {below : List Frame} {meth : Method} {c : Code} {dC : Nat → ClassId} {dI : Nat → Nat → Nat} {cs : Nat → ClassId} {ad : Nat → Nat} {A : Nat → Prop} {D0 : Nat → Nat} {S' : SS} {r : Int32} (F : Fx p s m args meth c cX12_proves 10 RX12 (some .boolean) dC dI cs A) (hR1 : 0 ≤ R.frames) (hR2 : 0 ≤ R.locals) (K97 : Int32 → Int32 → Int32 → SS → Option (Int32 × SS)) (hK97 : ∀ (v0 : Int32) (v1 : Int32) (v2 : Int32) (S : SS), K97 v0 v1 v2 S = some (r, S') → AW p l e R s m args below meth c dC dI cs ad A D0 (some (.int r)) S' 10 97 [(0, .ref (ad 0)), (3, .int v0), (4, .int v1), (5, .int v2)] [] S) (x4 : Int32) (x5 : Int32) (S : SS) (h : f_M_proves_j206 K97 x4 x5 S = some (r, S')) : AW p l e R s m args below meth c dC dI cs ad A D0 (some (.int r)) S' 10 206 [(0, .ref (ad 0)), (4, .int x4), (5, .int x5)] [] S := by
  have hx := F.1.1
  have hb := F.1.2.1
  intro H locs ls w hl
  rw [f_M_proves_j206] at h
  refine lv_iconst (pc := 206) (v := 0) hx hb dX12_proves_206 (by decide) ?_
  exact w_M_proves_j207 F (Nat.le_trans (by decide) hR1) (Nat.le_trans (by decide) hR2) _ hK97 _ _ _ _ h _ _ _ w (lv_sub hl [0, 1, 2] rfl)
set_option maxRecDepth 100000 in
set_option maxHeartbeats 4000000 in
theorem w_M_proves_L97 {p : Program} {l : Launch} {e : Env} {R : Room} {s : State} {m : MethodId} {args : Array Value} {below : List Frame} {meth : Method} {c : Code} {dC : Nat → ClassId} {dI : Nat → Nat → Nat} {cs : Nat → ClassId} {ad : Nat → Nat} {A : Nat → Prop} {D0 : Nat → Nat} {S' : SS} {r : Int32} (F : Fx p s m args meth c cX12_proves 10 RX12 (some .boolean) dC dI cs A) (hR1 : 2 ≤ R.frames) (hR2 : 47 ≤ R.locals) (K63 : Int32 → Int32 → SS → Option (Int32 × SS)) (hK63 : ∀ (v0 : Int32) (v1 : Int32) (S : SS), K63 v0 v1 S = some (r, S') → AW p l e R s m args below meth c dC dI cs ad A D0 (some (.int r)) S' 10 63 [(0, .ref (ad 0)), (3, .int v0), (4, .int v1)] [] S) : ∀ (n : Nat) (x3 : Int32) (x4 : Int32) (x5 : Int32) (S : SS), f_M_proves_L97 K63 n x3 x4 x5 S = some (r, S') → AW p l e R s m args below meth c dC dI cs ad A D0 (some (.int r)) S' 10 97 [(0, .ref (ad 0)), (3, .int x3), (4, .int x4), (5, .int x5)] [] S := by
  have hx := F.1.1
  have hb := F.1.2.1
  intro n
  induction n with
  | zero => intro x3 x4 x5 S h; cases h
  | succ n ih =>
    intro x3 x4 x5 S h H locs ls w hl
    rw [f_M_proves_L97] at h
    refine lv_iload (pc := 97) hx hb dX12_proves_97 (lv_at hl 3 rfl) ?_
    refine lv_bipush (pc := 99) (v := 80) hx hb dX12_proves_99 (by decide) ?_
    refine lv_icmp_ge (pc := 101) (tgt := 214) hx hb dX12_proves_101 (by decide) (fun q => ?_) (fun q => ?_)
    · have h := ite_t q h
      exact w_M_proves_j214 F (Nat.le_trans (by decide) hR1) (Nat.le_trans (by decide) hR2) _ hK63 _ _ _ h _ _ _ w (lv_sub hl [0, 1, 2] rfl)
    · have h := ite_f q h
      refine lv_iload_n (pc := 104) hx hb dX12_proves_104 rfl (lv_at hl 1 rfl) ?_
      refine lv_if_eq (pc := 105) (tgt := 214) hx hb dX12_proves_105 (by decide) (fun q => ?_) (fun q => ?_)
      · have h := ite_t q h
        exact w_M_proves_j214 F (Nat.le_trans (by decide) hR1) (Nat.le_trans (by decide) hR2) _ hK63 _ _ _ h _ _ _ w (lv_sub hl [0, 1, 2] rfl)
      · have h := ite_f q h
        refine lv_iload (pc := 108) hx hb dX12_proves_108 (lv_at hl 3 rfl) ?_
        refine lv_bipush (pc := 110) (v := 20) hx hb dX12_proves_110 (by decide) ?_
        refine lv_idiv (pc := 112) hx hb dX12_proves_112 (by decide) ?_
        refine s_nm h (fun z9 ez9 h => ?_)
        rw [← ez9]
        refine lv_istore (pc := 113) (lv' := [(6, .int z9), (0, .ref (ad 0)), (3, .int x3), (4, .int x4), (5, .int x5)]) hx hb dX12_proves_113 hl (by decide) rfl (fun ls hl => ?_)
        refine lv_iload (pc := 115) hx hb dX12_proves_115 (lv_at hl 4 rfl) ?_
        refine lv_iconst (pc := 117) (v := 5) hx hb dX12_proves_117 (by decide) ?_
        refine lv_idiv (pc := 118) hx hb dX12_proves_118 (by decide) ?_
        refine lv_iconst (pc := 119) (v := 4) hx hb dX12_proves_119 (by decide) ?_
        refine lv_irem (pc := 120) hx hb dX12_proves_120 (by decide) ?_
        refine s_nm h (fun z10 ez10 h => ?_)
        rw [← ez10]
        refine lv_istore (pc := 121) (lv' := [(7, .int z10), (6, .int z9), (0, .ref (ad 0)), (3, .int x3), (4, .int x4), (5, .int x5)]) hx hb dX12_proves_121 hl (by decide) rfl (fun ls hl => ?_)
        refine lv_iload (pc := 123) hx hb dX12_proves_123 (lv_at hl 5 rfl) ?_
        refine lv_iconst (pc := 125) (v := 5) hx hb dX12_proves_125 (by decide) ?_
        refine lv_irem (pc := 126) hx hb dX12_proves_126 (by decide) ?_
        refine lv_iconst (pc := 127) (v := 1) hx hb dX12_proves_127 (by decide) ?_
        refine lv_iadd (pc := 128) hx hb dX12_proves_128 ?_
        refine s_nm h (fun z11 ez11 h => ?_)
        rw [← ez11]
        refine lv_istore (pc := 129) (lv' := [(8, .int z11), (7, .int z10), (6, .int z9), (0, .ref (ad 0)), (3, .int x3), (4, .int x4), (5, .int x5)]) hx hb dX12_proves_129 hl (by decide) rfl (fun ls hl => ?_)
        refine lv_aload_n (pc := 131) hx hb dX12_proves_131 rfl (lv_at hl 3 rfl) ?_
        refine lv_iload (pc := 132) hx hb dX12_proves_132 (lv_at hl 2 rfl) ?_
        refine lv_iload (pc := 134) hx hb dX12_proves_134 (lv_at hl 1 rfl) ?_
        refine lv_iload (pc := 136) hx hb dX12_proves_136 (lv_at hl 0 rfl) ?_
        obtain ⟨r13, S12, hc, h⟩ := bnd_t h
        refine s_cvi (pc := 138) [.int z9, .int z10, .int z11] (fun ad => [.ref (ad 0), .int z9, .int z10, .int z11]) F w (m_M_mayMove _ _ _ _ _ _ hc) rfl rfl hl.1 ds_0 vc_X12 rfl ok_X12_mayMove rfl kc_X12_mayMove kl_X12_482 ki_X12_mayMove kv_X12_mayMove kn_X12 ⟨Nat.le_trans (by decide) hR1, Nat.le_trans (by decide) hR2⟩ ⟨Nat.zero_le _, Nat.zero_le _⟩ (Nat.le_of_ble_eq_true rfl) dX12_proves_138 (fun H locs w => ?_)
        refine lv_if_ne (pc := 141) (tgt := 147) hx hb dX12_proves_141 (by decide) (fun q => ?_) (fun q => ?_)
        · have h := ite_f q h
          refine lv_aload_n (pc := 147) hx hb dX12_proves_147 rfl (lv_at hl 3 rfl) ?_
          refine lv_iload (pc := 148) hx hb dX12_proves_148 (lv_at hl 2 rfl) ?_
          refine lv_iload (pc := 150) hx hb dX12_proves_150 (lv_at hl 1 rfl) ?_
          refine lv_iload (pc := 152) hx hb dX12_proves_152 (lv_at hl 0 rfl) ?_
          obtain ⟨S14, hc, h⟩ := bndv_t h
          refine s_cvv (pc := 154) [.int z9, .int z10, .int z11] (fun ad => [.ref (ad 0), .int z9, .int z10, .int z11]) F w (m_M_shift _ _ _ _ _ hc) rfl rfl hl.1 ds_0 vc_X12 rfl ok_X12_shift rfl kc_X12_shift kl_X12_485 ki_X12_shift kv_X12_shift kn_X12 ⟨Nat.le_trans (by decide) hR1, Nat.le_trans (by decide) hR2⟩ ⟨Nat.zero_le _, Nat.zero_le _⟩ (Nat.le_of_ble_eq_true rfl) dX12_proves_154 (fun H locs w => ?_)
          refine lv_aload_n (pc := 157) hx hb dX12_proves_157 rfl (lv_at hl 3 rfl) ?_
          obtain ⟨r16, S15, hc, h⟩ := bnd_t h
          refine s_cvi (pc := 158) [] (fun ad => [.ref (ad 0)]) F w (m_M_code  _ _ _ hc) rfl rfl hl.1 ds_0 vc_X12 rfl ok_X12_code rfl kc_X12_code kl_X12_476 ki_X12_code kv_X12_code kn_X12 ⟨Nat.le_trans (by decide) hR1, Nat.le_trans (by decide) hR2⟩ ⟨Nat.zero_le _, Nat.zero_le _⟩ (Nat.le_of_ble_eq_true rfl) dX12_proves_158 (fun H locs w => ?_)
          refine lv_istore (pc := 161) (lv' := [(9, .int r16), (8, .int z11), (7, .int z10), (6, .int z9), (0, .ref (ad 0)), (3, .int x3), (4, .int x4), (5, .int x5)]) hx hb dX12_proves_161 hl (by decide) rfl (fun ls hl => ?_)
          refine lv_aload_n (pc := 163) hx hb dX12_proves_163 rfl (lv_at hl 4 rfl) ?_
          refine lv_iload (pc := 164) hx hb dX12_proves_164 (lv_at hl 2 rfl) ?_
          refine lv_iload (pc := 166) hx hb dX12_proves_166 (lv_at hl 3 rfl) ?_
          refine lv_iload (pc := 168) hx hb dX12_proves_168 (lv_at hl 1 rfl) ?_
          obtain ⟨S17, hc, h⟩ := bndv_t h
          refine s_cvv (pc := 170) [.int z10, .int z9, .int z11] (fun ad => [.ref (ad 0), .int z10, .int z9, .int z11]) F w (m_M_shift _ _ _ _ _ hc) rfl rfl hl.1 ds_0 vc_X12 rfl ok_X12_shift rfl kc_X12_shift kl_X12_485 ki_X12_shift kv_X12_shift kn_X12 ⟨Nat.le_trans (by decide) hR1, Nat.le_trans (by decide) hR2⟩ ⟨Nat.zero_le _, Nat.zero_le _⟩ (Nat.le_of_ble_eq_true rfl) dX12_proves_170 (fun H locs w => ?_)
          refine lv_aload_n (pc := 173) hx hb dX12_proves_173 rfl (lv_at hl 4 rfl) ?_
          refine s_getR (pc := 174) F w 55 ds_0 (j := 83) vc_X12 vi_X12 rfl (by decide) kf_X12_183 dX12_proves_174 ?_
          refine lv_iload (pc := 177) hx hb dX12_proves_177 (lv_at hl 0 rfl) ?_
          refine s_iald (pc := 179) F w ds_55 h dX12_proves_179 (fun h => ?_)
          refine lv_if_lt (pc := 180) (tgt := 206) hx hb dX12_proves_180 (by decide) (fun q => ?_) (fun q => ?_)
          · have h := ite_t q h
            exact w_M_proves_j206 F (Nat.le_trans (by decide) hR1) (Nat.le_trans (by decide) hR2) _ (fun v0 v1 v2 S h => ih v0 v1 v2 S h) _ _ _ h _ _ _ w (lv_sub hl [4, 6, 7] rfl)
          · have h := ite_f q h
            refine lv_aload_n (pc := 183) hx hb dX12_proves_183 rfl (lv_at hl 4 rfl) ?_
            refine s_getR (pc := 184) F w 55 ds_0 (j := 83) vc_X12 vi_X12 rfl (by decide) kf_X12_183 dX12_proves_184 ?_
            refine lv_iload (pc := 187) hx hb dX12_proves_187 (lv_at hl 0 rfl) ?_
            refine s_iald (pc := 189) F w ds_55 h dX12_proves_189 (fun h => ?_)
            refine lv_aload_n (pc := 190) hx hb dX12_proves_190 rfl (lv_at hl 4 rfl) ?_
            refine s_getR (pc := 191) F w 55 ds_0 (j := 83) vc_X12 vi_X12 rfl (by decide) kf_X12_183 dX12_proves_191 ?_
            refine lv_iload (pc := 194) hx hb dX12_proves_194 (lv_at hl 6 rfl) ?_
            refine s_iald (pc := 196) F w ds_55 h dX12_proves_196 (fun h => ?_)
            refine lv_iconst (pc := 197) (v := 1) hx hb dX12_proves_197 (by decide) ?_
            refine lv_isub (pc := 198) hx hb dX12_proves_198 ?_
            refine lv_icmp_lt (pc := 199) (tgt := 206) hx hb dX12_proves_199 (by decide) (fun q => ?_) (fun q => ?_)
            · have h := ite_t q h
              exact w_M_proves_j206 F (Nat.le_trans (by decide) hR1) (Nat.le_trans (by decide) hR2) _ (fun v0 v1 v2 S h => ih v0 v1 v2 S h) _ _ _ h _ _ _ w (lv_sub hl [4, 6, 7] rfl)
            · have h := ite_f q h
              refine lv_iconst (pc := 202) (v := 1) hx hb dX12_proves_202 (by decide) ?_
              refine lv_goto (pc := 203) (tgt := 207) hx hb dX12_proves_203 (by decide) ?_
              exact w_M_proves_j207 F (Nat.le_trans (by decide) hR1) (Nat.le_trans (by decide) hR2) _ (fun v0 v1 v2 S h => ih v0 v1 v2 S h) _ _ _ _ h _ _ _ w (lv_sub hl [4, 6, 7] rfl)
        · have h := ite_t q h
          refine lv_goto (pc := 144) (tgt := 208) hx hb dX12_proves_144 (by decide) ?_
          exact w_M_proves_j208 F (Nat.le_trans (by decide) hR1) (Nat.le_trans (by decide) hR2) _ (fun v0 v1 v2 S h => ih v0 v1 v2 S h) _ _ _ _ h _ _ _ w (lv_sub hl [3, 4, 5, 6] rfl)
set_option maxRecDepth 100000 in
set_option maxHeartbeats 4000000 in
theorem w_M_proves_L63 {p : Program} {l : Launch} {e : Env} {R : Room} {s : State} {m : MethodId} {args : Array Value} {below : List Frame} {meth : Method} {c : Code} {dC : Nat → ClassId} {dI : Nat → Nat → Nat} {cs : Nat → ClassId} {ad : Nat → Nat} {A : Nat → Prop} {D0 : Nat → Nat} {S' : SS} {r : Int32} (F : Fx p s m args meth c cX12_proves 10 RX12 (some .boolean) dC dI cs A) (hR1 : 2 ≤ R.frames) (hR2 : 47 ≤ R.locals) : ∀ (n : Nat) (x3 : Int32) (x4 : Int32) (S : SS), f_M_proves_L63 n x3 x4 S = some (r, S') → AW p l e R s m args below meth c dC dI cs ad A D0 (some (.int r)) S' 10 63 [(0, .ref (ad 0)), (3, .int x3), (4, .int x4)] [] S := by
  have hx := F.1.1
  have hb := F.1.2.1
  intro n
  induction n with
  | zero => intro x3 x4 S h; cases h
  | succ n ih =>
    intro x3 x4 S h H locs ls w hl
    rw [f_M_proves_L63] at h
    refine lv_iload (pc := 63) hx hb dX12_proves_63 (lv_at hl 2 rfl) ?_
    refine lv_sipush (pc := 65) (v := 25920) hx hb dX12_proves_65 (by decide) ?_
    refine lv_icmp_ge (pc := 68) (tgt := 220) hx hb dX12_proves_68 (by decide) (fun q => ?_) (fun q => ?_)
    · have h := ite_t q h
      refine lv_iload_n (pc := 220) hx hb dX12_proves_220 rfl (lv_at hl 1 rfl) ?_
      exact s_zret F w h dX12_proves_221
    · have h := ite_f q h
      refine lv_iload_n (pc := 71) hx hb dX12_proves_71 rfl (lv_at hl 1 rfl) ?_
      refine lv_if_eq (pc := 72) (tgt := 220) hx hb dX12_proves_72 (by decide) (fun q => ?_) (fun q => ?_)
      · have h := ite_t q h
        refine lv_iload_n (pc := 220) hx hb dX12_proves_220 rfl (lv_at hl 1 rfl) ?_
        exact s_zret F w h dX12_proves_221
      · have h := ite_f q h
        refine lv_aload_n (pc := 75) hx hb dX12_proves_75 rfl (lv_at hl 0 rfl) ?_
        refine s_getR (pc := 76) F w 55 ds_0 (j := 83) vc_X12 vi_X12 rfl (by decide) kf_X12_183 dX12_proves_76 ?_
        refine lv_iload (pc := 79) hx hb dX12_proves_79 (lv_at hl 2 rfl) ?_
        refine s_iald (pc := 81) F w ds_55 h dX12_proves_81 (fun h => ?_)
        refine lv_if_ge (pc := 82) (tgt := 88) hx hb dX12_proves_82 (by decide) (fun q => ?_) (fun q => ?_)
        · have h := ite_t q h
          refine lv_aload_n (pc := 88) hx hb dX12_proves_88 rfl (lv_at hl 0 rfl) ?_
          refine lv_iload (pc := 89) hx hb dX12_proves_89 (lv_at hl 2 rfl) ?_
          obtain ⟨S7, hc, h⟩ := bndv_t h
          refine s_cvv (pc := 91) [.int x4] (fun ad => [.ref (ad 0), .int x4]) F w (m_M_decode _ _ _ hc) rfl rfl hl.1 ds_0 vc_X12 rfl ok_X12_decode rfl kc_X12_decode kl_X12_479 ki_X12_decode kv_X12_decode kn_X12 ⟨Nat.le_trans (by decide) hR1, Nat.le_trans (by decide) hR2⟩ ⟨Nat.zero_le _, Nat.zero_le _⟩ (Nat.le_of_ble_eq_true rfl) dX12_proves_91 (fun H locs w => ?_)
          refine lv_iconst (pc := 94) (v := 0) hx hb dX12_proves_94 (by decide) ?_
          refine lv_istore (pc := 95) (lv' := [(5, .int (0 : Int32)), (0, .ref (ad 0)), (3, .int x3), (4, .int x4)]) hx hb dX12_proves_95 hl (by decide) rfl (fun ls hl => ?_)
          exact w_M_proves_L97 F (Nat.le_trans (by decide) hR1) (Nat.le_trans (by decide) hR2) _ (fun v0 v1 S h => ih v0 v1 S h) _ _ _ _ _ h _ _ _ w (lv_sub hl [1, 2, 3, 0] rfl)
        · have h := ite_f q h
          refine lv_goto (pc := 85) (tgt := 214) hx hb dX12_proves_85 (by decide) ?_
          exact w_M_proves_j214 F (Nat.le_trans (by decide) hR1) (Nat.le_trans (by decide) hR2) _ (fun v0 v1 S h => ih v0 v1 S h) _ _ _ h _ _ _ w (lv_sub hl [0, 1, 2] rfl)
set_option maxRecDepth 100000 in
set_option maxHeartbeats 4000000 in
theorem w_M_proves_j59 {p : Program} {l : Launch} {e : Env} {R : Room} {s : State} {m : MethodId} {args : Array Value} {below : List Frame} {meth : Method} {c : Code} {dC : Nat → ClassId} {dI : Nat → Nat → Nat} {cs : Nat → ClassId} {ad : Nat → Nat} {A : Nat → Prop} {D0 : Nat → Nat} {S' : SS} {r : Int32} (F : Fx p s m args meth c cX12_proves 10 RX12 (some .boolean) dC dI cs A) (hR1 : 2 ≤ R.frames) (hR2 : 47 ≤ R.locals) (y0 : Int32) (S : SS) (h : f_M_proves_j59 y0 S = some (r, S')) : AW p l e R s m args below meth c dC dI cs ad A D0 (some (.int r)) S' 10 59 [(0, .ref (ad 0))] [.int y0] S := by
  have hx := F.1.1
  have hb := F.1.2.1
  intro H locs ls w hl
  rw [f_M_proves_j59] at h
  refine lv_istore_n (pc := 59) (lv' := [(3, .int y0), (0, .ref (ad 0))]) hx hb dX12_proves_59 rfl hl (by decide) rfl (fun ls hl => ?_)
  refine lv_iconst (pc := 60) (v := 0) hx hb dX12_proves_60 (by decide) ?_
  refine lv_istore (pc := 61) (lv' := [(4, .int (0 : Int32)), (3, .int y0), (0, .ref (ad 0))]) hx hb dX12_proves_61 hl (by decide) rfl (fun ls hl => ?_)
  exact w_M_proves_L63 F (Nat.le_trans (by decide) hR1) (Nat.le_trans (by decide) hR2) _ _ _ _ h _ _ _ w (lv_sub hl [2, 1, 0] rfl)
set_option maxRecDepth 100000 in
set_option maxHeartbeats 4000000 in
theorem w_M_proves_j58 {p : Program} {l : Launch} {e : Env} {R : Room} {s : State} {m : MethodId} {args : Array Value} {below : List Frame} {meth : Method} {c : Code} {dC : Nat → ClassId} {dI : Nat → Nat → Nat} {cs : Nat → ClassId} {ad : Nat → Nat} {A : Nat → Prop} {D0 : Nat → Nat} {S' : SS} {r : Int32} (F : Fx p s m args meth c cX12_proves 10 RX12 (some .boolean) dC dI cs A) (hR1 : 2 ≤ R.frames) (hR2 : 47 ≤ R.locals)  (S : SS) (h : f_M_proves_j58  S = some (r, S')) : AW p l e R s m args below meth c dC dI cs ad A D0 (some (.int r)) S' 10 58 [(0, .ref (ad 0))] [] S := by
  have hx := F.1.1
  have hb := F.1.2.1
  intro H locs ls w hl
  rw [f_M_proves_j58] at h
  refine lv_iconst (pc := 58) (v := 0) hx hb dX12_proves_58 (by decide) ?_
  exact w_M_proves_j59 F (Nat.le_trans (by decide) hR1) (Nat.le_trans (by decide) hR2) _ _ h _ _ _ w (lv_sub hl [0] rfl)
set_option maxRecDepth 100000 in
set_option maxHeartbeats 4000000 in
theorem m_M_proves  (S S' : SS) (r : Int32) (h : f_M_proves  S = some (r, S')) : MT yX12_proves cX12_proves 10 (some .boolean) 2 47 (fun ad => [.ref (ad 0)]) S (some (.int r)) S' := by
  refine MT.of RX12 (fun ad => [(0, .ref (ad 0))]) (by decide) rfl (fun _ => Nat.le_of_ble_eq_true rfl) (fun _ => rfl) ?_
  intro p l e R s m args below meth c dC dI cs ad A hR1 hR2 F H locs ls w hl
  have hx := F.1.1
  have hb := F.1.2.1
  rw [f_M_proves] at h
  refine lv_aload_n (pc := 0) hx hb dX12_proves_0 rfl (lv_at hl 0 rfl) ?_
  refine lv_iconst (pc := 1) (v := 1) hx hb dX12_proves_1 (by decide) ?_
  obtain ⟨S1, hc, h⟩ := bndv_t h
  refine s_cvv (pc := 2) [.int (1 : Int32)] (fun ad => [.ref (ad 0), .int (1 : Int32)]) F w (m_M_take _ _ _ hc) rfl rfl hl.1 ds_0 vc_X12 rfl ok_X12_take rfl kc_X12_take kl_X12_472 ki_X12_take kv_X12_take kn_X12 ⟨Nat.le_trans (by decide) hR1, Nat.le_trans (by decide) hR2⟩ ⟨Nat.zero_le _, Nat.zero_le _⟩ (Nat.le_of_ble_eq_true rfl) dX12_proves_2 (fun H locs w => ?_)
  refine lv_aload_n (pc := 5) hx hb dX12_proves_5 rfl (lv_at hl 0 rfl) ?_
  obtain ⟨r3, S2, hc, h⟩ := bnd_t h
  refine s_cvi (pc := 6) [] (fun ad => [.ref (ad 0)]) F w (m_M_code  _ _ _ hc) rfl rfl hl.1 ds_0 vc_X12 rfl ok_X12_code rfl kc_X12_code kl_X12_476 ki_X12_code kv_X12_code kn_X12 ⟨Nat.le_trans (by decide) hR1, Nat.le_trans (by decide) hR2⟩ ⟨Nat.zero_le _, Nat.zero_le _⟩ (Nat.le_of_ble_eq_true rfl) dX12_proves_6 (fun H locs w => ?_)
  refine lv_istore_n (pc := 9) (lv' := [(1, .int r3), (0, .ref (ad 0))]) hx hb dX12_proves_9 rfl hl (by decide) rfl (fun ls hl => ?_)
  refine lv_aload_n (pc := 10) hx hb dX12_proves_10 rfl (lv_at hl 1 rfl) ?_
  refine lv_iconst (pc := 11) (v := 0) hx hb dX12_proves_11 (by decide) ?_
  obtain ⟨S4, hc, h⟩ := bndv_t h
  refine s_cvv (pc := 12) [.int (0 : Int32)] (fun ad => [.ref (ad 0), .int (0 : Int32)]) F w (m_M_take _ _ _ hc) rfl rfl hl.1 ds_0 vc_X12 rfl ok_X12_take rfl kc_X12_take kl_X12_472 ki_X12_take kv_X12_take kn_X12 ⟨Nat.le_trans (by decide) hR1, Nat.le_trans (by decide) hR2⟩ ⟨Nat.zero_le _, Nat.zero_le _⟩ (Nat.le_of_ble_eq_true rfl) dX12_proves_12 (fun H locs w => ?_)
  refine lv_aload_n (pc := 15) hx hb dX12_proves_15 rfl (lv_at hl 1 rfl) ?_
  obtain ⟨r6, S5, hc, h⟩ := bnd_t h
  refine s_cvi (pc := 16) [] (fun ad => [.ref (ad 0)]) F w (m_M_code  _ _ _ hc) rfl rfl hl.1 ds_0 vc_X12 rfl ok_X12_code rfl kc_X12_code kl_X12_476 ki_X12_code kv_X12_code kn_X12 ⟨Nat.le_trans (by decide) hR1, Nat.le_trans (by decide) hR2⟩ ⟨Nat.zero_le _, Nat.zero_le _⟩ (Nat.le_of_ble_eq_true rfl) dX12_proves_16 (fun H locs w => ?_)
  refine lv_istore_n (pc := 19) (lv' := [(2, .int r6), (1, .int r3), (0, .ref (ad 0))]) hx hb dX12_proves_19 rfl hl (by decide) rfl (fun ls hl => ?_)
  refine lv_iload_n (pc := 20) hx hb dX12_proves_20 rfl (lv_at hl 1 rfl) ?_
  refine lv_bipush (pc := 21) (v := -4) hx hb dX12_proves_21 (by decide) ?_
  refine lv_icmp_eq (pc := 23) (tgt := 58) hx hb dX12_proves_23 (by decide) (fun q => ?_) (fun q => ?_)
  · have h := ite_t q h
    exact w_M_proves_j58 F (Nat.le_trans (by decide) hR1) (Nat.le_trans (by decide) hR2)  _ h _ _ _ w (lv_sub hl [2] rfl)
  · have h := ite_f q h
    refine lv_iload_n (pc := 26) hx hb dX12_proves_26 rfl (lv_at hl 0 rfl) ?_
    refine lv_bipush (pc := 27) (v := -4) hx hb dX12_proves_27 (by decide) ?_
    refine lv_icmp_eq (pc := 29) (tgt := 58) hx hb dX12_proves_29 (by decide) (fun q => ?_) (fun q => ?_)
    · have h := ite_t q h
      exact w_M_proves_j58 F (Nat.le_trans (by decide) hR1) (Nat.le_trans (by decide) hR2)  _ h _ _ _ w (lv_sub hl [2] rfl)
    · have h := ite_f q h
      refine lv_aload_n (pc := 32) hx hb dX12_proves_32 rfl (lv_at hl 2 rfl) ?_
      refine s_getR (pc := 33) F w 55 ds_0 (j := 83) vc_X12 vi_X12 rfl (by decide) kf_X12_183 dX12_proves_33 ?_
      refine lv_iload_n (pc := 36) hx hb dX12_proves_36 rfl (lv_at hl 1 rfl) ?_
      refine s_iald (pc := 37) F w ds_55 h dX12_proves_37 (fun h => ?_)
      refine lv_if_ne (pc := 38) (tgt := 58) hx hb dX12_proves_38 (by decide) (fun q => ?_) (fun q => ?_)
      · have h := ite_f q h
        exact w_M_proves_j58 F (Nat.le_trans (by decide) hR1) (Nat.le_trans (by decide) hR2)  _ h _ _ _ w (lv_sub hl [2] rfl)
      · have h := ite_t q h
        refine lv_aload_n (pc := 41) hx hb dX12_proves_41 rfl (lv_at hl 2 rfl) ?_
        refine s_getR (pc := 42) F w 55 ds_0 (j := 83) vc_X12 vi_X12 rfl (by decide) kf_X12_183 dX12_proves_42 ?_
        refine lv_iload_n (pc := 45) hx hb dX12_proves_45 rfl (lv_at hl 0 rfl) ?_
        refine s_iald (pc := 46) F w ds_55 h dX12_proves_46 (fun h => ?_)
        refine lv_aload_n (pc := 47) hx hb dX12_proves_47 rfl (lv_at hl 2 rfl) ?_
        refine s_getI (pc := 48) F w ds_0 (j := 77) vc_X12 vi_X12 rfl (by decide) kf_X12_463 dX12_proves_48 ?_
        refine lv_icmp_ne (pc := 51) (tgt := 58) hx hb dX12_proves_51 (by decide) (fun q => ?_) (fun q => ?_)
        · have h := ite_f q h
          exact w_M_proves_j58 F (Nat.le_trans (by decide) hR1) (Nat.le_trans (by decide) hR2)  _ h _ _ _ w (lv_sub hl [2] rfl)
        · have h := ite_t q h
          refine lv_iconst (pc := 54) (v := 1) hx hb dX12_proves_54 (by decide) ?_
          refine lv_goto (pc := 55) (tgt := 59) hx hb dX12_proves_55 (by decide) ?_
          exact w_M_proves_j59 F (Nat.le_trans (by decide) hR1) (Nat.le_trans (by decide) hR2) _ _ h _ _ _ w (lv_sub hl [2] rfl)
def f_M_check  (S : SS) : Option (Int32 × SS) :=
  if (S.1 0 76) = (-4 : Int32) then
    some ((0 : Int32), S)
  else
    bnd (f_M_works  S) (fun r2 S1 =>
    if r2 = 0 then
      some ((0 : Int32), S1)
    else
      if (S1.1 0 76) = (1 : Int32) then
        some ((1 : Int32), S1)
      else
        bnd (f_M_proves  S1) (fun r4 S3 =>
        if r4 = 0 then
          some ((0 : Int32), S3)
        else
          some ((1 : Int32), S3)))
theorem dX12_check_0 : decode cX12_check 0 = .ok (.aload_n 0, 1) := dc_42 (by decide +kernel)
theorem dX12_check_1 : decode cX12_check 1 = .ok (.getfield 168, 3) := dc_180 (a := 0) (b := 168) (by decide +kernel)
theorem dX12_check_4 : decode cX12_check 4 = .ok (.bipush (-4), 2) := dc_16 (a := 252) (by decide +kernel) (by decide)
theorem dX12_check_6 : decode cX12_check 6 = .ok (.if_icmp .eq 29, 3) := dc_159 (a := 0) (b := 29) (by decide +kernel) (by decide)
theorem dX12_check_9 : decode cX12_check 9 = .ok (.aload_n 0, 1) := dc_42 (by decide +kernel)
theorem dX12_check_10 : decode cX12_check 10 = .ok (.invokevirtual 519, 3) := dc_182 (a := 2) (b := 7) (by decide +kernel)
theorem dX12_check_13 : decode cX12_check 13 = .ok (.ifCond .eq 22, 3) := dc_153 (a := 0) (b := 22) (by decide +kernel) (by decide)
theorem dX12_check_16 : decode cX12_check 16 = .ok (.aload_n 0, 1) := dc_42 (by decide +kernel)
theorem dX12_check_17 : decode cX12_check 17 = .ok (.getfield 168, 3) := dc_180 (a := 0) (b := 168) (by decide +kernel)
theorem dX12_check_20 : decode cX12_check 20 = .ok (.iconst 1, 1) := dc_4 (by decide +kernel)
theorem dX12_check_21 : decode cX12_check 21 = .ok (.if_icmp .eq 10, 3) := dc_159 (a := 0) (b := 10) (by decide +kernel) (by decide)
theorem dX12_check_24 : decode cX12_check 24 = .ok (.aload_n 0, 1) := dc_42 (by decide +kernel)
theorem dX12_check_25 : decode cX12_check 25 = .ok (.invokevirtual 522, 3) := dc_182 (a := 2) (b := 10) (by decide +kernel)
theorem dX12_check_28 : decode cX12_check 28 = .ok (.ifCond .eq 7, 3) := dc_153 (a := 0) (b := 7) (by decide +kernel) (by decide)
theorem dX12_check_31 : decode cX12_check 31 = .ok (.iconst 1, 1) := dc_4 (by decide +kernel)
theorem dX12_check_32 : decode cX12_check 32 = .ok (.goto 4, 3) := dc_167 (a := 0) (b := 4) (by decide +kernel) (by decide)
theorem dX12_check_35 : decode cX12_check 35 = .ok (.iconst 0, 1) := dc_3 (by decide +kernel)
theorem dX12_check_36 : decode cX12_check 36 = .ok (.ireturn, 1) := dc_172 (by decide +kernel)
set_option maxRecDepth 100000 in
set_option maxHeartbeats 4000000 in
theorem m_M_check  (S S' : SS) (r : Int32) (h : f_M_check  S = some (r, S')) : MT yX12_check cX12_check 1 (some .int) 3 76 (fun ad => [.ref (ad 0)]) S (some (.int r)) S' := by
  refine MT.of RX12 (fun ad => [(0, .ref (ad 0))]) (by decide) rfl (fun _ => Nat.le_of_ble_eq_true rfl) (fun _ => rfl) ?_
  intro p l e R s m args below meth c dC dI cs ad A hR1 hR2 F H locs ls w hl
  have hx := F.1.1
  have hb := F.1.2.1
  rw [f_M_check] at h
  refine lv_aload_n (pc := 0) hx hb dX12_check_0 rfl (lv_at hl 0 rfl) ?_
  refine s_getI (pc := 1) F w ds_0 (j := 76) vc_X12 vi_X12 rfl (by decide) kf_X12_168 dX12_check_1 ?_
  refine lv_bipush (pc := 4) (v := -4) hx hb dX12_check_4 (by decide) ?_
  refine lv_icmp_eq (pc := 6) (tgt := 35) hx hb dX12_check_6 (by decide) (fun q => ?_) (fun q => ?_)
  · have h := ite_t q h
    refine lv_iconst (pc := 35) (v := 0) hx hb dX12_check_35 (by decide) ?_
    exact s_iret F w h dX12_check_36
  · have h := ite_f q h
    refine lv_aload_n (pc := 9) hx hb dX12_check_9 rfl (lv_at hl 0 rfl) ?_
    obtain ⟨r2, S1, hc, h⟩ := bnd_t h
    refine s_cvi (pc := 10) [] (fun ad => [.ref (ad 0)]) F w (m_M_works  _ _ _ hc) rfl rfl hl.1 ds_0 vc_X12 rfl ok_X12_works rfl kc_X12_works kl_X12_519 ki_X12_works kv_X12_works kn_X12 ⟨Nat.le_trans (by decide) hR1, Nat.le_trans (by decide) hR2⟩ ⟨Nat.zero_le _, Nat.zero_le _⟩ (Nat.le_of_ble_eq_true rfl) dX12_check_10 (fun H locs w => ?_)
    refine lv_if_eq (pc := 13) (tgt := 35) hx hb dX12_check_13 (by decide) (fun q => ?_) (fun q => ?_)
    · have h := ite_t q h
      refine lv_iconst (pc := 35) (v := 0) hx hb dX12_check_35 (by decide) ?_
      exact s_iret F w h dX12_check_36
    · have h := ite_f q h
      refine lv_aload_n (pc := 16) hx hb dX12_check_16 rfl (lv_at hl 0 rfl) ?_
      refine s_getI (pc := 17) F w ds_0 (j := 76) vc_X12 vi_X12 rfl (by decide) kf_X12_168 dX12_check_17 ?_
      refine lv_iconst (pc := 20) (v := 1) hx hb dX12_check_20 (by decide) ?_
      refine lv_icmp_eq (pc := 21) (tgt := 31) hx hb dX12_check_21 (by decide) (fun q => ?_) (fun q => ?_)
      · have h := ite_t q h
        refine lv_iconst (pc := 31) (v := 1) hx hb dX12_check_31 (by decide) ?_
        refine lv_goto (pc := 32) (tgt := 36) hx hb dX12_check_32 (by decide) ?_
        exact s_iret F w h dX12_check_36
      · have h := ite_f q h
        refine lv_aload_n (pc := 24) hx hb dX12_check_24 rfl (lv_at hl 0 rfl) ?_
        obtain ⟨r4, S3, hc, h⟩ := bnd_t h
        refine s_cvi (pc := 25) [] (fun ad => [.ref (ad 0)]) F w (m_M_proves  _ _ _ hc) rfl rfl hl.1 ds_0 vc_X12 rfl ok_X12_proves rfl kc_X12_proves kl_X12_522 ki_X12_proves kv_X12_proves kn_X12 ⟨Nat.le_trans (by decide) hR1, Nat.le_trans (by decide) hR2⟩ ⟨Nat.zero_le _, Nat.zero_le _⟩ (Nat.le_of_ble_eq_true rfl) dX12_check_25 (fun H locs w => ?_)
        refine lv_if_eq (pc := 28) (tgt := 35) hx hb dX12_check_28 (by decide) (fun q => ?_) (fun q => ?_)
        · have h := ite_t q h
          refine lv_iconst (pc := 35) (v := 0) hx hb dX12_check_35 (by decide) ?_
          exact s_iret F w h dX12_check_36
        · have h := ite_f q h
          refine lv_iconst (pc := 31) (v := 1) hx hb dX12_check_31 (by decide) ?_
          refine lv_goto (pc := 32) (tgt := 36) hx hb dX12_check_32 (by decide) ?_
          exact s_iret F w h dX12_check_36
def f_Report_begin  (S : SS) : Option (SS) :=
  wr S 62 2 (0 : Int32) (fun S1 =>
  wr S1 62 3 (0 : Int32) (fun S2 =>
  wr S2 62 4 (-4 : Int32) (fun S3 =>
  wr S3 62 5 (0 : Int32) (fun S4 =>
  wr S4 62 6 (-4 : Int32) (fun S5 =>
  some S5)))))
theorem dX5_begin_0 : decode cX5_begin 0 = .ok (.aload_n 0, 1) := dc_42 (by decide +kernel)
theorem dX5_begin_1 : decode cX5_begin 1 = .ok (.iconst 0, 1) := dc_3 (by decide +kernel)
theorem dX5_begin_2 : decode cX5_begin 2 = .ok (.putfield 18, 3) := dc_181 (a := 0) (b := 18) (by decide +kernel)
theorem dX5_begin_5 : decode cX5_begin 5 = .ok (.aload_n 0, 1) := dc_42 (by decide +kernel)
theorem dX5_begin_6 : decode cX5_begin 6 = .ok (.iconst 0, 1) := dc_3 (by decide +kernel)
theorem dX5_begin_7 : decode cX5_begin 7 = .ok (.putfield 22, 3) := dc_181 (a := 0) (b := 22) (by decide +kernel)
theorem dX5_begin_10 : decode cX5_begin 10 = .ok (.aload_n 0, 1) := dc_42 (by decide +kernel)
theorem dX5_begin_11 : decode cX5_begin 11 = .ok (.bipush (-4), 2) := dc_16 (a := 252) (by decide +kernel) (by decide)
theorem dX5_begin_13 : decode cX5_begin 13 = .ok (.putfield 25, 3) := dc_181 (a := 0) (b := 25) (by decide +kernel)
theorem dX5_begin_16 : decode cX5_begin 16 = .ok (.aload_n 0, 1) := dc_42 (by decide +kernel)
theorem dX5_begin_17 : decode cX5_begin 17 = .ok (.iconst 0, 1) := dc_3 (by decide +kernel)
theorem dX5_begin_18 : decode cX5_begin 18 = .ok (.putfield 28, 3) := dc_181 (a := 0) (b := 28) (by decide +kernel)
theorem dX5_begin_21 : decode cX5_begin 21 = .ok (.aload_n 0, 1) := dc_42 (by decide +kernel)
theorem dX5_begin_22 : decode cX5_begin 22 = .ok (.bipush (-4), 2) := dc_16 (a := 252) (by decide +kernel) (by decide)
theorem dX5_begin_24 : decode cX5_begin 24 = .ok (.putfield 31, 3) := dc_181 (a := 0) (b := 31) (by decide +kernel)
theorem dX5_begin_27 : decode cX5_begin 27 = .ok (.return_, 1) := dc_177 (by decide +kernel)
set_option maxRecDepth 100000 in
set_option maxHeartbeats 4000000 in
theorem m_Report_begin  (S S' : SS) (h : f_Report_begin  S = some S') : MT yX5_begin cX5_begin 1 none 0 0 (fun ad => [.ref (ad 62)]) S none S' := by
  refine MT.of RX5 (fun ad => [(0, .ref (ad 62))]) (by decide) rfl (fun _ => Nat.le_of_ble_eq_true rfl) (fun _ => rfl) ?_
  intro p l e R s m args below meth c dC dI cs ad A hR1 hR2 F H locs ls w hl
  have hx := F.1.1
  have hb := F.1.2.1
  rw [f_Report_begin] at h
  refine lv_aload_n (pc := 0) hx hb dX5_begin_0 rfl (lv_at hl 0 rfl) ?_
  refine lv_iconst (pc := 1) (v := 0) hx hb dX5_begin_1 (by decide) ?_
  refine s_putI (pc := 2) F w ds_62 vc_X5 vi_X5 tyX5_ok nmX5 (j := 2) rfl (by decide) kf_X5_18 rfl pd_I h dX5_begin_2 (fun S1 H locs h w => ?_)
  refine lv_aload_n (pc := 5) hx hb dX5_begin_5 rfl (lv_at hl 0 rfl) ?_
  refine lv_iconst (pc := 6) (v := 0) hx hb dX5_begin_6 (by decide) ?_
  refine s_putI (pc := 7) F w ds_62 vc_X5 vi_X5 tyX5_ok nmX5 (j := 3) rfl (by decide) kf_X5_22 rfl pd_I h dX5_begin_7 (fun S2 H locs h w => ?_)
  refine lv_aload_n (pc := 10) hx hb dX5_begin_10 rfl (lv_at hl 0 rfl) ?_
  refine lv_bipush (pc := 11) (v := -4) hx hb dX5_begin_11 (by decide) ?_
  refine s_putI (pc := 13) F w ds_62 vc_X5 vi_X5 tyX5_ok nmX5 (j := 4) rfl (by decide) kf_X5_25 rfl pd_I h dX5_begin_13 (fun S3 H locs h w => ?_)
  refine lv_aload_n (pc := 16) hx hb dX5_begin_16 rfl (lv_at hl 0 rfl) ?_
  refine lv_iconst (pc := 17) (v := 0) hx hb dX5_begin_17 (by decide) ?_
  refine s_putI (pc := 18) F w ds_62 vc_X5 vi_X5 tyX5_ok nmX5 (j := 5) rfl (by decide) kf_X5_28 rfl pd_I h dX5_begin_18 (fun S4 H locs h w => ?_)
  refine lv_aload_n (pc := 21) hx hb dX5_begin_21 rfl (lv_at hl 0 rfl) ?_
  refine lv_bipush (pc := 22) (v := -4) hx hb dX5_begin_22 (by decide) ?_
  refine s_putI (pc := 24) F w ds_62 vc_X5 vi_X5 tyX5_ok nmX5 (j := 6) rfl (by decide) kf_X5_31 rfl pd_I h dX5_begin_24 (fun S5 H locs h w => ?_)
  exact s_vret F w h dX5_begin_27
def f_History_forget  (S : SS) : Option (SS) :=
  wr S 64 6 (0 : Int32) (fun S1 =>
  wr S1 64 7 (0 : Int32) (fun S2 =>
  some S2))
theorem dX1_forget_0 : decode cX1_forget 0 = .ok (.aload_n 0, 1) := dc_42 (by decide +kernel)
theorem dX1_forget_1 : decode cX1_forget 1 = .ok (.iconst 0, 1) := dc_3 (by decide +kernel)
theorem dX1_forget_2 : decode cX1_forget 2 = .ok (.putfield 35, 3) := dc_181 (a := 0) (b := 35) (by decide +kernel)
theorem dX1_forget_5 : decode cX1_forget 5 = .ok (.aload_n 0, 1) := dc_42 (by decide +kernel)
theorem dX1_forget_6 : decode cX1_forget 6 = .ok (.iconst 0, 1) := dc_3 (by decide +kernel)
theorem dX1_forget_7 : decode cX1_forget 7 = .ok (.putfield 38, 3) := dc_181 (a := 0) (b := 38) (by decide +kernel)
theorem dX1_forget_10 : decode cX1_forget 10 = .ok (.return_, 1) := dc_177 (by decide +kernel)
set_option maxRecDepth 100000 in
set_option maxHeartbeats 4000000 in
theorem m_History_forget  (S S' : SS) (h : f_History_forget  S = some S') : MT yX1_forget cX1_forget 1 none 0 0 (fun ad => [.ref (ad 64)]) S none S' := by
  refine MT.of RX1 (fun ad => [(0, .ref (ad 64))]) (by decide) rfl (fun _ => Nat.le_of_ble_eq_true rfl) (fun _ => rfl) ?_
  intro p l e R s m args below meth c dC dI cs ad A hR1 hR2 F H locs ls w hl
  have hx := F.1.1
  have hb := F.1.2.1
  rw [f_History_forget] at h
  refine lv_aload_n (pc := 0) hx hb dX1_forget_0 rfl (lv_at hl 0 rfl) ?_
  refine lv_iconst (pc := 1) (v := 0) hx hb dX1_forget_1 (by decide) ?_
  refine s_putI (pc := 2) F w ds_64 vc_X1 vi_X1 tyX1_ok nmX1 (j := 6) rfl (by decide) kf_X1_35 rfl pd_I h dX1_forget_2 (fun S1 H locs h w => ?_)
  refine lv_aload_n (pc := 5) hx hb dX1_forget_5 rfl (lv_at hl 0 rfl) ?_
  refine lv_iconst (pc := 6) (v := 0) hx hb dX1_forget_6 (by decide) ?_
  refine s_putI (pc := 7) F w ds_64 vc_X1 vi_X1 tyX1_ok nmX1 (j := 7) rfl (by decide) kf_X1_38 rfl pd_I h dX1_forget_7 (fun S2 H locs h w => ?_)
  exact s_vret F w h dX1_forget_10
def f_Layout_addTrack (a1 : Int32) (S : SS) : Option (Int32 × SS) :=
  if (S.1 66 7) < (24 : Int32) then
    grd (inb (S.1 66 7) 24) (wr S 93 (S.1 66 7).toNatClampNeg a1 (fun S1 =>
    wr S1 66 7 ((S1.1 66 7) + (1 : Int32)) (fun S2 =>
    some ((S2.1 66 7) - (1 : Int32), S2))))
  else
    some ((-3 : Int32), S)
theorem dX2_addTrack_0 : decode cX2_addTrack 0 = .ok (.aload_n 0, 1) := dc_42 (by decide +kernel)
theorem dX2_addTrack_1 : decode cX2_addTrack 1 = .ok (.getfield 31, 3) := dc_180 (a := 0) (b := 31) (by decide +kernel)
theorem dX2_addTrack_4 : decode cX2_addTrack 4 = .ok (.bipush 24, 2) := dc_16 (a := 24) (by decide +kernel) (by decide)
theorem dX2_addTrack_6 : decode cX2_addTrack 6 = .ok (.if_icmp .lt 6, 3) := dc_161 (a := 0) (b := 6) (by decide +kernel) (by decide)
theorem dX2_addTrack_9 : decode cX2_addTrack 9 = .ok (.bipush (-3), 2) := dc_16 (a := 253) (by decide +kernel) (by decide)
theorem dX2_addTrack_11 : decode cX2_addTrack 11 = .ok (.ireturn, 1) := dc_172 (by decide +kernel)
theorem dX2_addTrack_12 : decode cX2_addTrack 12 = .ok (.aload_n 0, 1) := dc_42 (by decide +kernel)
theorem dX2_addTrack_13 : decode cX2_addTrack 13 = .ok (.getfield 11, 3) := dc_180 (a := 0) (b := 11) (by decide +kernel)
theorem dX2_addTrack_16 : decode cX2_addTrack 16 = .ok (.aload_n 0, 1) := dc_42 (by decide +kernel)
theorem dX2_addTrack_17 : decode cX2_addTrack 17 = .ok (.getfield 31, 3) := dc_180 (a := 0) (b := 31) (by decide +kernel)
theorem dX2_addTrack_20 : decode cX2_addTrack 20 = .ok (.iload_n 1, 1) := dc_27 (by decide +kernel)
theorem dX2_addTrack_21 : decode cX2_addTrack 21 = .ok (.iastore, 1) := dc_79 (by decide +kernel)
theorem dX2_addTrack_22 : decode cX2_addTrack 22 = .ok (.aload_n 0, 1) := dc_42 (by decide +kernel)
theorem dX2_addTrack_23 : decode cX2_addTrack 23 = .ok (.dup, 1) := dc_89 (by decide +kernel)
theorem dX2_addTrack_24 : decode cX2_addTrack 24 = .ok (.getfield 31, 3) := dc_180 (a := 0) (b := 31) (by decide +kernel)
theorem dX2_addTrack_27 : decode cX2_addTrack 27 = .ok (.iconst 1, 1) := dc_4 (by decide +kernel)
theorem dX2_addTrack_28 : decode cX2_addTrack 28 = .ok (.iadd, 1) := dc_96 (by decide +kernel)
theorem dX2_addTrack_29 : decode cX2_addTrack 29 = .ok (.putfield 31, 3) := dc_181 (a := 0) (b := 31) (by decide +kernel)
theorem dX2_addTrack_32 : decode cX2_addTrack 32 = .ok (.aload_n 0, 1) := dc_42 (by decide +kernel)
theorem dX2_addTrack_33 : decode cX2_addTrack 33 = .ok (.getfield 31, 3) := dc_180 (a := 0) (b := 31) (by decide +kernel)
theorem dX2_addTrack_36 : decode cX2_addTrack 36 = .ok (.iconst 1, 1) := dc_4 (by decide +kernel)
theorem dX2_addTrack_37 : decode cX2_addTrack 37 = .ok (.isub, 1) := dc_100 (by decide +kernel)
theorem dX2_addTrack_38 : decode cX2_addTrack 38 = .ok (.ireturn, 1) := dc_172 (by decide +kernel)
set_option maxRecDepth 100000 in
set_option maxHeartbeats 4000000 in
theorem m_Layout_addTrack (a1 : Int32) (S S' : SS) (r : Int32) (h : f_Layout_addTrack a1 S = some (r, S')) : MT yX2_addTrack cX2_addTrack 2 (some .int) 0 0 (fun ad => [.ref (ad 66), .int a1]) S (some (.int r)) S' := by
  refine MT.of RX2 (fun ad => [(0, .ref (ad 66)), (1, .int a1)]) (by decide) rfl (fun _ => Nat.le_of_ble_eq_true rfl) (fun _ => rfl) ?_
  intro p l e R s m args below meth c dC dI cs ad A hR1 hR2 F H locs ls w hl
  have hx := F.1.1
  have hb := F.1.2.1
  rw [f_Layout_addTrack] at h
  refine lv_aload_n (pc := 0) hx hb dX2_addTrack_0 rfl (lv_at hl 0 rfl) ?_
  refine s_getI (pc := 1) F w ds_66 (j := 7) vc_X2 vi_X2 rfl (by decide) kf_X2_31 dX2_addTrack_1 ?_
  refine lv_bipush (pc := 4) (v := 24) hx hb dX2_addTrack_4 (by decide) ?_
  refine lv_icmp_lt (pc := 6) (tgt := 12) hx hb dX2_addTrack_6 (by decide) (fun q => ?_) (fun q => ?_)
  · have h := ite_t q h
    refine lv_aload_n (pc := 12) hx hb dX2_addTrack_12 rfl (lv_at hl 0 rfl) ?_
    refine s_getR (pc := 13) F w 93 ds_66 (j := 1) vc_X2 vi_X2 rfl (by decide) kf_X2_11 dX2_addTrack_13 ?_
    refine lv_aload_n (pc := 16) hx hb dX2_addTrack_16 rfl (lv_at hl 0 rfl) ?_
    refine s_getI (pc := 17) F w ds_66 (j := 7) vc_X2 vi_X2 rfl (by decide) kf_X2_31 dX2_addTrack_17 ?_
    refine lv_iload_n (pc := 20) hx hb dX2_addTrack_20 rfl (lv_at hl 1 rfl) ?_
    refine s_iast (pc := 21) F w ds_93 h dX2_addTrack_21 (fun S1 H locs h w => ?_)
    refine lv_aload_n (pc := 22) hx hb dX2_addTrack_22 rfl (lv_at hl 0 rfl) ?_
    refine lv_dup (pc := 23) hx hb dX2_addTrack_23 rfl ?_
    refine s_getI (pc := 24) F w ds_66 (j := 7) vc_X2 vi_X2 rfl (by decide) kf_X2_31 dX2_addTrack_24 ?_
    refine lv_iconst (pc := 27) (v := 1) hx hb dX2_addTrack_27 (by decide) ?_
    refine lv_iadd (pc := 28) hx hb dX2_addTrack_28 ?_
    refine s_putI (pc := 29) F w ds_66 vc_X2 vi_X2 tyX2_ok nmX2 (j := 7) rfl (by decide) kf_X2_31 rfl pd_I h dX2_addTrack_29 (fun S2 H locs h w => ?_)
    refine lv_aload_n (pc := 32) hx hb dX2_addTrack_32 rfl (lv_at hl 0 rfl) ?_
    refine s_getI (pc := 33) F w ds_66 (j := 7) vc_X2 vi_X2 rfl (by decide) kf_X2_31 dX2_addTrack_33 ?_
    refine lv_iconst (pc := 36) (v := 1) hx hb dX2_addTrack_36 (by decide) ?_
    refine lv_isub (pc := 37) hx hb dX2_addTrack_37 ?_
    exact s_iret F w h dX2_addTrack_38
  · have h := ite_f q h
    refine lv_bipush (pc := 9) (v := -3) hx hb dX2_addTrack_9 (by decide) ?_
    exact s_iret F w h dX2_addTrack_11
def f_Report_found (a1 : Int32) (S : SS) : Option (Int32 × SS) :=
  wr S 62 3 a1 (fun S1 =>
  if a1 ≤ 0 then
    some ((-2 : Int32), S1)
  else
    if (17 : Int32) < a1 then
      some ((-2 : Int32), S1)
    else
      grd (inb a1 18) (
      grd (inb a1 18) (wr S1 77 a1.toNatClampNeg ((S1.1 77 a1.toNatClampNeg) + (1 : Int32)) (fun S2 =>
      some ((-2 : Int32), S2)))))
theorem dX5_found_0 : decode cX5_found 0 = .ok (.aload_n 0, 1) := dc_42 (by decide +kernel)
theorem dX5_found_1 : decode cX5_found 1 = .ok (.iload_n 1, 1) := dc_27 (by decide +kernel)
theorem dX5_found_2 : decode cX5_found 2 = .ok (.putfield 22, 3) := dc_181 (a := 0) (b := 22) (by decide +kernel)
theorem dX5_found_5 : decode cX5_found 5 = .ok (.iload_n 1, 1) := dc_27 (by decide +kernel)
theorem dX5_found_6 : decode cX5_found 6 = .ok (.ifCond .le 19, 3) := dc_158 (a := 0) (b := 19) (by decide +kernel) (by decide)
theorem dX5_found_9 : decode cX5_found 9 = .ok (.iload_n 1, 1) := dc_27 (by decide +kernel)
theorem dX5_found_10 : decode cX5_found 10 = .ok (.bipush 17, 2) := dc_16 (a := 17) (by decide +kernel) (by decide)
theorem dX5_found_12 : decode cX5_found 12 = .ok (.if_icmp .gt 13, 3) := dc_163 (a := 0) (b := 13) (by decide +kernel) (by decide)
theorem dX5_found_15 : decode cX5_found 15 = .ok (.aload_n 0, 1) := dc_42 (by decide +kernel)
theorem dX5_found_16 : decode cX5_found 16 = .ok (.getfield 11, 3) := dc_180 (a := 0) (b := 11) (by decide +kernel)
theorem dX5_found_19 : decode cX5_found 19 = .ok (.iload_n 1, 1) := dc_27 (by decide +kernel)
theorem dX5_found_20 : decode cX5_found 20 = .ok (.dup2, 1) := dc_92 (by decide +kernel)
theorem dX5_found_21 : decode cX5_found 21 = .ok (.iaload, 1) := dc_46 (by decide +kernel)
theorem dX5_found_22 : decode cX5_found 22 = .ok (.iconst 1, 1) := dc_4 (by decide +kernel)
theorem dX5_found_23 : decode cX5_found 23 = .ok (.iadd, 1) := dc_96 (by decide +kernel)
theorem dX5_found_24 : decode cX5_found 24 = .ok (.iastore, 1) := dc_79 (by decide +kernel)
theorem dX5_found_25 : decode cX5_found 25 = .ok (.bipush (-2), 2) := dc_16 (a := 254) (by decide +kernel) (by decide)
theorem dX5_found_27 : decode cX5_found 27 = .ok (.ireturn, 1) := dc_172 (by decide +kernel)
set_option maxRecDepth 100000 in
set_option maxHeartbeats 4000000 in
theorem m_Report_found (a1 : Int32) (S S' : SS) (r : Int32) (h : f_Report_found a1 S = some (r, S')) : MT yX5_found cX5_found 2 (some .int) 0 0 (fun ad => [.ref (ad 62), .int a1]) S (some (.int r)) S' := by
  refine MT.of RX5 (fun ad => [(0, .ref (ad 62)), (1, .int a1)]) (by decide) rfl (fun _ => Nat.le_of_ble_eq_true rfl) (fun _ => rfl) ?_
  intro p l e R s m args below meth c dC dI cs ad A hR1 hR2 F H locs ls w hl
  have hx := F.1.1
  have hb := F.1.2.1
  rw [f_Report_found] at h
  refine lv_aload_n (pc := 0) hx hb dX5_found_0 rfl (lv_at hl 0 rfl) ?_
  refine lv_iload_n (pc := 1) hx hb dX5_found_1 rfl (lv_at hl 1 rfl) ?_
  refine s_putI (pc := 2) F w ds_62 vc_X5 vi_X5 tyX5_ok nmX5 (j := 3) rfl (by decide) kf_X5_22 rfl pd_I h dX5_found_2 (fun S1 H locs h w => ?_)
  refine lv_iload_n (pc := 5) hx hb dX5_found_5 rfl (lv_at hl 1 rfl) ?_
  refine lv_if_le (pc := 6) (tgt := 25) hx hb dX5_found_6 (by decide) (fun q => ?_) (fun q => ?_)
  · have h := ite_t q h
    refine lv_bipush (pc := 25) (v := -2) hx hb dX5_found_25 (by decide) ?_
    exact s_iret F w h dX5_found_27
  · have h := ite_f q h
    refine lv_iload_n (pc := 9) hx hb dX5_found_9 rfl (lv_at hl 1 rfl) ?_
    refine lv_bipush (pc := 10) (v := 17) hx hb dX5_found_10 (by decide) ?_
    refine lv_icmp_gt (pc := 12) (tgt := 25) hx hb dX5_found_12 (by decide) (fun q => ?_) (fun q => ?_)
    · have h := ite_t q h
      refine lv_bipush (pc := 25) (v := -2) hx hb dX5_found_25 (by decide) ?_
      exact s_iret F w h dX5_found_27
    · have h := ite_f q h
      refine lv_aload_n (pc := 15) hx hb dX5_found_15 rfl (lv_at hl 0 rfl) ?_
      refine s_getR (pc := 16) F w 77 ds_62 (j := 0) vc_X5 vi_X5 rfl (by decide) kf_X5_11 dX5_found_16 ?_
      refine lv_iload_n (pc := 19) hx hb dX5_found_19 rfl (lv_at hl 1 rfl) ?_
      refine lv_dup2_11 (pc := 20) hx hb dX5_found_20 rfl rfl ?_
      refine s_iald (pc := 21) F w ds_77 h dX5_found_21 (fun h => ?_)
      refine lv_iconst (pc := 22) (v := 1) hx hb dX5_found_22 (by decide) ?_
      refine lv_iadd (pc := 23) hx hb dX5_found_23 ?_
      refine s_iast (pc := 24) F w ds_77 h dX5_found_24 (fun S2 H locs h w => ?_)
      refine lv_bipush (pc := 25) (v := -2) hx hb dX5_found_25 (by decide) ?_
      exact s_iret F w h dX5_found_27
def f_Yard_track (a1 : Int32) (S : SS) : Option (Int32 × SS) :=
  if a1 = 0 then
    some ((-1 : Int32), S)
  else
    if a1 ≤ (24 : Int32) then
      if (S.1 66 7) < (24 : Int32) then
        bndv (f_Report_begin  S) (fun S1 =>
        if 0 ≤ a1 then
          bndv (f_History_forget  S1) (fun S2 =>
          bnd (f_Layout_addTrack a1 S2) (fun r4 S3 =>
          some (r4, S3)))
        else
          bnd (f_Report_found (5 : Int32) S1) (fun r6 S5 =>
          some (r6, S5)))
      else
        some ((-3 : Int32), S)
    else
      some ((-1 : Int32), S)
theorem dX11_track_0 : decode cX11_track 0 = .ok (.iload_n 1, 1) := dc_27 (by decide +kernel)
theorem dX11_track_1 : decode cX11_track 1 = .ok (.ifCond .eq 9, 3) := dc_153 (a := 0) (b := 9) (by decide +kernel) (by decide)
theorem dX11_track_4 : decode cX11_track 4 = .ok (.iload_n 1, 1) := dc_27 (by decide +kernel)
theorem dX11_track_5 : decode cX11_track 5 = .ok (.bipush 24, 2) := dc_16 (a := 24) (by decide +kernel) (by decide)
theorem dX11_track_7 : decode cX11_track 7 = .ok (.if_icmp .le 5, 3) := dc_164 (a := 0) (b := 5) (by decide +kernel) (by decide)
theorem dX11_track_10 : decode cX11_track 10 = .ok (.iconst (-1), 1) := dc_2 (by decide +kernel)
theorem dX11_track_11 : decode cX11_track 11 = .ok (.ireturn, 1) := dc_172 (by decide +kernel)
theorem dX11_track_12 : decode cX11_track 12 = .ok (.aload_n 0, 1) := dc_42 (by decide +kernel)
theorem dX11_track_13 : decode cX11_track 13 = .ok (.getfield 42, 3) := dc_180 (a := 0) (b := 42) (by decide +kernel)
theorem dX11_track_16 : decode cX11_track 16 = .ok (.getfield 91, 3) := dc_180 (a := 0) (b := 91) (by decide +kernel)
theorem dX11_track_19 : decode cX11_track 19 = .ok (.bipush 24, 2) := dc_16 (a := 24) (by decide +kernel) (by decide)
theorem dX11_track_21 : decode cX11_track 21 = .ok (.if_icmp .lt 6, 3) := dc_161 (a := 0) (b := 6) (by decide +kernel) (by decide)
theorem dX11_track_24 : decode cX11_track 24 = .ok (.bipush (-3), 2) := dc_16 (a := 253) (by decide +kernel) (by decide)
theorem dX11_track_26 : decode cX11_track 26 = .ok (.ireturn, 1) := dc_172 (by decide +kernel)
theorem dX11_track_27 : decode cX11_track 27 = .ok (.aload_n 0, 1) := dc_42 (by decide +kernel)
theorem dX11_track_28 : decode cX11_track 28 = .ok (.getfield 10, 3) := dc_180 (a := 0) (b := 10) (by decide +kernel)
theorem dX11_track_31 : decode cX11_track 31 = .ok (.invokevirtual 95, 3) := dc_182 (a := 0) (b := 95) (by decide +kernel)
theorem dX11_track_34 : decode cX11_track 34 = .ok (.iload_n 1, 1) := dc_27 (by decide +kernel)
theorem dX11_track_35 : decode cX11_track 35 = .ok (.ifCond .ge 12, 3) := dc_156 (a := 0) (b := 12) (by decide +kernel) (by decide)
theorem dX11_track_38 : decode cX11_track 38 = .ok (.aload_n 0, 1) := dc_42 (by decide +kernel)
theorem dX11_track_39 : decode cX11_track 39 = .ok (.getfield 10, 3) := dc_180 (a := 0) (b := 10) (by decide +kernel)
theorem dX11_track_42 : decode cX11_track 42 = .ok (.iconst 5, 1) := dc_8 (by decide +kernel)
theorem dX11_track_43 : decode cX11_track 43 = .ok (.invokevirtual 98, 3) := dc_182 (a := 0) (b := 98) (by decide +kernel)
theorem dX11_track_46 : decode cX11_track 46 = .ok (.ireturn, 1) := dc_172 (by decide +kernel)
theorem dX11_track_47 : decode cX11_track 47 = .ok (.aload_n 0, 1) := dc_42 (by decide +kernel)
theorem dX11_track_48 : decode cX11_track 48 = .ok (.getfield 26, 3) := dc_180 (a := 0) (b := 26) (by decide +kernel)
theorem dX11_track_51 : decode cX11_track 51 = .ok (.invokevirtual 102, 3) := dc_182 (a := 0) (b := 102) (by decide +kernel)
theorem dX11_track_54 : decode cX11_track 54 = .ok (.aload_n 0, 1) := dc_42 (by decide +kernel)
theorem dX11_track_55 : decode cX11_track 55 = .ok (.getfield 42, 3) := dc_180 (a := 0) (b := 42) (by decide +kernel)
theorem dX11_track_58 : decode cX11_track 58 = .ok (.iload_n 1, 1) := dc_27 (by decide +kernel)
theorem dX11_track_59 : decode cX11_track 59 = .ok (.invokevirtual 105, 3) := dc_182 (a := 0) (b := 105) (by decide +kernel)
theorem dX11_track_62 : decode cX11_track 62 = .ok (.ireturn, 1) := dc_172 (by decide +kernel)
set_option maxRecDepth 100000 in
set_option maxHeartbeats 4000000 in
theorem m_Yard_track (a1 : Int32) (S S' : SS) (r : Int32) (h : f_Yard_track a1 S = some (r, S')) : MT yX11_track cX11_track 2 (some .int) 1 21 (fun ad => [.ref (ad 61), .int a1]) S (some (.int r)) S' := by
  refine MT.of RX11 (fun ad => [(0, .ref (ad 61)), (1, .int a1)]) (by decide) rfl (fun _ => Nat.le_of_ble_eq_true rfl) (fun _ => rfl) ?_
  intro p l e R s m args below meth c dC dI cs ad A hR1 hR2 F H locs ls w hl
  have hx := F.1.1
  have hb := F.1.2.1
  rw [f_Yard_track] at h
  refine lv_iload_n (pc := 0) hx hb dX11_track_0 rfl (lv_at hl 1 rfl) ?_
  refine lv_if_eq (pc := 1) (tgt := 10) hx hb dX11_track_1 (by decide) (fun q => ?_) (fun q => ?_)
  · have h := ite_t q h
    refine lv_iconst (pc := 10) (v := -1) hx hb dX11_track_10 (by decide) ?_
    exact s_iret F w h dX11_track_11
  · have h := ite_f q h
    refine lv_iload_n (pc := 4) hx hb dX11_track_4 rfl (lv_at hl 1 rfl) ?_
    refine lv_bipush (pc := 5) (v := 24) hx hb dX11_track_5 (by decide) ?_
    refine lv_icmp_le (pc := 7) (tgt := 12) hx hb dX11_track_7 (by decide) (fun q => ?_) (fun q => ?_)
    · have h := ite_t q h
      refine lv_aload_n (pc := 12) hx hb dX11_track_12 rfl (lv_at hl 0 rfl) ?_
      refine s_getR (pc := 13) F w 66 ds_61 (j := 4) vc_X11 vi_X11 rfl (by decide) kf_X11_42 dX11_track_13 ?_
      refine s_getI (pc := 16) F w ds_66 (j := 7) vc_X2 vi_X2 rfl (by decide) kf_X11_91 dX11_track_16 ?_
      refine lv_bipush (pc := 19) (v := 24) hx hb dX11_track_19 (by decide) ?_
      refine lv_icmp_lt (pc := 21) (tgt := 27) hx hb dX11_track_21 (by decide) (fun q => ?_) (fun q => ?_)
      · have h := ite_t q h
        refine lv_aload_n (pc := 27) hx hb dX11_track_27 rfl (lv_at hl 0 rfl) ?_
        refine s_getR (pc := 28) F w 62 ds_61 (j := 0) vc_X11 vi_X11 rfl (by decide) kf_X11_10 dX11_track_28 ?_
        obtain ⟨S1, hc, h⟩ := bndv_t h
        refine s_cvv (pc := 31) [] (fun ad => [.ref (ad 62)]) F w (m_Report_begin  _ _ hc) rfl rfl hl.1 ds_62 vc_X5 rfl ok_X5_begin rfl kc_X5_begin kl_X11_95 ki_X5_begin kv_X5_begin kn_X5 ⟨Nat.le_trans (by decide) hR1, Nat.le_trans (by decide) hR2⟩ ⟨Nat.zero_le _, Nat.zero_le _⟩ (Nat.le_of_ble_eq_true rfl) dX11_track_31 (fun H locs w => ?_)
        refine lv_iload_n (pc := 34) hx hb dX11_track_34 rfl (lv_at hl 1 rfl) ?_
        refine lv_if_ge (pc := 35) (tgt := 47) hx hb dX11_track_35 (by decide) (fun q => ?_) (fun q => ?_)
        · have h := ite_t q h
          refine lv_aload_n (pc := 47) hx hb dX11_track_47 rfl (lv_at hl 0 rfl) ?_
          refine s_getR (pc := 48) F w 64 ds_61 (j := 2) vc_X11 vi_X11 rfl (by decide) kf_X11_26 dX11_track_48 ?_
          obtain ⟨S2, hc, h⟩ := bndv_t h
          refine s_cvv (pc := 51) [] (fun ad => [.ref (ad 64)]) F w (m_History_forget  _ _ hc) rfl rfl hl.1 ds_64 vc_X1 rfl ok_X1_forget rfl kc_X1_forget kl_X11_102 ki_X1_forget kv_X1_forget kn_X1 ⟨Nat.le_trans (by decide) hR1, Nat.le_trans (by decide) hR2⟩ ⟨Nat.zero_le _, Nat.zero_le _⟩ (Nat.le_of_ble_eq_true rfl) dX11_track_51 (fun H locs w => ?_)
          refine lv_aload_n (pc := 54) hx hb dX11_track_54 rfl (lv_at hl 0 rfl) ?_
          refine s_getR (pc := 55) F w 66 ds_61 (j := 4) vc_X11 vi_X11 rfl (by decide) kf_X11_42 dX11_track_55 ?_
          refine lv_iload_n (pc := 58) hx hb dX11_track_58 rfl (lv_at hl 1 rfl) ?_
          obtain ⟨r4, S3, hc, h⟩ := bnd_t h
          refine s_cvi (pc := 59) [.int a1] (fun ad => [.ref (ad 66), .int a1]) F w (m_Layout_addTrack _ _ _ _ hc) rfl rfl hl.1 ds_66 vc_X2 rfl ok_X2_addTrack rfl kc_X2_addTrack kl_X11_105 ki_X2_addTrack kv_X2_addTrack kn_X2 ⟨Nat.le_trans (by decide) hR1, Nat.le_trans (by decide) hR2⟩ ⟨Nat.zero_le _, Nat.zero_le _⟩ (Nat.le_of_ble_eq_true rfl) dX11_track_59 (fun H locs w => ?_)
          exact s_iret F w h dX11_track_62
        · have h := ite_f q h
          refine lv_aload_n (pc := 38) hx hb dX11_track_38 rfl (lv_at hl 0 rfl) ?_
          refine s_getR (pc := 39) F w 62 ds_61 (j := 0) vc_X11 vi_X11 rfl (by decide) kf_X11_10 dX11_track_39 ?_
          refine lv_iconst (pc := 42) (v := 5) hx hb dX11_track_42 (by decide) ?_
          obtain ⟨r6, S5, hc, h⟩ := bnd_t h
          refine s_cvi (pc := 43) [.int (5 : Int32)] (fun ad => [.ref (ad 62), .int (5 : Int32)]) F w (m_Report_found _ _ _ _ hc) rfl rfl hl.1 ds_62 vc_X5 rfl ok_X5_found rfl kc_X5_found kl_X11_98 ki_X5_found kv_X5_found kn_X5 ⟨Nat.le_trans (by decide) hR1, Nat.le_trans (by decide) hR2⟩ ⟨Nat.zero_le _, Nat.zero_le _⟩ (Nat.le_of_ble_eq_true rfl) dX11_track_43 (fun H locs w => ?_)
          exact s_iret F w h dX11_track_46
      · have h := ite_f q h
        refine lv_bipush (pc := 24) (v := -3) hx hb dX11_track_24 (by decide) ?_
        exact s_iret F w h dX11_track_26
    · have h := ite_f q h
      refine lv_iconst (pc := 10) (v := -1) hx hb dX11_track_10 (by decide) ?_
      exact s_iret F w h dX11_track_11
def f_Yard_isNot (a0 : Int32) (a1 : Int32) (a2 : Int32) (S : SS) : Option (Int32 × SS) :=
  if a0 < a1 then
    some ((1 : Int32), S)
  else
    if a0 ≤ a2 then
      some ((0 : Int32), S)
    else
      some ((1 : Int32), S)
theorem dX11_isNot_0 : decode cX11_isNot 0 = .ok (.iload_n 0, 1) := dc_26 (by decide +kernel)
theorem dX11_isNot_1 : decode cX11_isNot 1 = .ok (.iload_n 1, 1) := dc_27 (by decide +kernel)
theorem dX11_isNot_2 : decode cX11_isNot 2 = .ok (.if_icmp .lt 8, 3) := dc_161 (a := 0) (b := 8) (by decide +kernel) (by decide)
theorem dX11_isNot_5 : decode cX11_isNot 5 = .ok (.iload_n 0, 1) := dc_26 (by decide +kernel)
theorem dX11_isNot_6 : decode cX11_isNot 6 = .ok (.iload_n 2, 1) := dc_28 (by decide +kernel)
theorem dX11_isNot_7 : decode cX11_isNot 7 = .ok (.if_icmp .le 7, 3) := dc_164 (a := 0) (b := 7) (by decide +kernel) (by decide)
theorem dX11_isNot_10 : decode cX11_isNot 10 = .ok (.iconst 1, 1) := dc_4 (by decide +kernel)
theorem dX11_isNot_11 : decode cX11_isNot 11 = .ok (.goto 4, 3) := dc_167 (a := 0) (b := 4) (by decide +kernel) (by decide)
theorem dX11_isNot_14 : decode cX11_isNot 14 = .ok (.iconst 0, 1) := dc_3 (by decide +kernel)
theorem dX11_isNot_15 : decode cX11_isNot 15 = .ok (.ireturn, 1) := dc_172 (by decide +kernel)
set_option maxRecDepth 100000 in
set_option maxHeartbeats 4000000 in
theorem m_Yard_isNot (a0 : Int32) (a1 : Int32) (a2 : Int32) (S S' : SS) (r : Int32) (h : f_Yard_isNot a0 a1 a2 S = some (r, S')) : MT yX11_isNot cX11_isNot 3 (some .boolean) 0 0 (fun ad => [.int a0, .int a1, .int a2]) S (some (.int r)) S' := by
  refine MT.of RX11 (fun ad => [(0, .int a0), (1, .int a1), (2, .int a2)]) (by decide) rfl (fun _ => Nat.le_of_ble_eq_true rfl) (fun _ => rfl) ?_
  intro p l e R s m args below meth c dC dI cs ad A hR1 hR2 F H locs ls w hl
  have hx := F.1.1
  have hb := F.1.2.1
  rw [f_Yard_isNot] at h
  refine lv_iload_n (pc := 0) hx hb dX11_isNot_0 rfl (lv_at hl 0 rfl) ?_
  refine lv_iload_n (pc := 1) hx hb dX11_isNot_1 rfl (lv_at hl 1 rfl) ?_
  refine lv_icmp_lt (pc := 2) (tgt := 10) hx hb dX11_isNot_2 (by decide) (fun q => ?_) (fun q => ?_)
  · have h := ite_t q h
    refine lv_iconst (pc := 10) (v := 1) hx hb dX11_isNot_10 (by decide) ?_
    refine lv_goto (pc := 11) (tgt := 15) hx hb dX11_isNot_11 (by decide) ?_
    exact s_zretc F w rfl h dX11_isNot_15
  · have h := ite_f q h
    refine lv_iload_n (pc := 5) hx hb dX11_isNot_5 rfl (lv_at hl 0 rfl) ?_
    refine lv_iload_n (pc := 6) hx hb dX11_isNot_6 rfl (lv_at hl 2 rfl) ?_
    refine lv_icmp_le (pc := 7) (tgt := 14) hx hb dX11_isNot_7 (by decide) (fun q => ?_) (fun q => ?_)
    · have h := ite_t q h
      refine lv_iconst (pc := 14) (v := 0) hx hb dX11_isNot_14 (by decide) ?_
      exact s_zretc F w rfl h dX11_isNot_15
    · have h := ite_f q h
      refine lv_iconst (pc := 10) (v := 1) hx hb dX11_isNot_10 (by decide) ?_
      refine lv_goto (pc := 11) (tgt := 15) hx hb dX11_isNot_11 (by decide) ?_
      exact s_zretc F w rfl h dX11_isNot_15
def f_Layout_trackFinding (a1 : Int32) (S : SS) : Option (Int32 × SS) :=
  if a1 < 0 then
    some ((3 : Int32), S)
  else
    if a1 < (24 : Int32) then
      if (S.1 66 7) ≤ a1 then
        some ((1 : Int32), S)
      else
        some ((0 : Int32), S)
    else
      some ((3 : Int32), S)
theorem dX2_trackFinding_0 : decode cX2_trackFinding 0 = .ok (.iload_n 1, 1) := dc_27 (by decide +kernel)
theorem dX2_trackFinding_1 : decode cX2_trackFinding 1 = .ok (.ifCond .lt 9, 3) := dc_155 (a := 0) (b := 9) (by decide +kernel) (by decide)
theorem dX2_trackFinding_4 : decode cX2_trackFinding 4 = .ok (.iload_n 1, 1) := dc_27 (by decide +kernel)
theorem dX2_trackFinding_5 : decode cX2_trackFinding 5 = .ok (.bipush 24, 2) := dc_16 (a := 24) (by decide +kernel) (by decide)
theorem dX2_trackFinding_7 : decode cX2_trackFinding 7 = .ok (.if_icmp .lt 5, 3) := dc_161 (a := 0) (b := 5) (by decide +kernel) (by decide)
theorem dX2_trackFinding_10 : decode cX2_trackFinding 10 = .ok (.iconst 3, 1) := dc_6 (by decide +kernel)
theorem dX2_trackFinding_11 : decode cX2_trackFinding 11 = .ok (.ireturn, 1) := dc_172 (by decide +kernel)
theorem dX2_trackFinding_12 : decode cX2_trackFinding 12 = .ok (.iload_n 1, 1) := dc_27 (by decide +kernel)
theorem dX2_trackFinding_13 : decode cX2_trackFinding 13 = .ok (.aload_n 0, 1) := dc_42 (by decide +kernel)
theorem dX2_trackFinding_14 : decode cX2_trackFinding 14 = .ok (.getfield 31, 3) := dc_180 (a := 0) (b := 31) (by decide +kernel)
theorem dX2_trackFinding_17 : decode cX2_trackFinding 17 = .ok (.if_icmp .ge 7, 3) := dc_162 (a := 0) (b := 7) (by decide +kernel) (by decide)
theorem dX2_trackFinding_20 : decode cX2_trackFinding 20 = .ok (.iconst 0, 1) := dc_3 (by decide +kernel)
theorem dX2_trackFinding_21 : decode cX2_trackFinding 21 = .ok (.goto 4, 3) := dc_167 (a := 0) (b := 4) (by decide +kernel) (by decide)
theorem dX2_trackFinding_24 : decode cX2_trackFinding 24 = .ok (.iconst 1, 1) := dc_4 (by decide +kernel)
theorem dX2_trackFinding_25 : decode cX2_trackFinding 25 = .ok (.ireturn, 1) := dc_172 (by decide +kernel)
set_option maxRecDepth 100000 in
set_option maxHeartbeats 4000000 in
theorem m_Layout_trackFinding (a1 : Int32) (S S' : SS) (r : Int32) (h : f_Layout_trackFinding a1 S = some (r, S')) : MT yX2_trackFinding cX2_trackFinding 2 (some .int) 0 0 (fun ad => [.ref (ad 66), .int a1]) S (some (.int r)) S' := by
  refine MT.of RX2 (fun ad => [(0, .ref (ad 66)), (1, .int a1)]) (by decide) rfl (fun _ => Nat.le_of_ble_eq_true rfl) (fun _ => rfl) ?_
  intro p l e R s m args below meth c dC dI cs ad A hR1 hR2 F H locs ls w hl
  have hx := F.1.1
  have hb := F.1.2.1
  rw [f_Layout_trackFinding] at h
  refine lv_iload_n (pc := 0) hx hb dX2_trackFinding_0 rfl (lv_at hl 1 rfl) ?_
  refine lv_if_lt (pc := 1) (tgt := 10) hx hb dX2_trackFinding_1 (by decide) (fun q => ?_) (fun q => ?_)
  · have h := ite_t q h
    refine lv_iconst (pc := 10) (v := 3) hx hb dX2_trackFinding_10 (by decide) ?_
    exact s_iret F w h dX2_trackFinding_11
  · have h := ite_f q h
    refine lv_iload_n (pc := 4) hx hb dX2_trackFinding_4 rfl (lv_at hl 1 rfl) ?_
    refine lv_bipush (pc := 5) (v := 24) hx hb dX2_trackFinding_5 (by decide) ?_
    refine lv_icmp_lt (pc := 7) (tgt := 12) hx hb dX2_trackFinding_7 (by decide) (fun q => ?_) (fun q => ?_)
    · have h := ite_t q h
      refine lv_iload_n (pc := 12) hx hb dX2_trackFinding_12 rfl (lv_at hl 1 rfl) ?_
      refine lv_aload_n (pc := 13) hx hb dX2_trackFinding_13 rfl (lv_at hl 0 rfl) ?_
      refine s_getI (pc := 14) F w ds_66 (j := 7) vc_X2 vi_X2 rfl (by decide) kf_X2_31 dX2_trackFinding_14 ?_
      refine lv_icmp_ge (pc := 17) (tgt := 24) hx hb dX2_trackFinding_17 (by decide) (fun q => ?_) (fun q => ?_)
      · have h := ite_t q h
        refine lv_iconst (pc := 24) (v := 1) hx hb dX2_trackFinding_24 (by decide) ?_
        exact s_iret F w h dX2_trackFinding_25
      · have h := ite_f q h
        refine lv_iconst (pc := 20) (v := 0) hx hb dX2_trackFinding_20 (by decide) ?_
        refine lv_goto (pc := 21) (tgt := 25) hx hb dX2_trackFinding_21 (by decide) ?_
        exact s_iret F w h dX2_trackFinding_25
    · have h := ite_f q h
      refine lv_iconst (pc := 10) (v := 3) hx hb dX2_trackFinding_10 (by decide) ?_
      exact s_iret F w h dX2_trackFinding_11
def f_Layout_isEnd (a0 : Int32) (S : SS) : Option (Int32 × SS) :=
  if a0 < 0 then
    some ((0 : Int32), S)
  else
    if (48 : Int32) ≤ a0 then
      some ((0 : Int32), S)
    else
      some ((1 : Int32), S)
theorem dX2_isEnd_0 : decode cX2_isEnd 0 = .ok (.iload_n 0, 1) := dc_26 (by decide +kernel)
theorem dX2_isEnd_1 : decode cX2_isEnd 1 = .ok (.ifCond .lt 13, 3) := dc_155 (a := 0) (b := 13) (by decide +kernel) (by decide)
theorem dX2_isEnd_4 : decode cX2_isEnd 4 = .ok (.iload_n 0, 1) := dc_26 (by decide +kernel)
theorem dX2_isEnd_5 : decode cX2_isEnd 5 = .ok (.bipush 48, 2) := dc_16 (a := 48) (by decide +kernel) (by decide)
theorem dX2_isEnd_7 : decode cX2_isEnd 7 = .ok (.if_icmp .ge 7, 3) := dc_162 (a := 0) (b := 7) (by decide +kernel) (by decide)
theorem dX2_isEnd_10 : decode cX2_isEnd 10 = .ok (.iconst 1, 1) := dc_4 (by decide +kernel)
theorem dX2_isEnd_11 : decode cX2_isEnd 11 = .ok (.goto 4, 3) := dc_167 (a := 0) (b := 4) (by decide +kernel) (by decide)
theorem dX2_isEnd_14 : decode cX2_isEnd 14 = .ok (.iconst 0, 1) := dc_3 (by decide +kernel)
theorem dX2_isEnd_15 : decode cX2_isEnd 15 = .ok (.ireturn, 1) := dc_172 (by decide +kernel)
set_option maxRecDepth 100000 in
set_option maxHeartbeats 4000000 in
theorem m_Layout_isEnd (a0 : Int32) (S S' : SS) (r : Int32) (h : f_Layout_isEnd a0 S = some (r, S')) : MT yX2_isEnd cX2_isEnd 1 (some .boolean) 0 0 (fun ad => [.int a0]) S (some (.int r)) S' := by
  refine MT.of RX2 (fun ad => [(0, .int a0)]) (by decide) rfl (fun _ => Nat.le_of_ble_eq_true rfl) (fun _ => rfl) ?_
  intro p l e R s m args below meth c dC dI cs ad A hR1 hR2 F H locs ls w hl
  have hx := F.1.1
  have hb := F.1.2.1
  rw [f_Layout_isEnd] at h
  refine lv_iload_n (pc := 0) hx hb dX2_isEnd_0 rfl (lv_at hl 0 rfl) ?_
  refine lv_if_lt (pc := 1) (tgt := 14) hx hb dX2_isEnd_1 (by decide) (fun q => ?_) (fun q => ?_)
  · have h := ite_t q h
    refine lv_iconst (pc := 14) (v := 0) hx hb dX2_isEnd_14 (by decide) ?_
    exact s_zretc F w rfl h dX2_isEnd_15
  · have h := ite_f q h
    refine lv_iload_n (pc := 4) hx hb dX2_isEnd_4 rfl (lv_at hl 0 rfl) ?_
    refine lv_bipush (pc := 5) (v := 48) hx hb dX2_isEnd_5 (by decide) ?_
    refine lv_icmp_ge (pc := 7) (tgt := 14) hx hb dX2_isEnd_7 (by decide) (fun q => ?_) (fun q => ?_)
    · have h := ite_t q h
      refine lv_iconst (pc := 14) (v := 0) hx hb dX2_isEnd_14 (by decide) ?_
      exact s_zretc F w rfl h dX2_isEnd_15
    · have h := ite_f q h
      refine lv_iconst (pc := 10) (v := 1) hx hb dX2_isEnd_10 (by decide) ?_
      refine lv_goto (pc := 11) (tgt := 15) hx hb dX2_isEnd_11 (by decide) ?_
      exact s_zretc F w rfl h dX2_isEnd_15
