/-! ===== the law: its entry ===== -/
theorem kcl_L_7 : Cond.classLink RL 7 RX11 ∈ lw_gt := lw_i1 18 rfl rfl
theorem kin_X11 : Cond.instantiable RX11 11 ∈ lw_gt := lw_i1 19 rfl rfl
theorem kc_X11_init : Cond.code yX11_init cX11_init 1 none ∈ lw_gt := lw_i1 22 rfl rfl
theorem ki_X11_init : Cond.instanceMethod yX11_init ∈ lw_gt := lw_i1 21 rfl rfl
theorem kl_L_9 : Cond.methodLink RL 9 yX11_init ∈ lw_gt := lw_i1 20 rfl rfl
theorem ok_X11_init : Ok yX11_init 0 := by decide +kernel
theorem kcl_L_10 : Cond.classLink RL 10 RX12 ∈ lw_gt := lw_i6 231 rfl rfl
theorem kin_X12 : Cond.instantiable RX12 89 ∈ lw_gt := lw_i6 232 rfl rfl
theorem kc_X12_init : Cond.code yX12_init cX12_init 2 none ∈ lw_gt := lw_i6 235 rfl rfl
theorem ki_X12_init : Cond.instanceMethod yX12_init ∈ lw_gt := lw_i6 234 rfl rfl
theorem kl_L_12 : Cond.methodLink RL 12 yX12_init ∈ lw_gt := lw_i6 233 rfl rfl
theorem ok_X12_init : Ok yX12_init 0 := by decide +kernel
theorem dL_law_0 : decode cL_law 0 = .ok (.new 7, 3) := dc_187 (a := 0) (b := 7) (by decide +kernel)
theorem dL_law_3 : decode cL_law 3 = .ok (.dup, 1) := dc_89 (by decide +kernel)
theorem dL_law_4 : decode cL_law 4 = .ok (.invokespecial 9, 3) := dc_183 (a := 0) (b := 9) (by decide +kernel)
theorem dL_law_7 : decode cL_law 7 = .ok (.astore_n 1, 1) := dc_76 (by decide +kernel)
theorem dL_law_8 : decode cL_law 8 = .ok (.new 10, 3) := dc_187 (a := 0) (b := 10) (by decide +kernel)
theorem dL_law_11 : decode cL_law 11 = .ok (.dup, 1) := dc_89 (by decide +kernel)
theorem dL_law_12 : decode cL_law 12 = .ok (.invokespecial 12, 3) := dc_183 (a := 0) (b := 12) (by decide +kernel)
theorem dL_law_15 : decode cL_law 15 = .ok (.astore_n 2, 1) := dc_77 (by decide +kernel)
theorem dL_law_16 : decode cL_law 16 = .ok (.iconst 0, 1) := dc_3 (by decide +kernel)
theorem dL_law_17 : decode cL_law 17 = .ok (.istore_n 3, 1) := dc_62 (by decide +kernel)
theorem lw_kn {s : State} {a : Array Value} (hg : ∀ w ∈ lw_gt, w.before a s = true) : ∃ (dC : Nat → ClassId) (dI : Nat → Nat → Nat), ∀ (k : Nat) (q : vw_C), vwCl[k]? = some q → u_Kn s q.1 q.2.1 q.2.2 (dC k) (dI k) := by
  have h : ∀ k : Nat, ∃ z : ClassId × (Nat → Nat), ∀ q : vw_C, vwCl[k]? = some q → u_Kn s q.1 q.2.1 q.2.2 z.1 z.2 := by
    intro k
    match k with
    | 0 =>
      obtain ⟨c, i, h⟩ := u_known hg vi_X0 (hg _ kin_X0)
      exact ⟨(c, i), fun q hq => by cases hq; exact h⟩
    | 1 =>
      obtain ⟨c, i, h⟩ := u_known hg vi_X1 (hg _ kin_X1)
      exact ⟨(c, i), fun q hq => by cases hq; exact h⟩
    | 2 =>
      obtain ⟨c, i, h⟩ := u_known hg vi_X2 (hg _ kin_X2)
      exact ⟨(c, i), fun q hq => by cases hq; exact h⟩
    | 3 =>
      obtain ⟨c, i, h⟩ := u_known hg vi_X3 (hg _ kin_X3)
      exact ⟨(c, i), fun q hq => by cases hq; exact h⟩
    | 4 =>
      obtain ⟨c, i, h⟩ := u_known hg vi_X4 (hg _ kin_X4)
      exact ⟨(c, i), fun q hq => by cases hq; exact h⟩
    | 5 =>
      obtain ⟨c, i, h⟩ := u_known hg vi_X5 (hg _ kin_X5)
      exact ⟨(c, i), fun q hq => by cases hq; exact h⟩
    | 6 =>
      obtain ⟨c, i, h⟩ := u_known hg vi_X6 (hg _ kin_X6)
      exact ⟨(c, i), fun q hq => by cases hq; exact h⟩
    | 7 =>
      obtain ⟨c, i, h⟩ := u_known hg vi_X7 (hg _ kin_X7)
      exact ⟨(c, i), fun q hq => by cases hq; exact h⟩
    | 8 =>
      obtain ⟨c, i, h⟩ := u_known hg vi_X8 (hg _ kin_X8)
      exact ⟨(c, i), fun q hq => by cases hq; exact h⟩
    | 9 =>
      obtain ⟨c, i, h⟩ := u_known hg vi_X9 (hg _ kin_X9)
      exact ⟨(c, i), fun q hq => by cases hq; exact h⟩
    | 10 =>
      obtain ⟨c, i, h⟩ := u_known hg vi_X10 (hg _ kin_X10)
      exact ⟨(c, i), fun q hq => by cases hq; exact h⟩
    | 11 =>
      obtain ⟨c, i, h⟩ := u_known hg vi_X11 (hg _ kin_X11)
      exact ⟨(c, i), fun q hq => by cases hq; exact h⟩
    | 12 =>
      obtain ⟨c, i, h⟩ := u_known hg vi_X12 (hg _ kin_X12)
      exact ⟨(c, i), fun q hq => by cases hq; exact h⟩
    | k + 13 => exact ⟨(0, fun _ => 0), fun q hq => by cases hq⟩
  exact ⟨fun k => (Classical.choose (h k)).1, fun k => (Classical.choose (h k)).2, fun k => Classical.choose_spec (h k)⟩
theorem lw_over {s : State} {a : Array Value} {t : FieldType} (h : (Cond.arrayOver (.array t)).before a s = true) : ∃ comp c k, s.vm.findClass (FieldType.array t).toString = some comp ∧ s.vm.classes[c]? = some k ∧ k.kind = .array comp (.array t) ∧ s.vm.findClass ("[" ++ (FieldType.array t).toString) = some c := by
  unfold Cond.before Cond.holds at h
  simp only [Cond.value, beq_iff_eq] at h
  cases hc : s.vm.findClass (FieldType.array t).toString with
  | none => rw [hc] at h; cases h
  | some comp =>
    rw [hc, Option.bind_some, Option.bind_eq_some_iff] at h
    obtain ⟨c, hi, h⟩ := h
    obtain ⟨k, hk, hb⟩ := Option.map_eq_some_iff.mp h
    obtain ⟨hlt, hp, -⟩ := Array.findIdx?_eq_some_iff_getElem.mp hi
    rw [(Array.getElem?_eq_some_iff.mp hk).2] at hp
    cases hkind : k.kind with
    | array component ty =>
      rw [hkind] at hb hp
      simp at hb hp
      exact ⟨comp, c, k, rfl, hk, by rw [hkind, hp, hb.1], hb.2⟩
    | _ => rw [hkind] at hb; simp at hb
theorem lw_ar {s : State} {a : Array Value} (h0 : (Cond.arrayClass .int).before a s = true) (h1 : (Cond.arrayClass .boolean).before a s = true) (h2 : (Cond.arrayOver (.array .int)).before a s = true) : ∃ cs : Nat → ClassId, (∀ (k : Nat) (q : ClassId × FieldType), (tyL cs)[k]? = some q → ArrOfT s q.1 q.2 ∧ va_RA s q.1 q.2) ∧ KA cs s := by
  obtain ⟨c0, k0, p0, a1, a2, a3⟩ := Cond.arrayClass_spec h0
  obtain ⟨c1, k1, p1, b1, b2, b3⟩ := Cond.arrayClass_spec h1
  obtain ⟨p2, c2, k2, e0, e2, e3, e1⟩ := lw_over h2
  have e : p2 = c0 := Option.some.inj (e0.symm.trans a1)
  subst e
  refine ⟨fun k => if k = 0 then p2 else if k = 1 then c1 else c2, fun k q hq => ?_, k2, e2, e3⟩
  match k, hq with
  | 0, hq => cases hq; exact ⟨fun n z => ⟨fun k h => (by cases h), k0, a2, p0, a3⟩, a1⟩
  | 1, hq => cases hq; exact ⟨fun n z => ⟨fun k h => (by cases h), k1, b2, p1, b3⟩, b1⟩
  | 2, hq => cases hq; exact ⟨fun n z => ⟨fun k h => (by cases h), k2, e2, p2, e3⟩, e1⟩
  | k + 3, hq => cases hq
theorem lw_nwC : ∀ w ∈ nwC, Cond.methodLinkNest w.1 w.2.1 w.2.2.1 w.2.2.2 ∈ lw_tbl := by decide +kernel
theorem lw_nwL : ∀ w ∈ nwL, Cond.methodLinkNest w.1 w.2.1 w.2.2.1 w.2.2.2 ∈ lw_tbl := by decide +kernel
theorem lw_a0 : Cond.arrayClass .int ∈ lw_tbl := by decide +kernel
theorem lw_a1 : Cond.arrayClass .boolean ∈ lw_tbl := by decide +kernel
theorem lw_a2 : Cond.arrayOver (.array .int) ∈ lw_tbl := by decide +kernel
set_option maxRecDepth 100000 in
set_option maxHeartbeats 8000000 in
/-- from the law's entry, through both makers, to its loop, with the first world -/
theorem lw_entry {p : Program} {l : Launch} {e : Env} {s : State} {m : MethodId} {below : List Frame} {meth : Method} {c : Code} {b L : Nat} {xs : Nat → Int32} {Q : State → Prop} (C0 : lw_At p s m meth c b L xs)
    (kk : ∀ (dC : Nat → ClassId) (dI : Nat → Nat → Nat) (cs : Nat → ClassId) (ad : Nat → Nat) (H : Heap) (locs : List Loc) (ls : Array Slot), Fx p s m #[Value.ref b] meth c cL_law 4 RL ret dC dI cs (fun q : Nat => s.heap.size ≤ q) → Wo dC dI cs ad (fun q : Nat => s.heap.size ≤ q) s.heap S0.2 S0 H locs → lv_has ls 4 [(0, .ref b), (1, .ref (ad 61)), (2, .ref (ad 0)), (3, .int (nI 0))] → W p l e room_1 s m #[Value.ref b] below meth c H locs 128 69713 Q (F0 m 18 ls [])) : W p l e room_1 s m #[Value.ref b] below meth c s.heap [] 0 0 Q (entryFrame m ([Value.ref b] : List Value).toArray 4) := by
  obtain ⟨hx, hb, hr, hml, hown, hts, hX, hbl, hlocks, hgv⟩ := id C0
  have hb : c.code = cL_law := hb
  have hown : s.vm.findClass RL = some m.cls := hown
  have hg : ∀ w ∈ lw_gt, w.before #[Value.ref b] s = true := fun w hw => hts w (List.mem_filter.mp hw).1
  have hA : ∀ q : Nat, s.heap.size ≤ q → (fun q : Nat => s.heap.size ≤ q) q := fun _ h => h
  obtain ⟨dC, dI, hKc⟩ := lw_kn hg
  obtain ⟨cs, hKt, hKA⟩ := lw_ar (hts _ lw_a0) (hts _ lw_a1) (hts _ lw_a2)
  have hK : va_K (dC, dI) vwCl (tyL cs) s := ⟨hKc, hKt⟩
  have hNk : Nk cs s := ⟨fun w hw => va_Nw.of rfl (hts _ (lw_nwC w hw)), hKA⟩
  have hNw : Nw cs s := ⟨fun w hw => va_Nw.of rfl (hts _ (lw_nwL w hw)), hKA⟩
  have hS : va_S (fun q : Nat => s.heap.size ≤ q) s.heap s.heap [] := va_S.rf
  have hP : va_P (dC, dI) vwCl [] s.heap := fun k q h => by simp at h
  have hD : va_D (fun q : Nat => s.heap.size ≤ q) [] := ⟨fun i j p q h => by simp at h, fun k q h => by simp at h⟩
  have hl := lv_entry ([.ref b]) (n := 4) (Nat.le_of_ble_eq_true rfl)
  rw [lg_entry_eq]
  generalize (lg_sl ([.ref b]) ++ List.replicate (4 - (lg_sl ([.ref b])).length) Slot.unset).toArray = ls at hl ⊢
  have hl : lv_has ls 4 [(0, .ref b)] := hl
  refine va_new (pc := 0) (ci := 11) (fs := [.null, .null, .null, .null, .null, .null, .null, .null, .null, .null, .null]) (C := RX11) (T := TX11) (N := 11) hx hb hg vi_X11 tyX11 tyX11_ok hown (hg _ kcl_L_7) (hg _ kin_X11) (hg _ kn_X11) hK hP hD hS hA vc_X11 (by decide +kernel) (Nat.le_of_ble_eq_true rfl) (Nat.le_of_ble_eq_true rfl) dL_law_0 (fun x0 H hP hD hS => ?_)
  have hP : va_P (dC, dI) vwCl [(x0, .inr (11, [.null, .null, .null, .null, .null, .null, .null, .null, .null, .null, .null]))] H := hP
  have hD : va_D (fun q : Nat => s.heap.size ≤ q) [(x0, .inr (11, [.null, .null, .null, .null, .null, .null, .null, .null, .null, .null, .null]))] := hD
  refine lv_dup (pc := 3) hx hb dL_law_3 rfl ?_
  have hPc := hP.sub (ws' := [(x0, .inr (11, [.null, .null, .null, .null, .null, .null, .null, .null, .null, .null, .null]))]) [0] rfl
  have hDc := hD.sub (ws' := [(x0, .inr (11, [.null, .null, .null, .null, .null, .null, .null, .null, .null, .null, .null]))]) [0] (by decide) rfl
  refine k_back (pc := 4) (w0 := [(x0, .inr (11, [.null, .null, .null, .null, .null, .null, .null, .null, .null, .null, .null]))]) (wr := []) (mc := 66) (ms := 12252) (wq := wq_X11_init x0 cs) (rest := [.ref x0]) (st0 := [.ref x0, .ref x0]) hA hP hD hS [0] [] rfl rfl (by decide) (by decide) (va_runI (As := []) (rest := [.ref x0]) (b := x0) ⟨hx, hb, hml, hown, hg⟩ (c_X11_init x0 l dC dI cs H.size) ⟨callB_of 0 hg (s_wsg kc_X11_init) rfl rfl rfl (hg _ kn_X11) (hg _ kl_L_9) ok_X11_init ⟨Nat.le_of_ble_eq_true rfl, Nat.le_of_ble_eq_true rfl⟩, rfl, hg _ ki_X11_init⟩ ⟨Pk_blind, fun U hU hW => ⟨rfl, by rw [hU], by rw [hU]; exact hPc, va_K.moved hW.alike hK, hDc.weaken (fun _ _ _ _ => trivial), hNk.warm hW⟩⟩ rfl rfl hl.1 rfl (lv_room (Nat.le_of_ble_eq_true rfl)) dL_law_4 ⟨Nat.le_of_ble_eq_true rfl, Nat.le_of_ble_eq_true rfl⟩) (fun qx H locs hP hD hS => ?_)
  have hP : va_P (dC, dI) vwCl (wq_X11_init x0 cs qx) H := hP
  have hD : va_D (fun q : Nat => s.heap.size ≤ q) (wq_X11_init x0 cs qx) := hD
  refine lv_astore_n (pc := 7) (lv' := [(1, .ref x0), (0, .ref b)]) hx hb dL_law_7 rfl hl (by decide) rfl (fun ls hl => ?_)
  refine va_new (pc := 8) (ci := 12) (fs := [.int 0, .int 0, .int 0, .int 0, .null, .int 0, .null, .int 0, .null, .null, .null, .null, .null, .null, .int 0, .int 0, .null, .null, .null, .int 0, .null, .null, .null, .null, .null, .null, .int 0, .int 0, .int 0, .int 0, .null, .null, .null, .null, .null, .null, .null, .null, .null, .null, .null, .null, .null, .null, .null, .null, .null, .int 0, .int 0, .int 0, .null, .null, .null, .null, .int 0, .null, .int 0, .int 0, .int 0, .null, .int 0, .int 0, .int 0, .null, .null, .null, .int 0, .int 0, .null, .null, .int 0, .null, .null, .null, .null, .null, .int 0, .int 0, .null, .null, .null, .int 0, .null, .null, .null, .null, .null, .null, .null]) (C := RX12) (T := TX12) (N := 89) hx hb hg vi_X12 tyX12 tyX12_ok hown (hg _ kcl_L_10) (hg _ kin_X12) (hg _ kn_X12) hK hP hD hS hA vc_X12 (by decide +kernel) (Nat.le_of_ble_eq_true rfl) (Nat.le_of_ble_eq_true rfl) dL_law_8 (fun m0 H hP hD hS => ?_)
  refine lv_dup (pc := 11) hx hb dL_law_11 rfl ?_
  have hPc := hP.sub (ws' := [(m0, .inr (12, [.int 0, .int 0, .int 0, .int 0, .null, .int 0, .null, .int 0, .null, .null, .null, .null, .null, .null, .int 0, .int 0, .null, .null, .null, .int 0, .null, .null, .null, .null, .null, .null, .int 0, .int 0, .int 0, .int 0, .null, .null, .null, .null, .null, .null, .null, .null, .null, .null, .null, .null, .null, .null, .null, .null, .null, .int 0, .int 0, .int 0, .null, .null, .null, .null, .int 0, .null, .int 0, .int 0, .int 0, .null, .int 0, .int 0, .int 0, .null, .null, .null, .int 0, .int 0, .null, .null, .int 0, .null, .null, .null, .null, .null, .int 0, .int 0, .null, .null, .null, .int 0, .null, .null, .null, .null, .null, .null, .null]))]) [67] rfl
  have hDc := hD.sub (ws' := [(m0, .inr (12, [.int 0, .int 0, .int 0, .int 0, .null, .int 0, .null, .int 0, .null, .null, .null, .null, .null, .null, .int 0, .int 0, .null, .null, .null, .int 0, .null, .null, .null, .null, .null, .null, .int 0, .int 0, .int 0, .int 0, .null, .null, .null, .null, .null, .null, .null, .null, .null, .null, .null, .null, .null, .null, .null, .null, .null, .int 0, .int 0, .int 0, .null, .null, .null, .null, .int 0, .null, .int 0, .int 0, .int 0, .null, .int 0, .int 0, .int 0, .null, .null, .null, .int 0, .int 0, .null, .null, .int 0, .null, .null, .null, .null, .null, .int 0, .int 0, .null, .null, .null, .int 0, .null, .null, .null, .null, .null, .null, .null]))]) [67] (by decide) rfl
  refine k_back (pc := 12) (w0 := [(m0, .inr (12, [.int 0, .int 0, .int 0, .int 0, .null, .int 0, .null, .int 0, .null, .null, .null, .null, .null, .null, .int 0, .int 0, .null, .null, .null, .int 0, .null, .null, .null, .null, .null, .null, .int 0, .int 0, .int 0, .int 0, .null, .null, .null, .null, .null, .null, .null, .null, .null, .null, .null, .null, .null, .null, .null, .null, .null, .int 0, .int 0, .int 0, .null, .null, .null, .null, .int 0, .null, .int 0, .int 0, .int 0, .null, .int 0, .int 0, .int 0, .null, .null, .null, .int 0, .int 0, .null, .null, .int 0, .null, .null, .null, .null, .null, .int 0, .int 0, .null, .null, .null, .int 0, .null, .null, .null, .null, .null, .null, .null]))]) (wr := wq_X11_init x0 cs qx) (mc := 60) (ms := 57361) (wq := wq_X12_init m0 cs) (rest := [.ref m0]) (st0 := [.ref m0, .ref m0]) hA hP hD hS [67] [0, 1, 2, 3, 4, 5, 6, 7, 8, 9, 10, 11, 12, 13, 14, 15, 16, 17, 18, 19, 20, 21, 22, 23, 24, 25, 26, 27, 28, 29, 30, 31, 32, 33, 34, 35, 36, 37, 38, 39, 40, 41, 42, 43, 44, 45, 46, 47, 48, 49, 50, 51, 52, 53, 54, 55, 56, 57, 58, 59, 60, 61, 62, 63, 64, 65, 66] rfl rfl (by decide) (by decide) (va_runI (As := []) (rest := [.ref m0]) (b := m0) ⟨hx, hb, hml, hown, hg⟩ (c_X12_init m0 l dC dI cs H.size) ⟨callB_of 0 hg (s_wsg kc_X12_init) rfl rfl rfl (hg _ kn_X12) (hg _ kl_L_12) ok_X12_init ⟨Nat.le_of_ble_eq_true rfl, Nat.le_of_ble_eq_true rfl⟩, rfl, hg _ ki_X12_init⟩ ⟨Pk_blind, fun U hU hW => ⟨rfl, by rw [hU], by rw [hU]; exact hPc, va_K.moved hW.alike hK, hDc.weaken (fun _ _ _ _ => trivial), hNk.warm hW⟩⟩ rfl rfl hl.1 rfl (lv_room (Nat.le_of_ble_eq_true rfl)) dL_law_12 ⟨Nat.le_of_ble_eq_true rfl, Nat.le_of_ble_eq_true rfl⟩) (fun qm H locs hP hD hS => ?_)
  have hw := start_world x0 m0 qx qm hP hD
  refine lv_astore_n (pc := 15) (lv' := [(2, .ref m0), (1, .ref x0), (0, .ref b)]) hx hb dL_law_15 rfl hl (by decide) rfl (fun ls hl => ?_)
  refine lv_iconst (pc := 16) (v := 0) hx hb dL_law_16 (by decide) ?_
  refine lv_istore_n (pc := 17) (lv' := [(3, .int 0), (2, .ref m0), (1, .ref x0), (0, .ref b)]) hx hb dL_law_17 rfl hl (by decide) rfl (fun ls hl => ?_)
  exact W.widen (Nat.le_of_ble_eq_true rfl) (Nat.le_of_ble_eq_true rfl) (kk dC dI cs (ad0 x0 m0 qx qm) H locs ls ⟨⟨hx, hb, hml, hown, hg⟩, hr, hlocks, hK, hA, hNw⟩ ⟨hw.1, hw.2, hS, rfl⟩ (lv_sub hl [3, 2, 1, 0] rfl))
