/-! ===== calls of makers, and Arrays.fill in a world of one array ===== -/
section KC
variable {p : Program} {l : Launch} {e : Env} {R : Room} {s : State} {m : MethodId} {args : Array Value} {below : List Frame} {meth : Method} {c : Code} {H : Heap} {locs : List Loc} {Q : State → Prop}
variable {cc : ByteArray} {pc nL : Nat} {own : String} {ls : Array Slot} {rest : List Value} {dC : Nat → ClassId} {dI : Nat → Nat → Nat} {cs : Nat → ClassId} {A : Nat → Prop} {cells slots mc ms : Nat} {ws w0 wr : va_W} {wq : (Nat → Nat) → va_W}
theorem k_back {st0 : List Value} {a : Array Value} (hA : ∀ q, s.heap.size ≤ q → A q) (hP : va_P (dC, dI) vwCl ws H) (hD : va_D A ws) (hS : va_S A s.heap H locs) (isC isR : List Nat) (hC : isC.map (fun i => ws[i]?) = w0.map some) (hR : isR.map (fun i => ws[i]?) = wr.map some) (hnd : va_nd isR = true) (hdis : ∀ i ∈ isR, i ∉ isC) (hr : va_Run p l e R s m args below meth c H locs cells slots mc ms (F0 m pc ls st0) rest (Qk dC dI (va_A w0 H.size) wq a) (va_A w0 H.size))
    (kk : ∀ (q : Nat → Nat) (H1 : Heap) (locs1 : List Loc), va_P (dC, dI) vwCl (wr ++ wq q) H1 → va_D A (wr ++ wq q) → va_S A s.heap H1 locs1 → W p l e R s m args below meth c H1 locs1 (cells + mc) (slots + ms) Q (F0 m (pc + 3) ls rest)) : W p l e R s m args below meth c H locs cells slots Q (F0 m pc ls st0) := by
  have hF := va_free hD hS hA isC hC
  intro T hT X
  obtain ⟨v', st₀, t, T', L, h0, X', hL, e1, e2, ⟨⟨hv, q, hP1, hD1⟩, hz, hk⟩, st⟩ := hr T hT X
  cases hv
  rw [h0] at hz hk
  rw [← e1] at hP1 hz hk
  obtain ⟨hPj, hDj⟩ := va_join hP hD isC isR hC hR hnd hdis hk hF hP1 hD1
  obtain ⟨t2, a1, b1⟩ := kk q T'.heap (locs ++ L) hPj hDj ⟨Nat.le_trans hS.1 hz, fun q h1 h2 => by rw [hk q (Nat.lt_of_lt_of_le h1 hS.1) (fun z => h2 (hF q z))]; exact hS.2.1 q h1 h2, fun q hq => by
      rcases List.mem_append.mp hq with h | h
      · exact hS.2.2 q h
      · exact hF _ (hL q h)⟩ T' rfl X'
  exact ⟨t2, st t2 a1, b1⟩
theorem k_ctor {w0 : (Nat → ClassId) → va_W} {b index nY n fr lo : Nat} {y : MethodName} {cy : ByteArray} {wqc : (Nat → ClassId) → (Nat → Nat) → va_W} {st0 : List Value} (As : List Value) (F : Fk p s m args meth c cc nL own dC dI cs A) (hP : va_P (dC, dI) vwCl ws H) (hD : va_D A ws) (hS : va_S A s.heap H locs) (hM : MK y cy nY fr lo mc ms (.ref b :: As) w0 wqc) (isC isR : List Nat) (hC : isC.map (fun i => ws[i]?) = (w0 cs).map some) (hC2 : isC.filterMap (fun i => ws[i]?) = w0 cs) (hndc : va_nd isC = true) (hR : isR.map (fun i => ws[i]?) = wr.map some) (hnd : va_nd isR = true) (hdis : ∀ i ∈ isR, i ∉ isC) (hst : st0 = As.reverse ++ .ref b :: rest) (hls : ls.size = nL)
    (hok : Ok y n) (hyn : y.name = "<init>") (hn : As.length = n) (hcode : Cond.code y cy nY none ∈ lw_gt) (hl : Cond.methodLink own index y ∈ lw_gt) (hin : Cond.instanceMethod y ∈ lw_gt) (hi : Cond.initialized y.cls ∈ lw_gt) (hRm : fr + 1 ≤ R.frames ∧ 8 + (nY + 11) + lo ≤ R.locals) (hcs : cells + mc ≤ R.cells ∧ slots + ms ≤ R.slots) (hrm : (rest.map fun v => v.category).sum ≤ 8) (hdg : decode cc pc = .ok (.invokespecial index, 3))
    (kk : ∀ (q : Nat → Nat) (H1 : Heap) (locs1 : List Loc), va_P (dC, dI) vwCl (wr ++ wqc cs q) H1 → va_D A (wr ++ wqc cs q) → va_S A s.heap H1 locs1 → W p l e R s m args below meth c H1 locs1 (cells + mc) (slots + ms) Q (F0 m (pc + 3) ls rest)) : W p l e R s m args below meth c H locs cells slots Q (F0 m pc ls st0) := by
  obtain ⟨⟨hx, hb, hml, hown, hts⟩, -, -, hK, hA, hN, -⟩ := F
  have hPc := hP.sub isC hC2
  have hDc := hD.sub isC hndc hC
  exact k_back hA hP hD hS isC isR hC hR hnd hdis (va_runI (As := As) (rest := rest) (b := b) ⟨hx, hb, hml, hown, hts⟩ (hM l dC dI cs H.size) ⟨callB_of n hts (s_wsg hcode) rfl rfl rfl (hts _ hi) (hts _ hl) hok hRm, hyn, hts _ hin⟩ ⟨Pk_blind, fun U hU hW => ⟨rfl, by rw [hU], by rw [hU]; exact hPc, va_K.moved hW.alike hK, hDc.weaken (fun _ _ _ _ => trivial), hN.warm hW⟩⟩ rfl hn hls hst (lv_room hrm) hdg hcs) kk
theorem k_ctorN {w0 : (Nat → ClassId) → va_W} {b index nY n fr lo : Nat} {y : MethodName} {host : String} {cy : ByteArray} {wqc : (Nat → ClassId) → (Nat → Nat) → va_W} {st0 : List Value} (As : List Value) (F : Fk p s m args meth c cc nL own dC dI cs A) (hP : va_P (dC, dI) vwCl ws H) (hD : va_D A ws) (hS : va_S A s.heap H locs) (hM : MK y cy nY fr lo mc ms (.ref b :: As) w0 wqc) (isC isR : List Nat) (hC : isC.map (fun i => ws[i]?) = (w0 cs).map some) (hC2 : isC.filterMap (fun i => ws[i]?) = w0 cs) (hndc : va_nd isC = true) (hR : isR.map (fun i => ws[i]?) = wr.map some) (hnd : va_nd isR = true) (hdis : ∀ i ∈ isR, i ∉ isC) (hst : st0 = As.reverse ++ .ref b :: rest) (hls : ls.size = nL)
    (hok : Ok y n) (hyn : y.name = "<init>") (hn : As.length = n) (hcode : Cond.code y cy nY none ∈ lw_gt) (hl : (own, index, y, host) ∈ nwC) (hin : Cond.instanceMethod y ∈ lw_gt) (hi : Cond.initialized y.cls ∈ lw_gt) (hRm : fr + 1 ≤ R.frames ∧ 8 + (nY + 11) + lo ≤ R.locals) (hcs : cells + mc ≤ R.cells ∧ slots + ms ≤ R.slots) (hrm : (rest.map fun v => v.category).sum ≤ 8) (hdg : decode cc pc = .ok (.invokespecial index, 3))
    (kk : ∀ (q : Nat → Nat) (H1 : Heap) (locs1 : List Loc), va_P (dC, dI) vwCl (wr ++ wqc cs q) H1 → va_D A (wr ++ wqc cs q) → va_S A s.heap H1 locs1 → W p l e R s m args below meth c H1 locs1 (cells + mc) (slots + ms) Q (F0 m (pc + 3) ls rest)) : W p l e R s m args below meth c H locs cells slots Q (F0 m pc ls st0) := by
  obtain ⟨⟨hx, hb, hml, hown, hts⟩, -, -, hK, hA, hN, -⟩ := F
  have hPc := hP.sub isC hC2
  have hDc := hD.sub isC hndc hC
  exact k_back hA hP hD hS isC isR hC hR hnd hdis (va_runIN (As := As) (rest := rest) (b := b) (host := host) ⟨hx, hb, hml, hown, hts⟩ (hM l dC dI cs H.size) ⟨va_cnB n hts (s_wsg hcode) rfl rfl rfl (hN.1 _ hl) (hts _ hi) hok hRm, hyn, hts _ hin⟩ ⟨Pk_blind, fun U hU hW => ⟨rfl, by rw [hU], by rw [hU]; exact hPc, va_K.moved hW.alike hK, hDc.weaken (fun _ _ _ _ => trivial), hN.warm hW⟩⟩ rfl hn hls hst (lv_room hrm) hdg hcs) kk
/-- a static call whose world is a part of this one -/
theorem k_stat {w0 : (Nat → ClassId) → va_W} {index nY n fr lo : Nat} {y : MethodName} {cy : ByteArray} {wqc : (Nat → ClassId) → (Nat → Nat) → va_W} {st0 : List Value} (As : List Value) (F : Fk p s m args meth c cc nL own dC dI cs A) (hP : va_P (dC, dI) vwCl ws H) (hD : va_D A ws) (hS : va_S A s.heap H locs) (hM : MK y cy nY fr lo mc ms As w0 wqc) (isC isR : List Nat) (hC : isC.map (fun i => ws[i]?) = (w0 cs).map some) (hC2 : isC.filterMap (fun i => ws[i]?) = w0 cs) (hndc : va_nd isC = true) (hR : isR.map (fun i => ws[i]?) = wr.map some) (hnd : va_nd isR = true) (hdis : ∀ i ∈ isR, i ∉ isC) (hst : st0 = As.reverse ++ rest) (hls : ls.size = nL)
    (hok : Ok y n) (hn : As.length = n) (hcode : Cond.code y cy nY none ∈ lw_gt) (hl : Cond.methodLink own index y ∈ lw_gt) (hin : Cond.static y ∈ lw_gt) (hi : Cond.initialized y.cls ∈ lw_gt) (hRm : fr + 1 ≤ R.frames ∧ 8 + (nY + 11) + lo ≤ R.locals) (hcs : cells + mc ≤ R.cells ∧ slots + ms ≤ R.slots) (hrm : (rest.map fun v => v.category).sum ≤ 8) (hdg : decode cc pc = .ok (.invokestatic index, 3))
    (kk : ∀ (q : Nat → Nat) (H1 : Heap) (locs1 : List Loc), va_P (dC, dI) vwCl (wr ++ wqc cs q) H1 → va_D A (wr ++ wqc cs q) → va_S A s.heap H1 locs1 → W p l e R s m args below meth c H1 locs1 (cells + mc) (slots + ms) Q (F0 m (pc + 3) ls rest)) : W p l e R s m args below meth c H locs cells slots Q (F0 m pc ls st0) := by
  obtain ⟨⟨hx, hb, hml, hown, hts⟩, -, -, hK, hA, hN, -⟩ := F
  have hPc := hP.sub isC hC2
  have hDc := hD.sub isC hndc hC
  exact k_back hA hP hD hS isC isR hC hR hnd hdis (va_runS (As := As) (rest := rest) ⟨hx, hb, hml, hown, hts⟩ (hM l dC dI cs H.size) ⟨callB_of n hts (s_wsg hcode) rfl rfl rfl (hts _ hi) (hts _ hl) hok hRm, hts _ hin⟩ ⟨Pk_blind, fun U hU hW => ⟨rfl, by rw [hU], by rw [hU]; exact hPc, va_K.moved hW.alike hK, hDc.weaken (fun _ _ _ _ => trivial), hN.warm hW⟩⟩ rfl hn hls hst (lv_room hrm) hdg hcs) kk
end KC
theorem dA_0 : decode cJ7_fill_53178 0 = .ok (.iconst 0, 1) := dc_3 (by decide +kernel)
theorem dA_1 : decode cJ7_fill_53178 1 = .ok (.istore_n 2, 1) := dc_61 (by decide +kernel)
theorem dA_2 : decode cJ7_fill_53178 2 = .ok (.aload_n 0, 1) := dc_42 (by decide +kernel)
theorem dA_3 : decode cJ7_fill_53178 3 = .ok (.arraylength, 1) := dc_190 (by decide +kernel)
theorem dA_4 : decode cJ7_fill_53178 4 = .ok (.istore_n 3, 1) := dc_62 (by decide +kernel)
theorem dA_5 : decode cJ7_fill_53178 5 = .ok (.iload_n 2, 1) := dc_28 (by decide +kernel)
theorem dA_6 : decode cJ7_fill_53178 6 = .ok (.iload_n 3, 1) := dc_29 (by decide +kernel)
theorem dA_7 : decode cJ7_fill_53178 7 = .ok (.if_icmp .ge 13, 3) := dc_162 (a := 0) (b := 13) (by decide +kernel) (by decide)
theorem dA_10 : decode cJ7_fill_53178 10 = .ok (.aload_n 0, 1) := dc_42 (by decide +kernel)
theorem dA_11 : decode cJ7_fill_53178 11 = .ok (.iload_n 2, 1) := dc_28 (by decide +kernel)
theorem dA_12 : decode cJ7_fill_53178 12 = .ok (.iload_n 1, 1) := dc_27 (by decide +kernel)
theorem dA_13 : decode cJ7_fill_53178 13 = .ok (.iastore, 1) := dc_79 (by decide +kernel)
theorem dA_14 : decode cJ7_fill_53178 14 = .ok (.iinc 2 1, 3) := dc_132 (a := 2) (b := 1) (by decide +kernel) (by decide)
theorem dA_17 : decode cJ7_fill_53178 17 = .ok (.goto (-12), 3) := dc_167 (a := 255) (b := 244) (by decide +kernel) (by decide)
theorem dA_20 : decode cJ7_fill_53178 20 = .ok (.return_, 1) := dc_177 (by decide +kernel)
set_option maxRecDepth 100000 in
set_option maxHeartbeats 4000000 in
/-- Arrays.fill(a, v) in a world of that array alone -/
theorem c_fill (a n : Nat) (f : Nat → Int32) (v : Int32) (hn : n < 100000) : MK yJ7_fill_53178 cJ7_fill_53178 4 0 0 0 0 [.ref a, .int v] (fun cs => [(a, .inl (cs 0, (n, .inl f)))]) (fun cs _ => [(a, .inl (cs 0, (n, .inl (fun j => if j < n then v else f j))))]) := by
  intro l dC dI cs sz
  refine va_MetF (cc := cJ7_fill_53178) (maxL := 4) (ret := none) (by decide +kernel) rfl ?_
  intro p e s m args below meth c s₁ B hml hv
  obtain ⟨rfl, hsz, hP, hK, hD0, hN⟩ := hv
  have hx := B.exec
  have hb := B.bytes
  have hr := B.returns
  have hlk := B.notSynchronized
  subst hsz
  have hD := hD0.self (sz := s.heap.size)
  have hl := lv_entry ([.ref a, .int v]) (n := 4) (Nat.le_of_ble_eq_true rfl)
  rw [lg_entry_eq]
  generalize (lg_sl ([.ref a, .int v]) ++ List.replicate (4 - (lg_sl ([.ref a, .int v])).length) Slot.unset).toArray = ls at hl ⊢
  have hl : lv_has ls 4 [(0, .ref a), (1, .int v)] := hl
  refine lv_iconst (pc := 0) (v := 0) hx hb dA_0 (by decide) ?_
  refine lv_istore_n (pc := 1) (lv' := [(2, .int 0), (0, .ref a), (1, .int v)]) hx hb dA_1 rfl hl (by decide) rfl (fun ls hl => ?_)
  refine lv_aload_n (pc := 2) hx hb dA_2 rfl (lv_at hl 1 rfl) ?_
  refine va_alen (pc := 3) (x := (n, .inl f)) hx hb hK hP 0 0 rfl (ty := .int) rfl (v := nI n) rfl dA_3 ?_
  refine lv_istore_n (pc := 4) (lv' := [(3, .int (nI n)), (2, .int 0), (0, .ref a), (1, .int v)]) hx hb dA_4 rfl hl (by decide) rfl (fun ls hl => ?_)
  have loop : ∀ (d i : Nat) (ls : Array Slot) (H : Heap) (locs : List Loc), i + d = n → va_P (dC, dI) vwCl [(a, .inl (cs 0, (n, .inl (fun j => if j < i then v else f j))))] H → va_D (va_A [(a, .inl (cs 0, (n, .inl f)))] s.heap.size) [(a, .inl (cs 0, (n, .inl (fun j => if j < i then v else f j))))] → va_S (va_A [(a, .inl (cs 0, (n, .inl f)))] s.heap.size) s.heap H locs → lv_has ls 4 [(3, .int (nI n)), (2, .int (nI i)), (0, .ref a), (1, .int v)] → W p l e (headSpec (.code yJ7_fill_53178 cJ7_fill_53178 4 none :: lw_gt) { frames := 0, cells := 0, slots := 0, locals := 0 }).room s m ([.ref a, .int v] : List Value).toArray below meth c H locs 0 0 (MQ below (Qk dC dI (va_A [(a, .inl (cs 0, (n, .inl f)))] s.heap.size) (fun _ => [(a, .inl (cs 0, (n, .inl (fun j => if j < n then v else f j))))])) ([.ref a, .int v] : List Value).toArray s 0 0 (va_A [(a, .inl (cs 0, (n, .inl f)))] s.heap.size)) (F0 m 5 ls []) := by
    intro d
    induction d with
    | zero =>
      intro i ls H locs hi hP hD hS hl
      have e : i = n := by omega
      subst e
      refine lv_iload_n (pc := 5) hx hb dA_5 rfl (lv_at hl 1 rfl) ?_
      refine lv_iload_n (pc := 6) hx hb dA_6 rfl (lv_at hl 0 rfl) ?_
      refine lv_icmp_ge (pc := 7) (tgt := 20) hx hb dA_7 (by decide) (fun q => ?_) (fun q => ?_)
      · exact W.vret (pc := 20) hx hb hr (fun t ht _ => ⟨⟨rfl, (fun _ => 0), by rw [ht]; exact hP, hD⟩, hS.F ht⟩) (fun q hq => hS.2.2 q hq) dA_20 hlk
      · exact absurd (nI_le (Nat.le_refl i) (by omega)) q
    | succ d ih =>
      intro i ls H locs hi hP hD hS hl
      refine lv_iload_n (pc := 5) hx hb dA_5 rfl (lv_at hl 1 rfl) ?_
      refine lv_iload_n (pc := 6) hx hb dA_6 rfl (lv_at hl 0 rfl) ?_
      refine lv_icmp_ge (pc := 7) (tgt := 20) hx hb dA_7 (by decide) (fun q => ?_) (fun q => ?_)
      · exact absurd q (nI_ge (by omega) (by omega))
      · refine lv_aload_n (pc := 10) hx hb dA_10 rfl (lv_at hl 2 rfl) ?_
        refine lv_iload_n (pc := 11) hx hb dA_11 rfl (lv_at hl 1 rfl) ?_
        refine lv_iload_n (pc := 12) hx hb dA_12 rfl (lv_at hl 3 rfl) ?_
        refine va_iast (pc := 13) hx hb hK hP hD hS 0 0 rfl rfl (vp_in_nI (by omega) (by omega)) dA_13 fun H1 locs1 hP1 hD1 hS1 => ?_
        have ec : upd (fun j => if j < i then v else f j) (nI i).toNatClampNeg v = (fun j => if j < i + 1 then v else f j) := by
          rw [nI_clamp (by omega)]
          funext j
          by_cases h1 : j = i
          · subst h1; simp [upd]
          · by_cases h2 : j < i
            · simp [upd, h1, h2, Nat.lt_succ_of_lt h2]
            · simp [upd, h1, h2, show ¬ j < i + 1 by omega]
        rw [ec] at hP1 hD1
        refine lv_iinc (pc := 14) (v := nI (i + 1)) (lv' := [(2, .int (nI (i + 1))), (3, .int (nI n)), (0, .ref a), (1, .int v)]) hx hb dA_14 hl (k := 1) rfl (nI_1 i) (by decide) rfl (fun ls hl => ?_)
        refine lv_goto (pc := 17) (tgt := 5) hx hb dA_17 (by decide) ?_
        exact ih (i + 1) ls H1 locs1 (by omega) hP1 hD1 hS1 (lv_sub hl [1, 0, 2, 3] rfl)
  have e0 : (fun j => if j < 0 then v else f j) = f := by funext j; simp
  exact loop n 0 ls s.heap [] (by omega) (by rw [e0]; exact hP) (by rw [e0]; exact hD) va_S.rf hl
section KN
variable {p : Program} {l : Launch} {e : Env} {R : Room} {s : State} {m : MethodId} {args : Array Value} {below : List Frame} {meth : Method} {c : Code} {H : Heap} {locs : List Loc} {Q : State → Prop}
variable {cc : ByteArray} {pc nL : Nat} {own : String} {ls : Array Slot} {rest : List Value} {dC : Nat → ClassId} {dI : Nat → Nat → Nat} {cs : Nat → ClassId} {A : Nat → Prop} {cells slots : Nat} {ws : va_W}
theorem k_new (F : Fk p s m args meth c cc nL own dC dI cs A) (hP : va_P (dC, dI) vwCl ws H) (hD : va_D A ws) (hS : va_S A s.heap H locs) {ci N index : Nat} {C : String} {T : u_T} {ty0 : Nat → FieldType} (fs : List Value) (hc : vwCl[ci]? = some (C, T, N)) (hin : ∀ w ∈ u_ws C T N, w ∈ lw_gt) (hty : ∀ k, k < N → parseFieldDescriptor (T k).2.2.1 = some (ty0 k)) (hcl : Cond.classLink own index C ∈ lw_gt) (hins : Cond.instantiable C N ∈ lw_gt) (hini : Cond.initialized C ∈ lw_gt) (hfs : ∀ j, j < N → defaultValue (ty0 j) = vp_V fs j) (hcells : cells + 1 ≤ R.cells) (hslots : slots + N ≤ R.slots) (hdg : decode cc pc = .ok (.new index, 3))
    (kk : ∀ (q : Nat) (H1 : Heap), va_P (dC, dI) vwCl (ws ++ [(q, .inr (ci, fs))]) H1 → va_D A (ws ++ [(q, .inr (ci, fs))]) → va_S A s.heap H1 locs → W p l e R s m args below meth c H1 locs (cells + 1) (slots + N) Q (F0 m (pc + 3) ls (.ref q :: rest))) : W p l e R s m args below meth c H locs cells slots Q (F0 m pc ls rest) := by
  obtain ⟨⟨hx, hb, hml, hown, hts⟩, -, -, hK, hA, -⟩ := F
  exact va_new (ci := ci) (fs := fs) (C := C) (T := T) (N := N) hx hb hts hin ty0 hty hown (hts _ hcl) (hts _ hins) (hts _ hini) hK hP hD hS hA hc hfs hcells hslots hdg kk
/-- new int[8][k] -/
theorem k_kept (F : Fk p s m args meth c cc nL own dC dI cs A) (hP : va_P (dC, dI) vwCl ws H) (hD : va_D A ws) (hS : va_S A s.heap H locs) {index : Nat} {k : Int32} (K : Nat) (hcl : Cond.classLink own index "[[I" ∈ lw_gt) (hk : ¬ k < 0) (hK0 : k.toNatClampNeg = K) (hlim : K ≤ 10000) (hcells : cells + 9 ≤ R.cells) (hslots : slots + (8 + 8 * K) ≤ R.slots) (hdg : decode cc pc = .ok (.multianewarray index 2, 4))
    (kk : ∀ (q : Nat → Nat) (H1 : Heap), va_P (dC, dI) vwCl (ws ++ [(q 0, .inl (cs 2, (8, .inr (.inr (.inr (.inr (fun i => if i < 8 then some (q (i + 1)) else none))))))), (q 1, .inl (cs 0, (K, .inl (fun _ => 0)))), (q 2, .inl (cs 0, (K, .inl (fun _ => 0)))), (q 3, .inl (cs 0, (K, .inl (fun _ => 0)))), (q 4, .inl (cs 0, (K, .inl (fun _ => 0)))), (q 5, .inl (cs 0, (K, .inl (fun _ => 0)))), (q 6, .inl (cs 0, (K, .inl (fun _ => 0)))), (q 7, .inl (cs 0, (K, .inl (fun _ => 0)))), (q 8, .inl (cs 0, (K, .inl (fun _ => 0))))]) H1 → va_D A (ws ++ [(q 0, .inl (cs 2, (8, .inr (.inr (.inr (.inr (fun i => if i < 8 then some (q (i + 1)) else none))))))), (q 1, .inl (cs 0, (K, .inl (fun _ => 0)))), (q 2, .inl (cs 0, (K, .inl (fun _ => 0)))), (q 3, .inl (cs 0, (K, .inl (fun _ => 0)))), (q 4, .inl (cs 0, (K, .inl (fun _ => 0)))), (q 5, .inl (cs 0, (K, .inl (fun _ => 0)))), (q 6, .inl (cs 0, (K, .inl (fun _ => 0)))), (q 7, .inl (cs 0, (K, .inl (fun _ => 0)))), (q 8, .inl (cs 0, (K, .inl (fun _ => 0))))]) → va_S A s.heap H1 locs → W p l e R s m args below meth c H1 locs (cells + 9) (slots + (8 + 8 * K)) Q (F0 m (pc + 4) ls (.ref (q 0) :: rest))) : W p l e R s m args below meth c H locs cells slots Q (F0 m pc ls (.int k :: .int 8 :: rest)) := by
  obtain ⟨⟨hx, hb, hml, hown, hts⟩, -, -, hK, hA, hN, -⟩ := F
  obtain ⟨kA, hkA, hkind⟩ := hN.2
  obtain ⟨-, k0, hk0, comp0, hkk0⟩ := (hK.2 0 _ rfl).1 0 (fun _ => .null)
  refine k_multi (N := 8) (K := K) hx hb hown (hts _ hcl) (hK.2 2 _ rfl).2 hkA hkind hk0 hkk0 (by decide) hk rfl hK0 (by decide) hlim (by omega) hslots hdg (fun q h => Nat.le_trans hS.1 h) fun H1 z1 e1 e2 o1 => ?_
  have hold : va_P (dC, dI) vwCl ws H1 := hP.kept (fun k x hx => o1 x.1 ((hP k x hx).lt))
  have hrow : ∀ j, j < 8 → va_at (dC, dI) vwCl (H.size + (j + 1), .inl (cs 0, (K, .inl (fun _ => 0)))) H1 := fun j hj => by
    have := e2 j hj
    rw [show H.size + 1 + j = H.size + (j + 1) by omega] at this
    exact this
  have hout : va_at (dC, dI) vwCl (H.size + 0, .inl (cs 2, (8, .inr (.inr (.inr (.inr (fun i => if i < 8 then some (H.size + (i + 1)) else none))))))) H1 := by
    show H1[H.size + 0]? = some (vp_cell _ _)
    rw [Nat.add_zero, e1, vp_cell_q]
    unfold mu_out
    refine congrArg some (congrArg (arrV _ _) (funext fun j => ?_))
    rw [show H.size + 1 + j = H.size + (j + 1) by omega]
  have key : ∀ (i : Nat) (x : Nat × va_E), ([(H.size + 0, .inl (cs 2, (8, .inr (.inr (.inr (.inr (fun i => if i < 8 then some (H.size + (i + 1)) else none))))))), (H.size + 1, .inl (cs 0, (K, .inl (fun _ => 0)))), (H.size + 2, .inl (cs 0, (K, .inl (fun _ => 0)))), (H.size + 3, .inl (cs 0, (K, .inl (fun _ => 0)))), (H.size + 4, .inl (cs 0, (K, .inl (fun _ => 0)))), (H.size + 5, .inl (cs 0, (K, .inl (fun _ => 0)))), (H.size + 6, .inl (cs 0, (K, .inl (fun _ => 0)))), (H.size + 7, .inl (cs 0, (K, .inl (fun _ => 0)))), (H.size + 8, .inl (cs 0, (K, .inl (fun _ => 0))))] : va_W)[i]? = some x → x.1 = H.size + i ∧ va_at (dC, dI) vwCl x H1 := by
    intro i x hx
    match i, hx with
    | 0, hx => cases hx; exact ⟨rfl, hout⟩
    | 1, hx => cases hx; exact ⟨rfl, hrow 0 (by decide)⟩
    | 2, hx => cases hx; exact ⟨rfl, hrow 1 (by decide)⟩
    | 3, hx => cases hx; exact ⟨rfl, hrow 2 (by decide)⟩
    | 4, hx => cases hx; exact ⟨rfl, hrow 3 (by decide)⟩
    | 5, hx => cases hx; exact ⟨rfl, hrow 4 (by decide)⟩
    | 6, hx => cases hx; exact ⟨rfl, hrow 5 (by decide)⟩
    | 7, hx => cases hx; exact ⟨rfl, hrow 6 (by decide)⟩
    | 8, hx => cases hx; exact ⟨rfl, hrow 7 (by decide)⟩
    | i + 9, hx => simp at hx
  rw [show cells + 1 + 8 = cells + 9 by omega, show slots + 8 + 8 * K = slots + (8 + 8 * K) by omega]
  refine kk (fun i => H.size + i) H1 (hold.app (fun i x hx => (key i x hx).2)) (va_D.app hD ⟨fun i j x y hi hj hxy => ?_, fun i x hx => ?_⟩ (fun i j x y hx hy hxy => ?_)) ⟨Nat.le_trans hS.1 (by omega), fun q h1 h2 => (o1 q (Nat.lt_of_lt_of_le h1 hS.1)).trans (hS.2.1 q h1 h2), hS.2.2⟩
  · have a1 := (key i x hi).1
    have a2 := (key j y hj).1
    omega
  · rw [(key i x hx).1]
    exact hA _ (Nat.le_trans hS.1 (Nat.le_add_right _ _))
  · have a1 := (hP i x hx).lt
    have a2 := (key j y hy).1
    omega
end KN
theorem fill_upd (f : Nat → Int32) (v : Int32) (i : Nat) (h : i < 2 ^ 31) : upd (fun j => if j < i then v else f j) (nI i).toNatClampNeg v = (fun j => if j < i + 1 then v else f j) := by
  rw [nI_clamp h]
  funext j
  by_cases h1 : j = i
  · subst h1; simp [upd]
  · by_cases h2 : j < i
    · simp [upd, h1, h2, Nat.lt_succ_of_lt h2]
    · simp [upd, h1, h2, show ¬ j < i + 1 by omega]
theorem fill_0 (f : Nat → Int32) (v : Int32) : (fun j => if j < 0 then v else f j) = f := by funext j; simp
