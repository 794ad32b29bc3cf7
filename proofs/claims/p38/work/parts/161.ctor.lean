def nwC : List (String × Nat × MethodName × String) := [(RX11, 9, yX5_init, "SwitchYard"), (RX11, 18, yX8_init, "SwitchYard"), (RX11, 25, yX1_init, "SwitchYard"), (RX11, 32, yX9_init, "SwitchYard"), (RX0, 78, yX11_isNot, "SwitchYard"), (RX3, 11, yX7_init, "SwitchYard"), (RX3, 30, yX4_init, "SwitchYard")]
/-! ===== making: worlds that grow ===== -/
def Nk (cs : Nat → ClassId) (s : State) : Prop := (∀ w ∈ nwC, va_Nw (.methodLinkNest w.1 w.2.1 w.2.2.1 w.2.2.2) s) ∧ KA cs s
theorem Nk.warm {cs : Nat → ClassId} {s U : State} (hW : s.WarmedH U.vm) (h : Nk cs s) : Nk cs U := ⟨fun w hw => va_Nw.warmM hW (h.1 w hw), by
  obtain ⟨kA, h1, h2⟩ := h.2
  obtain ⟨k', hk', he⟩ := hW.alike.2.2 _ _ h1
  exact ⟨k', hk', by rw [he]; exact h2⟩⟩
theorem Nk.calling {cs : Nat → ClassId} {U : State} {g : JFrame} {mk : MethodId} {a : Array Value} (h : Nk cs U) : Nk cs (U.calling g mk a) := ⟨fun w hw => va_Nw.same (u := U) (U := U.calling g mk a) rfl rfl (h.1 w hw), h.2⟩
def Pk (dC : Nat → ClassId) (dI : Nat → Nat → Nat) (cs : Nat → ClassId) (sz : Nat) (w0 : va_W) (av : List Value) : Array Value → State → Prop :=
  va_Pc av (fun U => U.heap.size = sz ∧ va_P (dC, dI) vwCl w0 U.heap ∧ va_K (dC, dI) vwCl (tyL cs) U ∧ va_D (fun _ => True) w0 ∧ Nk cs U)
def Qk (dC : Nat → ClassId) (dI : Nat → Nat → Nat) (A : Nat → Prop) (wq : (Nat → Nat) → va_W) : Array Value → State → Outcome → State → Prop :=
  fun _ st oc t => (oc = .returned none ∧ ∃ q : Nat → Nat, va_P (dC, dI) vwCl (wq q) t.heap ∧ va_D A (wq q)) ∧ va_F A st t
theorem Pk_blind {dC : Nat → ClassId} {dI : Nat → Nat → Nat} {cs : Nat → ClassId} {sz : Nat} {w0 : va_W} {av : List Value} : FrameBlind (Pk dC dI cs sz w0 av) := fun a U g mk q => by
  obtain ⟨q0, q1, qP, qK, qD, qN⟩ := q
  exact ⟨q0, q1, qP, va_K.moved (u := U) (U := U.calling g mk a) (Vm.Alike.refl U.vm) qK, qD, qN.calling⟩
/-- a maker's contract -/
def MK (y : MethodName) (cc : ByteArray) (nL fr lo mc ms : Nat) (av : List Value) (w0 : (Nat → ClassId) → va_W) (wq : (Nat → ClassId) → (Nat → Nat) → va_W) : Prop :=
  ∀ (l : Launch) (dC : Nat → ClassId) (dI : Nat → Nat → Nat) (cs : Nat → ClassId) (sz : Nat), Met l y (.code y cc nL none :: lw_gt) { frames := fr, cells := mc, slots := ms, locals := lo } (Pk dC dI cs sz (w0 cs) av) (Qk dC dI (va_A (w0 cs) sz) (wq cs)) mc ms (va_A (w0 cs) sz)
def Fk (p : Program) (s : State) (m : MethodId) (args : Array Value) (meth : Method) (c : Code) (cc : ByteArray) (nL : Nat) (own : String) (dC : Nat → ClassId) (dI : Nat → Nat → Nat) (cs : Nat → ClassId) (A : Nat → Prop) : Prop :=
  CallFix p m c cc nL s args lw_gt own ∧ meth.sig.returnType = none ∧ meth.locks = false ∧ va_K (dC, dI) vwCl (tyL cs) s ∧ (∀ q, s.heap.size ≤ q → A q) ∧ Nk cs s ∧ meth.name = "<init>"
theorem MK.of {y : MethodName} {cc : ByteArray} {nL fr lo mc ms : Nat} {av : List Value} {w0 : (Nat → ClassId) → va_W} {wq : (Nat → ClassId) → (Nat → Nat) → va_W} (own : String) (lv : List (Nat × Value)) (hy : plainName y.cls = true) (ho : y.cls = own) (hyn : y.name = "<init>") (hn : (lg_sl av).length ≤ nL) (hlv : lv_args 0 av = lv)
    (body : ∀ (p : Program) (l : Launch) (e : Env) (R : Room) (s : State) (m : MethodId) (args : Array Value) (below : List Frame) (meth : Method) (c : Code) (dC : Nat → ClassId) (dI : Nat → Nat → Nat) (cs : Nat → ClassId) (A : Nat → Prop) (H : Heap) (locs : List Loc) (ls : Array Slot), fr ≤ R.frames → lo ≤ R.locals → mc ≤ R.cells → ms ≤ R.slots → Fk p s m args meth c cc nL own dC dI cs A → va_P (dC, dI) vwCl (w0 cs) H → va_D A (w0 cs) → va_S A s.heap H locs → lv_has ls nL lv → W p l e R s m args below meth c H locs 0 0 (MQ below (Qk dC dI A (wq cs)) args s mc ms A) (F0 m 0 ls [])) : MK y cc nL fr lo mc ms av w0 wq := by
  intro l dC dI cs sz
  refine Met.ofW (cc := cc) (maxL := nL) (ret := none) hy rfl ?_
  intro p e s m args below meth c s₁ B hml hv
  obtain ⟨rfl, hsz, hP, hK, hD0, hN⟩ := hv
  have hts := atoms_spec (ws := .code y cc nL none :: lw_gt) B.pre
  have hown : s.vm.findClass own = some m.cls := by rw [← ho]; exact findClass_of_methodNamed B.named
  have hin : meth.name = "<init>" := by rw [← hyn]; exact (name_of_methodNamed B.named B.method).1
  subst hsz
  have hD := hD0.self (sz := s.heap.size)
  have hl := lv_entry av (n := nL) hn
  rw [lg_entry_eq]
  rw [hlv] at hl
  exact body p l e _ s m _ below meth c dC dI cs (va_A (w0 cs) s.heap.size) s.heap [] _ (Nat.le_refl _) (Nat.le_refl _) (Nat.le_refl _) (Nat.le_refl _) ⟨⟨B.exec, B.bytes, hml, hown, fun w hw => hts w (List.mem_cons_of_mem _ hw)⟩, B.returns, B.notSynchronized, hK, fun q h => Or.inr h, hN, hin⟩ hP hD va_S.rf hl
section KR
variable {p : Program} {l : Launch} {e : Env} {R : Room} {s : State} {m : MethodId} {args : Array Value} {below : List Frame} {meth : Method} {c : Code} {H : Heap} {locs : List Loc} {Q : State → Prop}
variable {cc : ByteArray} {pc nL : Nat} {own : String} {ls : Array Slot} {rest : List Value} {dC : Nat → ClassId} {dI : Nat → Nat → Nat} {cs : Nat → ClassId} {A : Nat → Prop} {cells slots mc ms : Nat} {ws : va_W} {wq : (Nat → Nat) → va_W}
theorem k_obj (F : Fk p s m args meth c cc nL own dC dI cs A) {idx a : Nat} (hl : Cond.methodLink own idx Lib.objectInit ∈ lw_gt) (hi : Cond.instanceMethod Lib.objectInit ∈ lw_gt) (hc : Cond.code Lib.objectInit ⟨#[0xb1]⟩ 1 none ∈ lw_gt) (hls : ls.size = nL) (hfr : 1 ≤ R.frames) (hlo : 12 ≤ R.locals) (hdg : decode cc pc = .ok (.invokespecial idx, 3))
    (kk : W p l e R s m args below meth c H locs cells slots Q (F0 m (pc + 3) ls [])) : W p l e R s m args below meth c H locs cells slots Q (F0 m pc ls [.ref a]) := by
  obtain ⟨⟨hx, hb, hml, hown, hts⟩, -⟩ := F
  exact W.objInit (g := F0 m pc ls [.ref a]) hx hb hown (hts _ hl) (hts _ hi) (hts _ hc) rfl (by rw [hml]; exact hls) rfl hdg hfr (by show 2 * 0 + 0 + 12 ≤ _; omega) kk
theorem k_newI (F : Fk p s m args meth c cc nL own dC dI cs A) (hP : va_P (dC, dI) vwCl ws H) (hD : va_D A ws) (hS : va_S A s.heap H locs) {n : Int32} (N : Nat) (harr : Cond.arrayClass .int ∈ lw_gt) (hn : ¬ n < 0) (hN : n.toNatClampNeg = N) (hlim : N ≤ 100000) (hcells : cells + 1 ≤ R.cells) (hslots : slots + N ≤ R.slots) (hdg : decode cc pc = .ok (.newarray .int, 2))
    (kk : ∀ (q : Nat) (H1 : Heap), va_P (dC, dI) vwCl (ws ++ [(q, .inl (cs 0, (N, .inl (fun _ => 0))))]) H1 → va_D A (ws ++ [(q, .inl (cs 0, (N, .inl (fun _ => 0))))]) → va_S A s.heap H1 locs → W p l e R s m args below meth c H1 locs (cells + 1) (slots + N) Q (F0 m (pc + 2) ls (.ref q :: rest))) : W p l e R s m args below meth c H locs cells slots Q (F0 m pc ls (.int n :: rest)) := by
  obtain ⟨⟨hx, hb, hml, hown, hts⟩, -, -, hK, hA, -⟩ := F
  refine va_newa (atype := .int) (ty := .int) (N' := N) (a0 := (N, .inl (fun _ => 0))) hx hb (hts _ harr) rfl hK hP hD hS hA (fun _ => rfl) hn hN (by show N * 4 ≤ _; omega) hcells hslots hdg fun q cA H' hK' hP' hD' hS' => ?_
  have hcA : cA = cs 0 := Option.some.inj (((hK'.2 3 (cA, .int) rfl).2).symm.trans (hK.2 0 _ rfl).2)
  subst hcA
  exact kk q H' hP' hD' hS'
theorem k_newZ (F : Fk p s m args meth c cc nL own dC dI cs A) (hP : va_P (dC, dI) vwCl ws H) (hD : va_D A ws) (hS : va_S A s.heap H locs) {n : Int32} (N : Nat) (harr : Cond.arrayClass .boolean ∈ lw_gt) (hn : ¬ n < 0) (hN : n.toNatClampNeg = N) (hlim : N ≤ 100000) (hcells : cells + 1 ≤ R.cells) (hslots : slots + N ≤ R.slots) (hdg : decode cc pc = .ok (.newarray .boolean, 2))
    (kk : ∀ (q : Nat) (H1 : Heap), va_P (dC, dI) vwCl (ws ++ [(q, .inl (cs 1, (N, .inl (fun _ => 0))))]) H1 → va_D A (ws ++ [(q, .inl (cs 1, (N, .inl (fun _ => 0))))]) → va_S A s.heap H1 locs → W p l e R s m args below meth c H1 locs (cells + 1) (slots + N) Q (F0 m (pc + 2) ls (.ref q :: rest))) : W p l e R s m args below meth c H locs cells slots Q (F0 m pc ls (.int n :: rest)) := by
  obtain ⟨⟨hx, hb, hml, hown, hts⟩, -, -, hK, hA, -⟩ := F
  refine va_newa (atype := .boolean) (ty := .boolean) (N' := N) (a0 := (N, .inl (fun _ => 0))) hx hb (hts _ harr) rfl hK hP hD hS hA (fun _ => rfl) hn hN (by show N * 1 ≤ _; omega) hcells hslots hdg fun q cA H' hK' hP' hD' hS' => ?_
  have hcA : cA = cs 1 := Option.some.inj (((hK'.2 3 (cA, .boolean) rfl).2).symm.trans (hK.2 1 _ rfl).2)
  subst hcA
  exact kk q H' hP' hD' hS'
/-- a final field of the object that is being made -/
theorem k_putF (F : Fk p s m args meth c cc nL own dC dI cs A) (hP : va_P (dC, dI) vwCl ws H) (hD : va_D A ws) (hS : va_S A s.heap H locs) (q0 : Nat) {a ci N index : Nat} {C : String} {T : u_T} {fs : List Value} {ty0 : Nat → FieldType} (he : ws[q0]? = some (a, .inr (ci, fs))) (hc : vwCl[ci]? = some (C, T, N)) (hin : ∀ w ∈ u_ws C T N, w ∈ lw_gt) (hty : ∀ k, k < N → parseFieldDescriptor (T k).2.2.1 = some (ty0 k)) (hnm : ∀ a, a < N → ∀ b, b < N → a ≠ b → (T a).2.1 ≠ (T b).2.1) (k : Nat) (hN : k < N) (hl : Cond.fieldLink own index (T k).1 (T k).2.1 (T k).2.2.1 ∈ lw_gt) (hfin : (T k).2.2.2 = true) (hdecl : (T k).1 = own) {v : Value} (hn : narrow (ty0 k) v = v) (hfit : fits (ty0 k) v = true) (hlen : k < fs.length) (hdg : decode cc pc = .ok (.putfield index, 3))
    (kk : ∀ (H1 : Heap) (locs1 : List Loc), va_P (dC, dI) vwCl (ws.set q0 (a, .inr (ci, fs.set k v))) H1 → va_D A (ws.set q0 (a, .inr (ci, fs.set k v))) → va_S A s.heap H1 locs1 → W p l e R s m args below meth c H1 locs1 cells slots Q (F0 m (pc + 3) ls rest)) : W p l e R s m args below meth c H locs cells slots Q (F0 m pc ls (v :: .ref a :: rest)) := by
  obtain ⟨⟨hx, hb, hml, hown, hts⟩, -, -, hK, hA, hN', hin2⟩ := F
  exact va_putF hx hb hts hin ty0 hty hnm hown hK hP hD hS q0 he hc k hN (hts _ hl) (fun x h => h) hfin hin2 hdecl (hty k hN) hn hfit hlen hdg kk
theorem k_put (F : Fk p s m args meth c cc nL own dC dI cs A) (hP : va_P (dC, dI) vwCl ws H) (hD : va_D A ws) (hS : va_S A s.heap H locs) (q0 : Nat) {a ci N index : Nat} {C : String} {T : u_T} {fs : List Value} {ty0 : Nat → FieldType} (he : ws[q0]? = some (a, .inr (ci, fs))) (hc : vwCl[ci]? = some (C, T, N)) (hin : ∀ w ∈ u_ws C T N, w ∈ lw_gt) (hty : ∀ k, k < N → parseFieldDescriptor (T k).2.2.1 = some (ty0 k)) (hnm : ∀ a, a < N → ∀ b, b < N → a ≠ b → (T a).2.1 ≠ (T b).2.1) (k : Nat) (hN : k < N) (hl : Cond.fieldLink own index (T k).1 (T k).2.1 (T k).2.2.1 ∈ lw_gt) (hfin : (T k).2.2.2 = false) {v : Value} (hn : narrow (ty0 k) v = v) (hfit : fits (ty0 k) v = true) (hlen : k < fs.length) (hdg : decode cc pc = .ok (.putfield index, 3))
    (kk : ∀ (H1 : Heap) (locs1 : List Loc), va_P (dC, dI) vwCl (ws.set q0 (a, .inr (ci, fs.set k v))) H1 → va_D A (ws.set q0 (a, .inr (ci, fs.set k v))) → va_S A s.heap H1 locs1 → W p l e R s m args below meth c H1 locs1 cells slots Q (F0 m (pc + 3) ls rest)) : W p l e R s m args below meth c H locs cells slots Q (F0 m pc ls (v :: .ref a :: rest)) := by
  obtain ⟨⟨hx, hb, hml, hown, hts⟩, -, -, hK, hA, -⟩ := F
  exact va_put hx hb hts hin ty0 hty hnm hown hK hP hD hS q0 he hc k hN (hts _ hl) (fun x h => h) hfin (hty k hN) hn hfit hlen hdg kk
theorem k_get (F : Fk p s m args meth c cc nL own dC dI cs A) (hP : va_P (dC, dI) vwCl ws H) (q0 : Nat) {a ci N index : Nat} {C : String} {T : u_T} {fs : List Value} (he : ws[q0]? = some (a, .inr (ci, fs))) (hc : vwCl[ci]? = some (C, T, N)) (hin : ∀ w ∈ u_ws C T N, w ∈ lw_gt) (k : Nat) (hN : k < N) (hl : Cond.fieldLink own index (T k).1 (T k).2.1 (T k).2.2.1 ∈ lw_gt) {v : Value} (hv : fs[k]? = some v) (hdg : decode cc pc = .ok (.getfield index, 3))
    (kk : W p l e R s m args below meth c H locs cells slots Q (F0 m (pc + 3) ls (v :: rest))) : W p l e R s m args below meth c H locs cells slots Q (F0 m pc ls (.ref a :: rest)) := by
  obtain ⟨⟨hx, hb, hml, hown, hts⟩, -, -, hK, hA, -⟩ := F
  exact va_get hx hb hts hin hown hK hP q0 he hc k hN (hts _ hl) (fun x h => h) hv hdg kk
theorem k_ret (F : Fk p s m args meth c cc nL own dC dI cs A) (q : Nat → Nat) (hP : va_P (dC, dI) vwCl (wq q) H) (hD : va_D A (wq q)) (hS : va_S A s.heap H locs) (h1 : cells ≤ mc) (h2 : slots ≤ ms) (hdg : decode cc pc = .ok (.return_, 1)) : W p l e R s m args below meth c H locs cells slots (MQ below (Qk dC dI A wq) args s mc ms A) (F0 m pc ls []) := by
  obtain ⟨⟨hx, hb, hml, hown, hts⟩, hr, hlk, hK, hA, -⟩ := F
  exact W.widen h1 h2 (W.vret hx hb hr (fun t ht _ => ⟨⟨rfl, q, by rw [ht]; exact hP, hD⟩, hS.F ht⟩) (fun q hq => hS.2.2 q hq) hdg hlk)
end KR
