/-! ===== new int[n][k]: the machine's own making, an outer row and n inner ones ===== -/
/-- the outer row when the first i of its N places are filled -/
def mu_out (cA : ClassId) (N h0 i : Nat) : Cell := arrV cA N (fun j => va_rf (if j < i then some (h0 + 1 + j) else none))
def mu_in (c0 : ClassId) (K : Nat) : Cell := arrV c0 K (fun _ => .int 0)
/-- the machine when i inner rows stand -/
def mu_st (T : State) (cA c0 : ClassId) (N K : Nat) : Nat → State
  | 0 => T.pushCell (mu_out cA N T.heap.size 0)
  | i + 1 => ((mu_st T cA c0 N K i).pushCell (mu_in c0 K)).setCell T.heap.size (mu_out cA N T.heap.size (i + 1))
theorem mu_out_succ (cA : ClassId) (N h0 i : Nat) : (mu_out cA N h0 i).setSlot i (.ref (h0 + 1 + i)) = mu_out cA N h0 (i + 1) := by
  unfold mu_out
  rw [arrV_store]
  refine congrArg (arrV cA N) (funext fun j => ?_)
  by_cases e : j = i
  · subst e; simp [updV, va_rf]
  · by_cases h : j < i
    · simp [updV, e, h, Nat.lt_succ_of_lt h]
    · simp [updV, e, h, show ¬ j < i + 1 by omega]
theorem mu_facts (T : State) (cA c0 : ClassId) (N K : Nat) : ∀ i, (mu_st T cA c0 N K i).heap.size = T.heap.size + 1 + i ∧ (mu_st T cA c0 N K i).heap[T.heap.size]? = some (mu_out cA N T.heap.size i) ∧ (mu_st T cA c0 N K i).vm = T.vm ∧ (mu_st T cA c0 N K i).slotsUsed = T.slotsUsed + N + i * K
  | 0 => ⟨by simp [mu_st], by simp [mu_st], rfl, by simp [mu_st, mu_out, arrV_size]⟩
  | i + 1 => by
    obtain ⟨a, b, d, u⟩ := mu_facts T cA c0 N K i
    have hlt : T.heap.size < (mu_st T cA c0 N K i).heap.size := by omega
    have hb : ((mu_st T cA c0 N K i).pushCell (mu_in c0 K)).heap[T.heap.size]? = some (mu_out cA N T.heap.size i) := by rw [State.heap_pushCell_of_lt (h := hlt)]; exact b
    refine ⟨?_, State.heap_setCell_self hb, by simp [mu_st, d], ?_⟩
    · simp [mu_st, State.setCell, a]; omega
    · simp [mu_st, u, mu_in, arrV_size, Nat.succ_mul]; omega
theorem mu_old (T : State) (cA c0 : ClassId) (N K : Nat) {a : Addr} (ha : a < T.heap.size) : ∀ i, (mu_st T cA c0 N K i).heap[a]? = T.heap[a]?
  | 0 => State.heap_pushCell_of_lt _ _ ha
  | i + 1 => by
    have f1 := (mu_facts T cA c0 N K i).1
    have hlt : a < (mu_st T cA c0 N K i).heap.size := Nat.lt_of_lt_of_le ha (by rw [f1]; omega)
    show (((mu_st T cA c0 N K i).pushCell (mu_in c0 K)).setCell T.heap.size _).heap[a]? = _
    rw [State.heap_setCell_other (Nat.ne_of_gt ha), State.heap_pushCell_of_lt (h := hlt)]
    exact mu_old T cA c0 N K ha i
theorem mu_inner (T : State) (cA c0 : ClassId) (N K : Nat) : ∀ i j, j < i → (mu_st T cA c0 N K i).heap[T.heap.size + 1 + j]? = some (mu_in c0 K)
  | 0, _, h => absurd h (Nat.not_lt_zero _)
  | i + 1, j, h => by
    have f1 := (mu_facts T cA c0 N K i).1
    show (((mu_st T cA c0 N K i).pushCell (mu_in c0 K)).setCell T.heap.size _).heap[T.heap.size + 1 + j]? = _
    rw [State.heap_setCell_other (show T.heap.size ≠ T.heap.size + 1 + j by omega)]
    rcases Nat.lt_or_ge j i with hj | hj
    · have hlt : T.heap.size + 1 + j < (mu_st T cA c0 N K i).heap.size := by rw [f1]; omega
      rw [State.heap_pushCell_of_lt (h := hlt)]
      exact mu_inner T cA c0 N K i j hj
    · have e : j = i := by omega
      subst e
      rw [← f1]
      exact State.heap_pushCell_size _ _
theorem mu_top (T : State) (f : JFrame) (cA c0 : ClassId) (N K : Nat) : ∀ i, mu_st (T.setTop f) cA c0 N K i = (mu_st T cA c0 N K i).setTop f
  | 0 => rfl
  | i + 1 => by simp only [mu_st, mu_top T f cA c0 N K i, State.heap_setTop, State.pushCell_setTop, State.setCell_setTop]
section MU
variable {E : CtlPost} {e : Env} {d : Bool} {acts : List Action} {s : State}
theorem mu_alloc {c comp : ClassId} {k : Class} {ty : FieldType} {len : Nat} {x : Value} (hk : s.vm.classes[c]? = some k) (hkind : k.kind = .array comp ty) (hlim : ¬ len > e.platform.arrayLengthLimit) (hheap : ¬ len * componentBytes ty > e.platform.maxHeapBytes) (hfit : fits ty x = true) (hdef : x.isDefault = true) {Q : Addr → Pre} (h1 : s.heap.size < e.platform.maxCells) (h2 : s.slotsUsed + len ≤ e.platform.maxSlots) (hq : Q s.heap.size d acts (s.pushCell (arrV c len (fun _ => x)))) : wp (Jvm.newArray c len x) Q E e d acts s := by
  rw [← arrV_new] at hq
  have hfits : ∀ i v, (Array.replicate len x)[i]? = some v → s.fitsSlot c .none i v = true := by
    intro i v hv
    simp only [Array.getElem?_replicate] at hv
    split at hv
    · cases hv; simp [State.fitsSlot, State.slotType?, hk, hkind, hfit]
    · cases hv
  have hall : ((Array.replicate len x).all (·.isDefault)) = true := by
    rw [Array.all_replicate]; split <;> simp [hdef]
  have hda : allocActs (Array.replicate len x) s.heap.size acts = acts := by
    unfold allocActs; rw [if_pos hall]
  simp only [Jvm.newArray, Jvm.arrayFits, wp_bind', W.ask, W.ite, hlim, if_false, wp_pure', W.theClass, hk, hkind, hheap, W.alloc, W.stop, Option.some.injEq, exists_eq_left', Array.size_replicate, hda]
  rw [if_neg (by omega)]
  exact ⟨h1, h2, hfits, hq⟩
/-- the machine's 'make' of two dimensions of ints -/
theorem mu_make {cA c0 cc : ClassId} {kA k0 : Class} {n k : Int32} (hkA : s.vm.classes[cA]? = some kA) (hkindA : kA.kind = .array c0 (.array .int)) (hk0 : s.vm.classes[c0]? = some k0) (hkind0 : k0.kind = .array cc .int) (hn : ¬ n < 0) (hk : ¬ k < 0)
    (hl1 : ¬ n.toNatClampNeg > e.platform.arrayLengthLimit) (hh1 : ¬ n.toNatClampNeg * componentBytes (.array .int) > e.platform.maxHeapBytes) (hl2 : ¬ k.toNatClampNeg > e.platform.arrayLengthLimit) (hh2 : ¬ k.toNatClampNeg * componentBytes .int > e.platform.maxHeapBytes)
    (hc : s.heap.size + 1 + n.toNatClampNeg ≤ e.platform.maxCells) (hs : s.slotsUsed + n.toNatClampNeg + n.toNatClampNeg * k.toNatClampNeg ≤ e.platform.maxSlots)
    {Q : Addr → Pre} (hq : ∀ d' acts', Q s.heap.size d' acts' (mu_st s cA c0 n.toNatClampNeg k.toNatClampNeg n.toNatClampNeg)) : wp (multianewarray.make cA [n, k]) Q E e d acts s := by
  have hfind : ([k].find? (· < 0)) = none := by simp [hk]
  rw [multianewarray.make]
  simp only [wp_bind', W.ite, hn, if_false, wp_pure', W.theClass, hkA, hkindA, Option.some.injEq, exists_eq_left']
  refine mu_alloc hkA hkindA hl1 hh1 rfl rfl (by omega) (by have := Nat.zero_le (n.toNatClampNeg * k.toNatClampNeg); omega) ?_
  have e0 : arrV cA n.toNatClampNeg (fun _ => Value.null) = mu_out cA n.toNatClampNeg s.heap.size 0 := by
    unfold mu_out; refine congrArg (arrV cA _) (funext fun j => ?_); simp [va_rf]
  rw [e0]
  simp only [hfind]
  rw [ite_self, wp_bind', Std.Legacy.Range.forIn_eq_forIn_range']
  have hsz : ([:n.toNatClampNeg] : Std.Legacy.Range).size = n.toNatClampNeg := by simp [Std.Legacy.Range.size]
  rw [hsz]
  show wp (forIn (List.range' 0 n.toNatClampNeg 1) PUnit.unit _) _ E e d acts _
  refine wp_forIn_inv (fun rest s' => ∃ i, i ≤ n.toNatClampNeg ∧ rest = List.range' i (n.toNatClampNeg - i) ∧ s' = mu_st s cA c0 n.toNatClampNeg k.toNatClampNeg i) _ _ ⟨0, Nat.zero_le _, rfl, rfl⟩ ?_ ?_
  · rintro x rest s' d' acts' Q' ⟨i, hi, hl, rfl⟩ hnext
    have hlt : i < n.toNatClampNeg := by
      rcases Nat.lt_or_ge i n.toNatClampNeg with h | h
      · exact h
      · rw [show n.toNatClampNeg - i = 0 by omega] at hl; simp at hl
    rw [show n.toNatClampNeg - i = (n.toNatClampNeg - (i + 1)) + 1 by omega, List.range'_succ] at hl
    obtain ⟨rfl, hrest⟩ := List.cons.inj hl
    obtain ⟨f1, f2, f3, f4⟩ := mu_facts s cA c0 n.toNatClampNeg k.toNatClampNeg x
    have hmul := Nat.mul_le_mul_right k.toNatClampNeg (show x + 1 ≤ n.toNatClampNeg from hlt)
    rw [Nat.succ_mul] at hmul
    have hk0' : (mu_st s cA c0 n.toNatClampNeg k.toNatClampNeg x).vm.classes[c0]? = some k0 := by rw [f3]; exact hk0
    simp only [wp_bind']
    rw [multianewarray.make]
    simp only [wp_bind', W.ite, hk, if_false, wp_pure', W.theClass, hk0', hkind0, Option.some.injEq, exists_eq_left']
    refine mu_alloc hk0' hkind0 hl2 hh2 rfl rfl (by rw [f1]; omega) (by rw [f4]; omega) ?_
    have hlt0 : s.heap.size < (mu_st s cA c0 n.toNatClampNeg k.toNatClampNeg x).heap.size := by rw [f1]; omega
    simp only [wp_bind', W.writeLoc, wp_pure']
    refine ⟨mu_out cA n.toNatClampNeg s.heap.size x, by rw [State.heap_pushCell_of_lt (h := hlt0)]; exact f2, (fun h => by cases h), by show x < (arrV _ _ _).slots.size; rw [arrV_size]; exact hlt, ?_, hnext _ _ _ ⟨x + 1, hlt, hrest, ?_⟩⟩
    · simp [State.fitsSlot, State.slotType?, f3, hkA, hkindA, mu_out, arrV, fits]
    · rw [f1, mu_out_succ]; rfl
  · rintro s' d' acts' ⟨i, hi, hl, rfl⟩
    have hiN : i = n.toNatClampNeg := by
      rcases Nat.lt_or_ge i n.toNatClampNeg with h | h
      · rw [show n.toNatClampNeg - i = (n.toNatClampNeg - (i + 1)) + 1 by omega, List.range'_succ] at hl; cases hl
      · omega
    subst hiN
    simp only [wp_pure']
    exact hq _ _
end MU
section MV
variable {p : Program} {l : Launch} {e : Env} {R : Room} {s : State} {m : MethodId} {args : Array Value} {below : List Frame} {meth : Method} {c : Code} {T : State} {H : Heap} {locs : List Loc} {cells slots : Nat} {Q : State → Prop}
theorem mu_stand (X : Stand p l e R s m args below meth c T locs cells slots) (cA c0 : ClassId) (N K : Nat) : ∀ i, Stand p l e R s m args below meth c (mu_st T cA c0 N K i) (locs ++ (List.range i).map fun j => ⟨T.heap.size, j⟩) (cells + 1 + i) (slots + N + i * K)
  | 0 => by
    have h := X.pushed (mu_out cA N T.heap.size 0)
    rw [show (mu_out cA N T.heap.size 0).slots.size = N from arrV_size _ _ _] at h
    simpa [mu_st] using h
  | i + 1 => by
    have Xi := mu_stand X cA c0 N K i
    obtain ⟨f1, f2, f3, f4⟩ := mu_facts T cA c0 N K i
    have hlt0 : T.heap.size < (mu_st T cA c0 N K i).heap.size := by rw [f1]; omega
    have hcell : ((mu_st T cA c0 N K i).pushCell (mu_in c0 K)).heap[T.heap.size]? = some (mu_out cA N T.heap.size i) := by rw [State.heap_pushCell_of_lt (h := hlt0)]; exact f2
    have h := (Xi.pushed (mu_in c0 K)).stored hcell i (.ref (T.heap.size + 1 + i))
    rw [show (mu_in c0 K).slots.size = K from arrV_size _ _ _, mu_out_succ] at h
    have e2 : (locs ++ (List.range (i + 1)).map fun j => (⟨T.heap.size, j⟩ : Loc)) = (locs ++ (List.range i).map fun j => (⟨T.heap.size, j⟩ : Loc)) ++ [⟨T.heap.size, i⟩] := by simp [List.range_succ, List.append_assoc]
    rw [e2, show slots + N + (i + 1) * K = slots + N + i * K + K by rw [Nat.succ_mul]; omega]
    exact h
theorem k_multi {cc : ByteArray} {pc : Nat} {ls : Array Slot} {rest : List Value} {own : String} {index : Nat} {cA c0 cp0 : ClassId} {kA k0 : Class} (hexec : p.tables.exec = Jvm.exec) (hb : c.code = cc) (hown : s.vm.findClass own = some m.cls) (hclink : (Cond.classLink own index "[[I").before args s = true) (hA2 : s.vm.findClass "[[I" = some cA) (hkA : s.vm.classes[cA]? = some kA) (hkindA : kA.kind = .array c0 (.array .int)) (hk0 : s.vm.classes[c0]? = some k0) (hkind0 : k0.kind = .array cp0 .int)
    {n k : Int32} {N K : Nat} (hn : ¬ n < 0) (hk : ¬ k < 0) (hN : n.toNatClampNeg = N) (hK : k.toNatClampNeg = K) (hb1 : N ≤ 10000) (hb2 : K ≤ 10000) (hcells : cells + (1 + N) ≤ R.cells) (hslots : slots + (N + N * K) ≤ R.slots) (hdg : decode cc pc = .ok (.multianewarray index 2, 4)) (hfr : ∀ q : Nat, H.size ≤ q → s.heap.size ≤ q)
    (kk : ∀ H1 : Heap, H1.size = H.size + 1 + N → H1[H.size]? = some (mu_out cA N H.size N) → (∀ j, j < N → H1[H.size + 1 + j]? = some (mu_in c0 K)) → (∀ q : Nat, q < H.size → H1[q]? = H[q]?) → W p l e R s m args below meth c H1 locs (cells + 1 + N) (slots + N + N * K) Q (F0 m (pc + 4) ls (.ref H.size :: rest))) : W p l e R s m args below meth c H locs cells slots Q (F0 m pc ls (.int k :: .int n :: rest)) := by
  subst hN
  subst hK
  intro T hT X
  have hpl : e.platform.magicAccessors = ({} : Platform).magicAccessors := by rw [X.admits.platform]
  obtain ⟨cL, hfc, hcl⟩ := Cond.classLink_spec hown hclink e.platform hpl
  cases hA2.symm.trans hfc
  obtain ⟨hg₁, hwarm₁, hready₁⟩ := State.classEntry (e := e) X.warmed hcl
  generalize T.vm.noted m.cls index (.cls cA) = vm₁ at hg₁ hwarm₁ hready₁
  have hal : s.vm.Alike vm₁ := hwarm₁.alike
  obtain ⟨kA₁, hkA₁, heA⟩ := hal.2.2 _ _ hkA
  obtain ⟨k0₁, hk0₁, he0⟩ := hal.2.2 _ _ hk0
  have X₁ := X.noted hwarm₁
  obtain ⟨hr1, hr2⟩ := X.roomAbove hcells hslots
  have XF := mu_stand X₁ cA c0 n.toNatClampNeg k.toNatClampNeg n.toNatClampNeg
  have XF2 := Stand.forget (extra := (List.range n.toNatClampNeg).map fun j => (⟨(T.setVm vm₁).heap.size, j⟩ : Loc)) XF (fun q hq => by
    obtain ⟨j, -, rfl⟩ := List.mem_map.mp hq
    exact hfr _ (by show H.size ≤ T.heap.size; rw [hT]; exact Nat.le_refl _))
  have hsz : (T.setVm vm₁).heap.size = H.size := by show T.heap.size = _; rw [hT]
  obtain ⟨f1, f2, f3, f4⟩ := mu_facts (T.setVm vm₁) cA c0 n.toNatClampNeg k.toNatClampNeg n.toNatClampNeg
  obtain ⟨t, a1, b1⟩ := kk _ (by rw [← hsz]; exact f1) (by rw [← hsz]; exact f2) (fun j hj => by rw [← hsz]; exact mu_inner _ _ _ _ _ _ j hj) (fun q hq => by
    rw [mu_old (T.setVm vm₁) cA c0 _ _ (by rw [hsz]; exact hq)]
    show T.heap[q]? = _
    rw [hT]) _ rfl XF2
  refine ⟨t, ?_, b1⟩
  have hl1 : ¬ n.toNatClampNeg > e.platform.arrayLengthLimit := by rw [Launch.admits_arrayLengthLimit X.admits]; omega
  have hh1 : ¬ n.toNatClampNeg * componentBytes (.array .int) > e.platform.maxHeapBytes := by
    rw [Launch.admits_maxHeapBytes X.admits]; show ¬ n.toNatClampNeg * 4 > 536870912; omega
  have hl2 : ¬ k.toNatClampNeg > e.platform.arrayLengthLimit := by rw [Launch.admits_arrayLengthLimit X.admits]; omega
  have hh2 : ¬ k.toNatClampNeg * componentBytes .int > e.platform.maxHeapBytes := by
    rw [Launch.admits_maxHeapBytes X.admits]; show ¬ k.toNatClampNeg * 4 > 536870912; omega
  have hdg' : decode c.code (F0 m pc ls (.int k :: .int n :: rest)).pc = .ok (.multianewarray index 2, 4) := by rw [hb]; exact hdg
  jvm_step X.here [hexec, hdg']
  simp only [multianewarray.sem, wp_bind', W.resolveClassAt_links (State.method?_setTop (F0 m pc ls (.int k :: .int n :: rest)) X.here.top) hg₁]
  rw [W.popN, if_neg (by decide)]
  refine ⟨F0 m pc ls (.int k :: .int n :: rest), State.topJava?_setTop' (s := T.setVm vm₁) _ X.here.top, [.int n, .int k], rest, rfl, rfl, ?_⟩
  simp only [List.mapM_cons, List.mapM_nil, wp_bind', wp_pure']
  refine mu_make (kA := kA₁) (k0 := k0₁) (c0 := c0) (cc := cp0) hkA₁ (by rw [heA]; exact hkindA) hk0₁ (by rw [he0]; exact hkind0) hn hk hl1 hh1 hl2 hh2 (by show T.heap.size + 1 + _ ≤ _; omega) (by show T.slotsUsed + _ + _ ≤ _; omega) (fun d' acts' => ?_)
  have eS : ((T.setTop (F0 m pc ls (.int k :: .int n :: rest))).setVm vm₁).setTop { F0 m pc ls (.int k :: .int n :: rest) with stack := rest } = (T.setVm vm₁).setTop { F0 m pc ls (.int k :: .int n :: rest) with stack := rest } := by
    show ((T.setVm vm₁).setTop _).setTop _ = _
    rw [State.setTop_setTop]
  rw [eS, mu_top]
  simp only [wp_bind', W.mark, W.pushRef, State.topJava?_setTop' _ XF.here.top, Option.some.injEq, exists_eq_left', State.setTop_setTop, State.heap_setTop]
  intro acts
  simp [jvm, XF.here.top]
  rw [← hsz] at a1
  exact a1
end MV
