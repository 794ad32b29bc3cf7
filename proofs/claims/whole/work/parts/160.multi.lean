/-! ===== new int[n][k]: the machine's own making, an outer row and n inner ones ===== -/
/-- the outer row when the first i of its N places are filled -/
def mu_out (cA : ClassId) (N h0 i : Nat) : Cell := arrV cA N (fun j => va_rf (if j < i then some (h0 + 1 + j) else none))
def mu_in (c0 : ClassId) (K : Nat) : Cell := arrV c0 K (fun _ => .int 0)
/-- the machine when i inner rows stand -/
def mu_st (T : State) (cA c0 : ClassId) (N K : Nat) : Nat → State
  | 0 => T.pushCell (mu_out cA N T.heap.size 0)
  | i + 1 => ((mu_st T cA c0 N K i).pushCell (mu_in c0 K)).setCell T.heap.size (mu_out cA N T.heap.size (i + 1))
theorem mu_out_succ (cA : ClassId) (N h0 i : Nat) : (mu_out cA N h0 i).setSlot i (.ref (h0 + 1 + i)) = mu_out cA N h0 (i + 1) := by
  unfold mu_out
  rw [arrV_store]
  refine congrArg (arrV cA N) (funext fun j => ?_)
  by_cases e : j = i
  · subst e; simp [updV, va_rf]
  · by_cases h : j < i
    · simp [updV, e, h, Nat.lt_succ_of_lt h]
    · simp [updV, e, h, show ¬ j < i + 1 by omega]
theorem mu_facts (T : State) (cA c0 : ClassId) (N K : Nat) : ∀ i, (mu_st T cA c0 N K i).heap.size = T.heap.size + 1 + i ∧ (mu_st T cA c0 N K i).heap[T.heap.size]? = some (mu_out cA N T.heap.size i) ∧ (mu_st T cA c0 N K i).vm = T.vm ∧ (mu_st T cA c0 N K i).slotsUsed = T.slotsUsed + N + i * K
  | 0 => ⟨by simp [mu_st], by simp [mu_st], rfl, by simp [mu_st, mu_out, arrV_size]⟩
  | i + 1 => by
    obtain ⟨a, b, d, u⟩ := mu_facts T cA c0 N K i
    have hlt : T.heap.size < (mu_st T cA c0 N K i).heap.size := by omega
    have hb : ((mu_st T cA c0 N K i).pushCell (mu_in c0 K)).heap[T.heap.size]? = some (mu_out cA N T.heap.size i) := by rw [State.heap_pushCell_of_lt (h := hlt)]; exact b
    refine ⟨?_, State.heap_setCell_self hb, by simp [mu_st, d], ?_⟩
    · simp [mu_st, State.setCell, a]; omega
    · simp [mu_st, u, mu_in, arrV_size, Nat.succ_mul]; omega
theorem mu_old (T : State) (cA c0 : ClassId) (N K : Nat) {a : Addr} (ha : a < T.heap.size) : ∀ i, (mu_st T cA c0 N K i).heap[a]? = T.heap[a]?
  | 0 => State.heap_pushCell_of_lt _ _ ha
  | i + 1 => by
    have f1 := (mu_facts T cA c0 N K i).1
    have hlt : a < (mu_st T cA c0 N K i).heap.size := by omega
    show (((mu_st T cA c0 N K i).pushCell (mu_in c0 K)).setCell T.heap.size _).heap[a]? = _
    rw [State.heap_setCell_other (Nat.ne_of_gt ha), State.heap_pushCell_of_lt (h := hlt)]
    exact mu_old T cA c0 N K ha i
theorem mu_inner (T : State) (cA c0 : ClassId) (N K : Nat) : ∀ i j, j < i → (mu_st T cA c0 N K i).heap[T.heap.size + 1 + j]? = some (mu_in c0 K)
  | 0, _, h => absurd h (Nat.not_lt_zero _)
  | i + 1, j, h => by
    have f1 := (mu_facts T cA c0 N K i).1
    show (((mu_st T cA c0 N K i).pushCell (mu_in c0 K)).setCell T.heap.size _).heap[T.heap.size + 1 + j]? = _
    rw [State.heap_setCell_other (show T.heap.size ≠ T.heap.size + 1 + j by omega)]
    rcases Nat.lt_or_ge j i with hj | hj
    · rw [State.heap_pushCell_of_lt (h := by omega)]
      exact mu_inner T cA c0 N K i j hj
    · have e : j = i := by omega
      subst e
      rw [← f1]
      exact State.heap_pushCell_size _ _
theorem mu_top (T : State) (f : JFrame) (cA c0 : ClassId) (N K : Nat) : ∀ i, mu_st (T.setTop f) cA c0 N K i = (mu_st T cA c0 N K i).setTop f
  | 0 => rfl
  | i + 1 => by simp only [mu_st, mu_top T f cA c0 N K i, State.heap_setTop, State.pushCell_setTop, State.setCell_setTop]
section MU
variable {E : CtlPost} {e : Env} {d : Bool} {acts : List Action} {s : State}
theorem mu_alloc {c comp : ClassId} {k : Class} {ty : FieldType} {len : Nat} {x : Value} (hk : s.vm.classes[c]? = some k) (hkind : k.kind = .array comp ty) (hlim : ¬ len > e.platform.arrayLengthLimit) (hheap : ¬ len * componentBytes ty > e.platform.maxHeapBytes) (hfit : fits ty x = true) (hdef : x.isDefault = true) {Q : Addr → Pre} (h1 : s.heap.size < e.platform.maxCells) (h2 : s.slotsUsed + len ≤ e.platform.maxSlots) (hq : Q s.heap.size d acts (s.pushCell (arrV c len (fun _ => x)))) : wp (Jvm.newArray c len x) Q E e d acts s := by
  rw [← arrV_new] at hq
  have hfits : ∀ i v, (Array.replicate len x)[i]? = some v → s.fitsSlot c .none i v = true := by
    intro i v hv
    simp only [Array.getElem?_replicate] at hv
    split at hv
    · cases hv; simp [State.fitsSlot, State.slotType?, hk, hkind, hfit]
    · cases hv
  have hall : ((Array.replicate len x).all (·.isDefault)) = true := by
    rw [Array.all_replicate]; split <;> simp [hdef]
  have hda : allocActs (Array.replicate len x) s.heap.size acts = acts := by
    unfold allocActs; rw [if_pos hall]
  simp only [Jvm.newArray, Jvm.arrayFits, wp_bind', W.ask, W.ite, hlim, if_false, wp_pure', W.theClass, hk, hkind, hheap, W.alloc, W.stop, Option.some.injEq, exists_eq_left', Array.size_replicate, hda]
  rw [if_neg (by omega)]
  exact ⟨h1, h2, hfits, hq⟩
end MU
