/-! ===== the same of a method of the JDK ===== -/
/-- a contract out of the walk from the entry -/
theorem MT.ofF {y : MethodName} {cc : ByteArray} {nL : Nat} {rt : Option FieldType} {fr lo : Nat} {av : (Nat → Nat) → List Value} {S : SS} {v : Option Value} {S' : SS} (own : String) (lv : (Nat → Nat) → List (Nat × Value)) (hy : plainFor y = true) (ho : y.cls = own) (hn : ∀ ad, (lg_sl (av ad)).length ≤ nL) (hlv : ∀ ad, lv_args 0 (av ad) = lv ad)
    (body : ∀ (p : Program) (l : Launch) (e : Env) (R : Room) (s : State) (m : MethodId) (args : Array Value) (below : List Frame) (meth : Method) (c : Code) (dC : Nat → ClassId) (dI : Nat → Nat → Nat) (cs : Nat → ClassId) (ad : Nat → Nat) (A : Nat → Prop), fr ≤ R.frames → lo ≤ R.locals → Fx p s m args meth c cc nL own rt dC dI cs A → AW p l e R s m args below meth c dC dI cs ad A S.2 v S' nL 0 (lv ad) [] S) : MT y cc nL rt fr lo av S v S' := by
  intro l dC dI cs ad sz
  refine va_MetF (cc := cc) (maxL := nL) (ret := rt) hy rfl ?_
  intro p e s m args below meth c s₁ B hml hv
  obtain ⟨rfl, hsz, hP, hK, hD0, hN⟩ := hv
  have hts := atoms_spec (ws := .code y cc nL rt :: lw_gt) B.pre
  have hown : s.vm.findClass own = some m.cls := by rw [← ho]; exact findClass_of_methodNamed B.named
  subst hsz
  have hD := hD0.self (sz := s.heap.size)
  have hl := lv_entry (av ad) (n := nL) (hn ad)
  rw [lg_entry_eq]
  rw [hlv ad] at hl
  exact body p l e _ s m _ below meth c dC dI cs ad (va_A (wsOf cs ad S) s.heap.size) (Nat.le_refl _) (Nat.le_refl _) ⟨⟨B.exec, B.bytes, hml, hown, fun w hw => hts w (List.mem_cons_of_mem _ hw)⟩, B.returns, B.notSynchronized, hK, fun q h => Or.inr h, hN⟩ s.heap [] _ ⟨hP, hD, va_S.rf, rfl⟩ hl
