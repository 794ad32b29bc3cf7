/-! ===== the world: fixed cells, their ints, and rows of the machine over it ===== -/
abbrev SS : Type := (Nat → Nat → Int32) × (Nat → Nat)
def fsOf (ad : Nat → Nat) (f : Nat → Int32) : Nat → List (Option Nat) → List Value
  | _, [] => []
  | j, some t :: r => .ref (ad t) :: fsOf ad f (j + 1) r
  | j, none :: r => .int (f j) :: fsOf ad f (j + 1) r
def ceOf (cs : Nat → ClassId) (ad : Nat → Nat) (S : SS) (k : Nat) : dsc → va_E
  | .inl (ci, fs) => .inr (ci, fsOf ad (S.1 k) 0 fs)
  | .inr (0, n) => .inl (cs 0, n.getD (S.2 k), .inl (S.1 k))
  | .inr (1, n) => .inl (cs 1, n.getD (S.2 k), .inl (S.1 k))
  | .inr (_, n) => .inl (cs 2, n.getD (S.2 k), .inr (.inr (.inr (.inr (fun i => if i < 8 then some (ad (kb + i)) else none)))))
def wsF (cs : Nat → ClassId) (ad : Nat → Nat) (S : SS) : Nat → List dsc → va_W
  | _, [] => []
  | k, d :: r => (ad k, ceOf cs ad S k d) :: wsF cs ad S (k + 1) r
abbrev wsOf (cs : Nat → ClassId) (ad : Nat → Nat) (S : SS) : va_W := wsF cs ad S 0 dsT
def tyL (cs : Nat → ClassId) : List (ClassId × FieldType) := [(cs 0, .int), (cs 1, .boolean), (cs 2, .array .int)]
theorem wsF_get (cs : Nat → ClassId) (ad : Nat → Nat) (S : SS) : ∀ (ds : List dsc) (k0 i : Nat), (wsF cs ad S k0 ds)[i]? = (ds[i]?).map (fun d => (ad (k0 + i), ceOf cs ad S (k0 + i) d))
  | [], k0, i => by simp [wsF]
  | d :: r, k0, 0 => by simp [wsF]
  | d :: r, k0, i + 1 => by
    have h := wsF_get cs ad S r (k0 + 1) i
    simp only [wsF, List.getElem?_cons_succ]
    rw [h, show k0 + 1 + i = k0 + (i + 1) by omega]
theorem ws_get {cs : Nat → ClassId} {ad : Nat → Nat} {S : SS} {k : Nat} {d : dsc} (h : dsT[k]? = some d) : (wsOf cs ad S)[k]? = some (ad k, ceOf cs ad S k d) := by
  rw [wsF_get, h, Nat.zero_add]; rfl
theorem fsOf_len (ad : Nat → Nat) (f : Nat → Int32) : ∀ (fs : List (Option Nat)) (j0 : Nat), (fsOf ad f j0 fs).length = fs.length
  | [], _ => rfl
  | some _ :: r, j0 => by simp [fsOf, fsOf_len ad f r (j0 + 1)]
  | none :: r, j0 => by simp [fsOf, fsOf_len ad f r (j0 + 1)]
theorem fsOf_int (ad : Nat → Nat) (f : Nat → Int32) : ∀ (fs : List (Option Nat)) (j0 j : Nat), fs[j]? = some none → (fsOf ad f j0 fs)[j]? = some (.int (f (j0 + j)))
  | [], j0, j, h => by simp at h
  | some t :: r, j0, 0, h => by simp at h
  | none :: r, j0, 0, h => by simp [fsOf]
  | some t :: r, j0, j + 1, h => by
    have h2 := fsOf_int ad f r (j0 + 1) j (by simpa using h)
    simp only [fsOf, List.getElem?_cons_succ]; rw [h2, show j0 + 1 + j = j0 + (j + 1) by omega]
  | none :: r, j0, j + 1, h => by
    have h2 := fsOf_int ad f r (j0 + 1) j (by simpa using h)
    simp only [fsOf, List.getElem?_cons_succ]; rw [h2, show j0 + 1 + j = j0 + (j + 1) by omega]
theorem fsOf_ref (ad : Nat → Nat) (f : Nat → Int32) (t : Nat) : ∀ (fs : List (Option Nat)) (j0 j : Nat), fs[j]? = some (some t) → (fsOf ad f j0 fs)[j]? = some (.ref (ad t))
  | [], j0, j, h => by simp at h
  | some t' :: r, j0, 0, h => by simp at h; subst h; simp [fsOf]
  | none :: r, j0, 0, h => by simp at h
  | some t' :: r, j0, j + 1, h => by
    have h2 := fsOf_ref ad f t r (j0 + 1) j (by simpa using h)
    simp only [fsOf, List.getElem?_cons_succ]; rw [h2]
  | none :: r, j0, j + 1, h => by
    have h2 := fsOf_ref ad f t r (j0 + 1) j (by simpa using h)
    simp only [fsOf, List.getElem?_cons_succ]; rw [h2]
theorem fsOf_congr (ad : Nat → Nat) (f g : Nat → Int32) : ∀ (fs : List (Option Nat)) (j0 : Nat), (∀ j, j0 ≤ j → f j = g j) → fsOf ad f j0 fs = fsOf ad g j0 fs
  | [], j0, h => rfl
  | some t :: r, j0, h => by simp only [fsOf]; rw [fsOf_congr ad f g r (j0 + 1) (fun j hj => h j (by omega))]
  | none :: r, j0, h => by simp only [fsOf]; rw [fsOf_congr ad f g r (j0 + 1) (fun j hj => h j (by omega)), h j0 (Nat.le_refl _)]
theorem fsOf_set (ad : Nat → Nat) (f : Nat → Int32) (v : Int32) : ∀ (fs : List (Option Nat)) (j0 j : Nat), fs[j]? = some none → (fsOf ad f j0 fs).set j (.int v) = fsOf ad (upd f (j0 + j) v) j0 fs
  | [], j0, j, h => by simp at h
  | some t :: r, j0, 0, h => by simp at h
  | none :: r, j0, 0, h => by
    simp only [fsOf, List.set_cons_zero, Nat.add_zero]
    rw [fsOf_congr ad f (upd f j0 v) r (j0 + 1) (fun j hj => by simp [upd]; intro e; omega)]
    simp [upd]
  | some t :: r, j0, j + 1, h => by
    simp only [fsOf, List.set_cons_succ]; rw [fsOf_set ad f v r (j0 + 1) j (by simpa using h), show j0 + 1 + j = j0 + (j + 1) by omega]
  | none :: r, j0, j + 1, h => by
    simp only [fsOf, List.set_cons_succ]; rw [fsOf_set ad f v r (j0 + 1) j (by simpa using h), show j0 + 1 + j = j0 + (j + 1) by omega]
    have : upd f (j0 + (j + 1)) v j0 = f j0 := by simp [upd]
    rw [this]
/-- one int of one cell is written -/
def st (S : SS) (k i : Nat) (v : Int32) : SS := (fun a => if a = k then upd (S.1 k) i v else S.1 a, S.2)
/-- a copy of n ints of cell k0 from sp on into cell k1 from dp on -/
def cp (S : SS) (k0 k1 sp dp n : Nat) : SS := (fun a => if a = k1 then va_cpy (S.1 k0) (S.1 k1) sp dp n else S.1 a, S.2)
theorem st_self (S : SS) (k i : Nat) (v : Int32) : (st S k i v).1 k = upd (S.1 k) i v := by simp [st]
theorem st_ne (S : SS) (k i : Nat) (v : Int32) {a : Nat} (h : a ≠ k) : (st S k i v).1 a = S.1 a := by simp [st, h]
theorem ceOf_congr {cs : Nat → ClassId} {ad : Nat → Nat} {S S' : SS} {k : Nat} {d : dsc} (h1 : S'.1 k = S.1 k) (h2 : S'.2 = S.2) : ceOf cs ad S' k d = ceOf cs ad S k d := by
  rcases d with ⟨ci, fs⟩ | ⟨t, n⟩
  · simp only [ceOf, h1]
  · rcases t with _ | _ | t <;> simp only [ceOf, h1, h2]
theorem ws_set {cs : Nat → ClassId} {ad : Nat → Nat} {S S' : SS} {k : Nat} {d : dsc} (hk : dsT[k]? = some d) (h1 : ∀ a, a ≠ k → S'.1 a = S.1 a) (h2 : S'.2 = S.2) : (wsOf cs ad S).set k (ad k, ceOf cs ad S' k d) = wsOf cs ad S' := by
  apply List.ext_getElem?
  intro i
  have hl : k < (wsOf cs ad S).length := (List.getElem?_eq_some_iff.mp (ws_get (cs := cs) (ad := ad) (S := S) hk)).1
  by_cases e : i = k
  · subst e
    rw [List.getElem?_set_self hl, ws_get hk]
  · rw [List.getElem?_set_ne (Ne.symm e), wsF_get, wsF_get, Nat.zero_add]
    cases dsT[i]? with
    | none => rfl
    | some d' => simp only [Option.map_some]; rw [ceOf_congr (h1 i e) h2]
/-- an index within, as a program tests it -/
def inb (i : Int32) (n : Nat) : Bool := !(decide (i < 0)) && decide (i.toNatClampNeg < n)
theorem inb_in {i : Int32} {n : Nat} (h : inb i n = true) : vp_in i n := by
  simp only [inb, Bool.and_eq_true, Bool.not_eq_true', decide_eq_false_iff_not, decide_eq_true_eq] at h
  intro q
  rcases q with q | q
  · exact h.1 q
  · omega
theorem inb_lt {i : Int32} {n : Nat} (h : inb i n = true) : i.toNatClampNeg < n := by
  simp only [inb, Bool.and_eq_true, decide_eq_true_eq] at h
  exact h.2
def isB (v : Int32) : Bool := decide (v = 0) || decide (v = 1)
def cpok (sp dp n : Int32) (n0 n1 : Nat) : Bool := !(decide (sp < 0)) && !(decide (dp < 0)) && !(decide (n < 0)) && decide (sp.toNatClampNeg + n.toNatClampNeg ≤ n0) && decide (dp.toNatClampNeg + n.toNatClampNeg ≤ n1)
/-- the words of the programs -/
def grd {ρ : Type} (b : Bool) (x : Option ρ) : Option ρ := if b = true then x else none
def nm {α ρ : Type} (x : α) (f : α → Option ρ) : Option ρ := f x
def wr {ρ : Type} (S : SS) (k i : Nat) (v : Int32) (f : SS → Option ρ) : Option ρ := f (st S k i v)
def cpw {ρ : Type} (S : SS) (k0 k1 sp dp n : Nat) (f : SS → Option ρ) : Option ρ := f (cp S k0 k1 sp dp n)
def bnd {ρ : Type} (x : Option (Int32 × SS)) (g : Int32 → SS → Option ρ) : Option ρ := match x with
  | none => none
  | some q => g q.1 q.2
def bndl {ρ : Type} (x : Option (Int64 × SS)) (g : Int64 → SS → Option ρ) : Option ρ := match x with
  | none => none
  | some q => g q.1 q.2
def bndv {ρ : Type} (x : Option SS) (g : SS → Option ρ) : Option ρ := match x with
  | none => none
  | some q => g q
def NF : Nat := 100000
theorem grd_t {ρ : Type} {b : Bool} {x : Option ρ} {r : ρ} (h : grd b x = some r) : b = true ∧ x = some r := by
  unfold grd at h
  split at h
  · exact ⟨by assumption, h⟩
  · cases h
theorem ite_t {ρ : Type} {P : Prop} [Decidable P] {x y : Option ρ} {r : ρ} (hp : P) (h : (if P then x else y) = some r) : x = some r := by rw [if_pos hp] at h; exact h
theorem ite_f {ρ : Type} {P : Prop} [Decidable P] {x y : Option ρ} {r : ρ} (hp : ¬ P) (h : (if P then x else y) = some r) : y = some r := by rw [if_neg hp] at h; exact h
theorem bnd_t {ρ : Type} {x : Option (Int32 × SS)} {g : Int32 → SS → Option ρ} {r : ρ} (h : bnd x g = some r) : ∃ v S, x = some (v, S) ∧ g v S = some r := by
  cases x with
  | none => cases h
  | some q => exact ⟨q.1, q.2, rfl, h⟩
theorem bndl_t {ρ : Type} {x : Option (Int64 × SS)} {g : Int64 → SS → Option ρ} {r : ρ} (h : bndl x g = some r) : ∃ v S, x = some (v, S) ∧ g v S = some r := by
  cases x with
  | none => cases h
  | some q => exact ⟨q.1, q.2, rfl, h⟩
theorem bndv_t {ρ : Type} {x : Option SS} {g : SS → Option ρ} {r : ρ} (h : bndv x g = some r) : ∃ S, x = some S ∧ g S = some r := by
  cases x with
  | none => cases h
  | some q => exact ⟨q, rfl, h⟩
/-- the tables' words that stay -/
def lw_gt : List Cond := lw_tbl.filter goodWord
theorem lw_in {w : Cond} (i : Nat) (h : lw_tbl[i]? = some w) (hg : goodWord w = true) : w ∈ lw_gt := List.mem_filter.mpr ⟨List.mem_of_getElem? h, hg⟩
theorem lw_gg : GoodIn lw_gt lw_gt := fun w h => ⟨h, good_of_word (List.mem_filter.mp h).2⟩
/-- links of nest mates; the class of the array of arrays -/
def KA (cs : Nat → ClassId) (s : State) : Prop := ∃ kA : Class, s.vm.classes[cs 2]? = some kA ∧ kA.kind = .array (cs 0) (.array .int)
def Nw (cs : Nat → ClassId) (s : State) : Prop := (∀ w ∈ nwL, va_Nw (.methodLinkNest w.1 w.2.1 w.2.2.1 w.2.2.2) s) ∧ KA cs s
theorem Nw.warm {cs : Nat → ClassId} {s U : State} (hW : s.WarmedH U.vm) (h : Nw cs s) : Nw cs U := ⟨fun w hw => va_Nw.warmM hW (h.1 w hw), by
  obtain ⟨kA, h1, h2⟩ := h.2
  obtain ⟨k', hk', he⟩ := hW.alike.2.2 _ _ h1
  exact ⟨k', hk', by rw [he]; exact h2⟩⟩
theorem Nw.calling {cs : Nat → ClassId} {U : State} {g : JFrame} {mk : MethodId} {a : Array Value} (h : Nw cs U) : Nw cs (U.calling g mk a) := ⟨fun w hw => va_Nw.same (u := U) (U := U.calling g mk a) rfl rfl (h.1 w hw), h.2⟩
def Wo (dC : Nat → ClassId) (dI : Nat → Nat → Nat) (cs : Nat → ClassId) (ad : Nat → Nat) (A : Nat → Prop) (H0 : Heap) (D0 : Nat → Nat) (S : SS) (H : Heap) (locs : List Loc) : Prop :=
  va_P (dC, dI) vwCl (wsOf cs ad S) H ∧ va_D A (wsOf cs ad S) ∧ va_S A H0 H locs ∧ S.2 = D0
/-- what a method leaves: its answer, the ints of the cells, nothing else changed -/
def Qs (dC : Nat → ClassId) (dI : Nat → Nat → Nat) (cs : Nat → ClassId) (ad : Nat → Nat) (A : Nat → Prop) (D0 : Nat → Nat) (v : Option Value) (S' : SS) : Array Value → State → Outcome → State → Prop :=
  fun _ st oc t => (oc = .returned v ∧ S'.2 = D0 ∧ va_P (dC, dI) vwCl (wsOf cs ad S') t.heap ∧ va_D A (wsOf cs ad S')) ∧ va_F A st t
def Ps (dC : Nat → ClassId) (dI : Nat → Nat → Nat) (cs : Nat → ClassId) (ad : Nat → Nat) (sz : Nat) (S : SS) (av : List Value) : Array Value → State → Prop :=
  va_Pc av (fun U => U.heap.size = sz ∧ va_P (dC, dI) vwCl (wsOf cs ad S) U.heap ∧ va_K (dC, dI) vwCl (tyL cs) U ∧ va_D (fun _ => True) (wsOf cs ad S) ∧ Nw cs U)
theorem Ps_blind {dC : Nat → ClassId} {dI : Nat → Nat → Nat} {cs : Nat → ClassId} {ad : Nat → Nat} {sz : Nat} {S : SS} {av : List Value} : FrameBlind (Ps dC dI cs ad sz S av) := fun a U g mk q => by
  obtain ⟨q0, q1, qP, qK, qD, qN⟩ := q
  exact ⟨q0, q1, qP, va_K.moved (u := U) (U := U.calling g mk a) (Vm.Alike.refl U.vm) qK, qD, qN.calling⟩
/-- a method's contract: these arguments on these ints give this answer and those ints -/
def MT (y : MethodName) (cc : ByteArray) (nL : Nat) (rt : Option FieldType) (fr lo : Nat) (av : (Nat → Nat) → List Value) (S : SS) (v : Option Value) (S' : SS) : Prop :=
  ∀ (l : Launch) (dC : Nat → ClassId) (dI : Nat → Nat → Nat) (cs : Nat → ClassId) (ad : Nat → Nat) (sz : Nat),
    Met l y (.code y cc nL rt :: lw_gt) { frames := fr, cells := 0, slots := 0, locals := lo } (Ps dC dI cs ad sz S (av ad)) (Qs dC dI cs ad (va_A (wsOf cs ad S) sz) S.2 v S') 0 0 (va_A (wsOf cs ad S) sz)
def Fx (p : Program) (s : State) (m : MethodId) (args : Array Value) (meth : Method) (c : Code) (cc : ByteArray) (nL : Nat) (own : String) (rt : Option FieldType) (dC : Nat → ClassId) (dI : Nat → Nat → Nat) (cs : Nat → ClassId) (A : Nat → Prop) : Prop :=
  CallFix p m c cc nL s args lw_gt own ∧ meth.sig.returnType = rt ∧ meth.locks = false ∧ va_K (dC, dI) vwCl (tyL cs) s ∧ (∀ q, s.heap.size ≤ q → A q) ∧ Nw cs s
section RW
variable {p : Program} {l : Launch} {e : Env} {R : Room} {s : State} {m : MethodId} {args : Array Value} {below : List Frame} {meth : Method} {c : Code} {H : Heap} {locs : List Loc} {Q : State → Prop} {ρ : Type} {res : ρ}
variable {cc : ByteArray} {pc nL : Nat} {own : String} {rt : Option FieldType} {ls : Array Slot} {rest : List Value} {dC : Nat → ClassId} {dI : Nat → Nat → Nat} {cs : Nat → ClassId} {ad : Nat → Nat} {A : Nat → Prop} {H0 : Heap} {D0 : Nat → Nat} {S : SS} {cells slots : Nat}
theorem s_getI (F : Fx p s m args meth c cc nL own rt dC dI cs A) (w : Wo dC dI cs ad A H0 D0 S H locs) {k ci j N index : Nat} {C : String} {T : u_T} {fs : List (Option Nat)} (hk : dsT[k]? = some (.inl (ci, fs))) (hc : vwCl[ci]? = some (C, T, N)) (hin : ∀ w ∈ u_ws C T N, w ∈ lw_gt) (hj : fs[j]? = some none) (hN : j < N) (hl : Cond.fieldLink own index (T j).1 (T j).2.1 (T j).2.2.1 ∈ lw_gt) (hdg : decode cc pc = .ok (.getfield index, 3))
    (kk : W p l e R s m args below meth c H locs cells slots Q (F0 m (pc + 3) ls (.int (S.1 k j) :: rest))) : W p l e R s m args below meth c H locs cells slots Q (F0 m pc ls (.ref (ad k) :: rest)) := by
  obtain ⟨⟨hx, hb, hml, hown, hts⟩, -, -, hK, -⟩ := F
  refine va_get hx hb hts hin hown hK w.1 k (ws_get hk) hc j hN (hts _ hl) (fun x h => h) (v := .int (S.1 k j)) ?_ hdg kk
  have := fsOf_int ad (S.1 k) fs 0 j hj
  rwa [Nat.zero_add] at this
theorem s_getR (F : Fx p s m args meth c cc nL own rt dC dI cs A) (w : Wo dC dI cs ad A H0 D0 S H locs) {k ci j N index : Nat} (t : Nat) {C : String} {T : u_T} {fs : List (Option Nat)} (hk : dsT[k]? = some (.inl (ci, fs))) (hc : vwCl[ci]? = some (C, T, N)) (hin : ∀ w ∈ u_ws C T N, w ∈ lw_gt) (hj : fs[j]? = some (some t)) (hN : j < N) (hl : Cond.fieldLink own index (T j).1 (T j).2.1 (T j).2.2.1 ∈ lw_gt) (hdg : decode cc pc = .ok (.getfield index, 3))
    (kk : W p l e R s m args below meth c H locs cells slots Q (F0 m (pc + 3) ls (.ref (ad t) :: rest))) : W p l e R s m args below meth c H locs cells slots Q (F0 m pc ls (.ref (ad k) :: rest)) := by
  obtain ⟨⟨hx, hb, hml, hown, hts⟩, -, -, hK, -⟩ := F
  exact va_get hx hb hts hin hown hK w.1 k (ws_get hk) hc j hN (hts _ hl) (fun x h => h) (v := .ref (ad t)) (fsOf_ref ad (S.1 k) t fs 0 j hj) hdg kk
theorem s_putI (F : Fx p s m args meth c cc nL own rt dC dI cs A) (w : Wo dC dI cs ad A H0 D0 S H locs) {k ci j N index : Nat} {C : String} {T : u_T} {fs : List (Option Nat)} {ty0 : Nat → FieldType} (hk : dsT[k]? = some (.inl (ci, fs))) (hc : vwCl[ci]? = some (C, T, N)) (hin : ∀ w ∈ u_ws C T N, w ∈ lw_gt) (hty : ∀ k, k < N → parseFieldDescriptor (T k).2.2.1 = some (ty0 k)) (hnm : ∀ a, a < N → ∀ b, b < N → a ≠ b → (T a).2.1 ≠ (T b).2.1) (hj : fs[j]? = some none) (hN : j < N) (hl : Cond.fieldLink own index (T j).1 (T j).2.1 (T j).2.2.1 ∈ lw_gt) (hfin : (T j).2.2.2 = false) {v : Int32} (hd : parseFieldDescriptor (T j).2.2.1 = some .int) {f : SS → Option ρ} (h : wr S k j v f = some res) (hdg : decode cc pc = .ok (.putfield index, 3))
    (kk : ∀ (S1 : SS) (H1 : Heap) (locs1 : List Loc), f S1 = some res → Wo dC dI cs ad A H0 D0 S1 H1 locs1 → W p l e R s m args below meth c H1 locs1 cells slots Q (F0 m (pc + 3) ls rest)) : W p l e R s m args below meth c H locs cells slots Q (F0 m pc ls (.int v :: .ref (ad k) :: rest)) := by
  obtain ⟨⟨hx, hb, hml, hown, hts⟩, -, -, hK, -⟩ := F
  obtain ⟨hP, hD, hS, h2⟩ := w
  refine va_put hx hb hts hin ty0 hty hnm hown hK hP hD hS k (ws_get hk) hc j hN (hts _ hl) (fun x h => h) hfin (v := .int v) hd rfl rfl (by rw [fsOf_len]; exact (List.getElem?_eq_some_iff.mp hj).1) hdg fun H1 locs1 hP1 hD1 hS1 => ?_
  have e1 : (wsOf cs ad S).set k (ad k, .inr (ci, (fsOf ad (S.1 k) 0 fs).set j (.int v))) = wsOf cs ad (st S k j v) := by
    rw [fsOf_set ad (S.1 k) v fs 0 j hj, Nat.zero_add, ← st_self S k j v]
    exact ws_set (S' := st S k j v) hk (fun a ha => st_ne S k j v ha) rfl
  rw [e1] at hP1 hD1
  exact kk _ H1 locs1 h ⟨hP1, hD1, hS1, h2⟩
theorem s_putZ (F : Fx p s m args meth c cc nL own rt dC dI cs A) (w : Wo dC dI cs ad A H0 D0 S H locs) {k ci j N index : Nat} {C : String} {T : u_T} {fs : List (Option Nat)} {ty0 : Nat → FieldType} (hk : dsT[k]? = some (.inl (ci, fs))) (hc : vwCl[ci]? = some (C, T, N)) (hin : ∀ w ∈ u_ws C T N, w ∈ lw_gt) (hty : ∀ k, k < N → parseFieldDescriptor (T k).2.2.1 = some (ty0 k)) (hnm : ∀ a, a < N → ∀ b, b < N → a ≠ b → (T a).2.1 ≠ (T b).2.1) (hj : fs[j]? = some none) (hN : j < N) (hl : Cond.fieldLink own index (T j).1 (T j).2.1 (T j).2.2.1 ∈ lw_gt) (hfin : (T j).2.2.2 = false) {v : Int32} (hd : parseFieldDescriptor (T j).2.2.1 = some .boolean) {f : SS → Option ρ} (h : grd (isB v) (wr S k j v f) = some res) (hdg : decode cc pc = .ok (.putfield index, 3))
    (kk : ∀ (S1 : SS) (H1 : Heap) (locs1 : List Loc), f S1 = some res → Wo dC dI cs ad A H0 D0 S1 H1 locs1 → W p l e R s m args below meth c H1 locs1 cells slots Q (F0 m (pc + 3) ls rest)) : W p l e R s m args below meth c H locs cells slots Q (F0 m pc ls (.int v :: .ref (ad k) :: rest)) := by
  obtain ⟨⟨hx, hb, hml, hown, hts⟩, -, -, hK, -⟩ := F
  obtain ⟨hP, hD, hS, h2⟩ := w
  obtain ⟨hv, h⟩ := grd_t h
  have hn : narrow .boolean (.int v) = .int v ∧ fits .boolean (.int v) = true := by
    simp only [isB, Bool.or_eq_true, decide_eq_true_eq] at hv
    rcases hv with rfl | rfl <;> exact ⟨by decide, by decide⟩
  refine va_put hx hb hts hin ty0 hty hnm hown hK hP hD hS k (ws_get hk) hc j hN (hts _ hl) (fun x h => h) hfin (v := .int v) hd hn.1 hn.2 (by rw [fsOf_len]; exact (List.getElem?_eq_some_iff.mp hj).1) hdg fun H1 locs1 hP1 hD1 hS1 => ?_
  have e1 : (wsOf cs ad S).set k (ad k, .inr (ci, (fsOf ad (S.1 k) 0 fs).set j (.int v))) = wsOf cs ad (st S k j v) := by
    rw [fsOf_set ad (S.1 k) v fs 0 j hj, Nat.zero_add, ← st_self S k j v]
    exact ws_set (S' := st S k j v) hk (fun a ha => st_ne S k j v ha) rfl
  rw [e1] at hP1 hD1
  exact kk _ H1 locs1 h ⟨hP1, hD1, hS1, h2⟩
theorem s_iald (F : Fx p s m args meth c cc nL own rt dC dI cs A) (w : Wo dC dI cs ad A H0 D0 S H locs) {k : Nat} {n : Option Nat} (hk : dsT[k]? = some (.inr (0, n))) {i : Int32} {g : Option ρ} (h : grd (inb i (n.getD (S.2 k))) g = some res) (hdg : decode cc pc = .ok (.iaload, 1))
    (kk : g = some res → W p l e R s m args below meth c H locs cells slots Q (F0 m (pc + 1) ls (.int (S.1 k i.toNatClampNeg) :: rest))) : W p l e R s m args below meth c H locs cells slots Q (F0 m pc ls (.int i :: .ref (ad k) :: rest)) := by
  obtain ⟨⟨hx, hb, hml, hown, hts⟩, -, -, hK, -⟩ := F
  obtain ⟨hi, h⟩ := grd_t h
  exact va_iald hx hb hK w.1 k 0 (ws_get hk) rfl (inb_in hi) hdg (kk h)
theorem s_zald (F : Fx p s m args meth c cc nL own rt dC dI cs A) (w : Wo dC dI cs ad A H0 D0 S H locs) {k : Nat} {n : Option Nat} (hk : dsT[k]? = some (.inr (1, n))) {i : Int32} {g : Option ρ} (h : grd (inb i (n.getD (S.2 k))) g = some res) (hdg : decode cc pc = .ok (.baload, 1))
    (kk : g = some res → W p l e R s m args below meth c H locs cells slots Q (F0 m (pc + 1) ls (.int (S.1 k i.toNatClampNeg) :: rest))) : W p l e R s m args below meth c H locs cells slots Q (F0 m pc ls (.int i :: .ref (ad k) :: rest)) := by
  obtain ⟨⟨hx, hb, hml, hown, hts⟩, -, -, hK, -⟩ := F
  obtain ⟨hi, h⟩ := grd_t h
  exact va_zald hx hb hK w.1 k 1 (ws_get hk) rfl (inb_in hi) hdg (kk h)
theorem s_alen (F : Fx p s m args meth c cc nL own rt dC dI cs A) (w : Wo dC dI cs ad A H0 D0 S H locs) {k : Nat} {n : Option Nat} (hk : dsT[k]? = some (.inr (0, n))) (hdg : decode cc pc = .ok (.arraylength, 1))
    (kk : W p l e R s m args below meth c H locs cells slots Q (F0 m (pc + 1) ls (.int (Int32.ofNat (n.getD (S.2 k))) :: rest))) : W p l e R s m args below meth c H locs cells slots Q (F0 m pc ls (.ref (ad k) :: rest)) := by
  obtain ⟨⟨hx, hb, hml, hown, hts⟩, -, -, hK, -⟩ := F
  exact va_alen hx hb hK w.1 k 0 (ws_get hk) (ty := .int) rfl rfl hdg kk
theorem s_iast (F : Fx p s m args meth c cc nL own rt dC dI cs A) (w : Wo dC dI cs ad A H0 D0 S H locs) {k : Nat} {n : Option Nat} (hk : dsT[k]? = some (.inr (0, n))) {i v : Int32} {f : SS → Option ρ} (h : grd (inb i (n.getD (S.2 k))) (wr S k i.toNatClampNeg v f) = some res) (hdg : decode cc pc = .ok (.iastore, 1))
    (kk : ∀ (S1 : SS) (H1 : Heap) (locs1 : List Loc), f S1 = some res → Wo dC dI cs ad A H0 D0 S1 H1 locs1 → W p l e R s m args below meth c H1 locs1 cells slots Q (F0 m (pc + 1) ls rest)) : W p l e R s m args below meth c H locs cells slots Q (F0 m pc ls (.int v :: .int i :: .ref (ad k) :: rest)) := by
  obtain ⟨⟨hx, hb, hml, hown, hts⟩, -, -, hK, -⟩ := F
  obtain ⟨hP, hD, hS, h2⟩ := w
  obtain ⟨hi, h⟩ := grd_t h
  refine va_iast hx hb hK hP hD hS k 0 (ws_get hk) rfl (inb_in hi) hdg fun H1 locs1 hP1 hD1 hS1 => ?_
  have e1 : (wsOf cs ad S).set k (ad k, .inl (cs 0, n.getD (S.2 k), .inl (upd (S.1 k) i.toNatClampNeg v))) = wsOf cs ad (st S k i.toNatClampNeg v) := by
    rw [← st_self S k i.toNatClampNeg v]
    exact ws_set (S' := st S k i.toNatClampNeg v) hk (fun a ha => st_ne S k _ v ha) rfl
  rw [e1] at hP1 hD1
  exact kk _ H1 locs1 h ⟨hP1, hD1, hS1, h2⟩
theorem s_zast (F : Fx p s m args meth c cc nL own rt dC dI cs A) (w : Wo dC dI cs ad A H0 D0 S H locs) {k : Nat} {n : Option Nat} (hk : dsT[k]? = some (.inr (1, n))) {i v : Int32} {f : SS → Option ρ} (h : grd (inb i (n.getD (S.2 k))) (wr S k i.toNatClampNeg (vp_nar .boolean v) f) = some res) (hdg : decode cc pc = .ok (.bastore, 1))
    (kk : ∀ (S1 : SS) (H1 : Heap) (locs1 : List Loc), f S1 = some res → Wo dC dI cs ad A H0 D0 S1 H1 locs1 → W p l e R s m args below meth c H1 locs1 cells slots Q (F0 m (pc + 1) ls rest)) : W p l e R s m args below meth c H locs cells slots Q (F0 m pc ls (.int v :: .int i :: .ref (ad k) :: rest)) := by
  obtain ⟨⟨hx, hb, hml, hown, hts⟩, -, -, hK, -⟩ := F
  obtain ⟨hP, hD, hS, h2⟩ := w
  obtain ⟨hi, h⟩ := grd_t h
  refine va_zast hx hb hK hP hD hS k 1 (ws_get hk) rfl (inb_in hi) hdg fun H1 locs1 hP1 hD1 hS1 => ?_
  have e1 : (wsOf cs ad S).set k (ad k, .inl (cs 1, n.getD (S.2 k), .inl (upd (S.1 k) i.toNatClampNeg (vp_nar .boolean v)))) = wsOf cs ad (st S k i.toNatClampNeg (vp_nar .boolean v)) := by
    rw [← st_self S k i.toNatClampNeg (vp_nar .boolean v)]
    exact ws_set (S' := st S k i.toNatClampNeg (vp_nar .boolean v)) hk (fun a ha => st_ne S k _ _ ha) rfl
  rw [e1] at hP1 hD1
  exact kk _ H1 locs1 h ⟨hP1, hD1, hS1, h2⟩
theorem s_copy (F : Fx p s m args meth c cc nL own rt dC dI cs A) (w : Wo dC dI cs ad A H0 D0 S H locs) {k0 k1 index : Nat} {n0 n1 : Option Nat} (hls : ls.size = nL) (hk0 : dsT[k0]? = some (.inr (0, n0))) (hk1 : dsT[k1]? = some (.inr (0, n1))) {sp dp n : Int32} {f : SS → Option ρ} (h : grd (cpok sp dp n (n0.getD (S.2 k0)) (n1.getD (S.2 k1))) (cpw S k0 k1 sp.toNatClampNeg dp.toNatClampNeg n.toNatClampNeg f) = some res) (hl : Cond.methodLink own index arraycopyName ∈ lw_gt) (hn1 : Cond.native arraycopyName ∈ lw_gt) (hn2 : Cond.static arraycopyName ∈ lw_gt) (hn3 : Cond.initialized "java/lang/System" ∈ lw_gt) (hfr : 1 ≤ R.frames) (hlo : (rest.map fun v => v.category).sum + (nativeFrameWords "java/lang/System" "arraycopy" 5 + 11) ≤ R.locals) (hdg : decode cc pc = .ok (.invokestatic index, 3))
    (kk : ∀ (S1 : SS) (H1 : Heap) (locs1 : List Loc), f S1 = some res → Wo dC dI cs ad A H0 D0 S1 H1 locs1 → W p l e R s m args below meth c H1 locs1 cells slots Q (F0 m (pc + 3) ls rest)) : W p l e R s m args below meth c H locs cells slots Q (F0 m pc ls (.int n :: .int dp :: .ref (ad k1) :: .int sp :: .ref (ad k0) :: rest)) := by
  obtain ⟨⟨hx, hb, hml, hown, hts⟩, -, -, hK, -⟩ := F
  obtain ⟨hP, hD, hS, h2⟩ := w
  obtain ⟨hi, h⟩ := grd_t h
  simp only [cpok, Bool.and_eq_true, Bool.not_eq_true', decide_eq_false_iff_not, decide_eq_true_eq] at hi
  obtain ⟨⟨⟨⟨c1, c2⟩, c3⟩, c4⟩, c5⟩ := hi
  refine va_copyi hx hb (hml.trans hls.symm) hown (hts _ hl) (hts _ hn1) (hts _ hn2) (hts _ hn3) hK hP hD hS k0 k1 0 0 (ws_get hk0) (ws_get hk1) (ty := .int) rfl rfl rfl c1 c2 c3 c4 c5 (fun _ _ => rfl) hfr hlo hdg fun H1 locs1 hP1 hD1 hS1 => ?_
  have e1 : (wsOf cs ad S).set k1 (ad k1, .inl (cs 0, n1.getD (S.2 k1), .inl (va_cpy (S.1 k0) (S.1 k1) sp.toNatClampNeg dp.toNatClampNeg n.toNatClampNeg))) = wsOf cs ad (cp S k0 k1 sp.toNatClampNeg dp.toNatClampNeg n.toNatClampNeg) := by
    have e0 : (cp S k0 k1 sp.toNatClampNeg dp.toNatClampNeg n.toNatClampNeg).1 k1 = va_cpy (S.1 k0) (S.1 k1) sp.toNatClampNeg dp.toNatClampNeg n.toNatClampNeg := by simp [cp]
    rw [← e0]
    exact ws_set (S' := cp S k0 k1 sp.toNatClampNeg dp.toNatClampNeg n.toNatClampNeg) hk1 (fun a ha => by simp [cp, ha]) rfl
  rw [e1] at hP1 hD1
  exact kk _ H1 locs1 h ⟨hP1, hD1, hS1, h2⟩
theorem s_nm {α : Type} {x : α} {f : α → Option ρ} {P : Prop} (h : nm x f = some res) (kk : ∀ y, y = x → f y = some res → P) : P := kk x rfl h
/-- behind a call -/
theorem s_back {Sc S1 : SS} {v : Option Value} {st0 : List Value} {a : Array Value} {mc ms : Nat} (F : Fx p s m args meth c cc nL own rt dC dI cs A) (w : Wo dC dI cs ad A s.heap D0 S H locs) (hr : va_Run p l e R s m args below meth c H locs cells slots 0 0 (F0 m pc ls st0) rest (Qs dC dI cs ad (va_A (wsOf cs ad S) H.size) S.2 v S1 a) (va_A (wsOf cs ad S) H.size))
    (kk : ∀ (H1 : Heap) (locs1 : List Loc), Wo dC dI cs ad A s.heap D0 S1 H1 locs1 → W p l e R s m args below meth c H1 locs1 cells slots Q (F0 m (pc + 3) ls (v.toList ++ rest))) : W p l e R s m args below meth c H locs cells slots Q (F0 m pc ls st0) := by
  obtain ⟨-, -, -, hK, hA, -⟩ := F
  obtain ⟨hP, hD, hS, h2⟩ := w
  have hF : ∀ q, va_A (wsOf cs ad S) H.size q → A q := fun q hq => by
    rcases hq with ⟨k, e, hk⟩ | hq
    · exact hD.2 k _ hk
    · exact hA q (Nat.le_trans hS.1 hq)
  intro T hT X
  obtain ⟨v', st₀, t, T', L, h0, X', hL, e1, e2, ⟨⟨hv, h3, hP1, hD1⟩, hz, hk⟩, st⟩ := hr T hT X
  cases hv
  rw [h0] at hz hk
  obtain ⟨t2, a1, b1⟩ := kk T'.heap (locs ++ L) ⟨by rw [e1]; exact hP1, hD1.weaken (fun k q _ h => hF _ h), ⟨Nat.le_trans hS.1 (by rw [e1]; exact hz), fun q h1 h2 => by rw [e1, hk q (Nat.lt_of_lt_of_le h1 hS.1) (fun z => h2 (hF q z))]; exact hS.2.1 q h1 h2, fun q hq => by
      rcases List.mem_append.mp hq with h | h
      · exact hS.2.2 q h
      · exact hF _ (hL q h)⟩, h3.trans h2⟩ T' rfl X'
  exact ⟨t2, st t2 a1, b1⟩
abbrev Ok (y : MethodName) (n : Nat) : Prop := y.cls ≠ "java/lang/invoke/MethodHandle" ∧ y.cls ≠ "java/lang/invoke/VarHandle" ∧ (parseMethodDescriptor y.desc).map (fun d => d.parameters.length) = some n
theorem s_wsg {y : MethodName} {cy : ByteArray} {nY : Nat} {ry : Option FieldType} (h : Cond.code y cy nY ry ∈ lw_gt) : GoodIn lw_gt (.code y cy nY ry :: lw_gt) := fun w hw => by
  rcases List.mem_cons.mp hw with rfl | hw
  · exact lw_gg _ h
  · exact lw_gg _ hw
/-- a virtual call: what is linked, the callee's contract, the goal behind it -/
theorem s_cv {k ci index nY n fr lo : Nat} {y : MethodName} {cy : ByteArray} {ry : Option FieldType} {C : String} {T : u_T} {N : Nat} {fs : List (Option Nat)} {S1 : SS} {v : Option Value} {st0 : List Value} (As : List Value) (av : (Nat → Nat) → List Value) (F : Fx p s m args meth c cc nL own rt dC dI cs A) (w : Wo dC dI cs ad A s.heap D0 S H locs) (hM : MT y cy nY ry fr lo av S v S1) (hav : av ad = .ref (ad k) :: As) (hst : st0 = As.reverse ++ .ref (ad k) :: rest) (hls : ls.size = nL)
    (hk : dsT[k]? = some (.inl (ci, fs))) (hc : vwCl[ci]? = some (C, T, N)) (hC : y.cls = C) (hok : Ok y n) (hn : As.length = n) (hcode : Cond.code y cy nY ry ∈ lw_gt) (hl : Cond.methodLink own index y ∈ lw_gt) (hin : Cond.instanceMethod y ∈ lw_gt) (hse : Cond.selects C y y ∈ lw_gt) (hi : Cond.initialized C ∈ lw_gt) (hR : fr + 1 ≤ R.frames ∧ 8 + (nY + 11) + lo ≤ R.locals) (hcs : cells ≤ R.cells ∧ slots ≤ R.slots) (hrm : (rest.map fun v => v.category).sum ≤ 8) (hdg : decode cc pc = .ok (.invokevirtual index, 3))
    (kk : ∀ (H1 : Heap) (locs1 : List Loc), Wo dC dI cs ad A s.heap D0 S1 H1 locs1 → W p l e R s m args below meth c H1 locs1 cells slots Q (F0 m (pc + 3) ls (v.toList ++ rest))) : W p l e R s m args below meth c H locs cells slots Q (F0 m pc ls st0) := by
  have F' := F
  obtain ⟨⟨hx, hb, hml, hown, hts⟩, -, -, hK, hA, hN⟩ := F
  subst hC
  have hMm := hM l dC dI cs ad H.size
  rw [hav] at hMm
  refine s_back (Sc := S) (a := (Value.ref (ad k) :: As).toArray) (mc := 0) (ms := 0) F' w (va_runV (As := As) (rest := rest) (b := ad k) ⟨hx, hb, hml, hown, hts⟩ hMm ⟨callB_of n hts (s_wsg hcode) rfl rfl rfl (hts _ hi) (hts _ hl) hok hR, hts _ hin, hts _ hse⟩ ⟨Ps_blind, va_recv hK w.1 hc (ws_get hk), fun U hU hW => ⟨rfl, by rw [hU], by rw [hU]; exact w.1, va_K.moved hW.alike hK, w.2.1.weaken (fun _ _ _ _ => trivial), hN.warm hW⟩⟩ rfl hn hls hst (lv_room hrm) hdg ⟨hcs.1, hcs.2⟩) kk
/-- a static call -/
theorem s_cs {index nY n fr lo : Nat} {y : MethodName} {cy : ByteArray} {ry : Option FieldType} {S1 : SS} {v : Option Value} {st0 : List Value} (As : List Value) (av : (Nat → Nat) → List Value) (F : Fx p s m args meth c cc nL own rt dC dI cs A) (w : Wo dC dI cs ad A s.heap D0 S H locs) (hM : MT y cy nY ry fr lo av S v S1) (hav : av ad = As) (hst : st0 = As.reverse ++ rest) (hls : ls.size = nL)
    (hok : Ok y n) (hn : As.length = n) (hcode : Cond.code y cy nY ry ∈ lw_gt) (hl : Cond.methodLink own index y ∈ lw_gt) (hin : Cond.static y ∈ lw_gt) (hi : Cond.initialized y.cls ∈ lw_gt) (hR : fr + 1 ≤ R.frames ∧ 8 + (nY + 11) + lo ≤ R.locals) (hcs : cells ≤ R.cells ∧ slots ≤ R.slots) (hrm : (rest.map fun v => v.category).sum ≤ 8) (hdg : decode cc pc = .ok (.invokestatic index, 3))
    (kk : ∀ (H1 : Heap) (locs1 : List Loc), Wo dC dI cs ad A s.heap D0 S1 H1 locs1 → W p l e R s m args below meth c H1 locs1 cells slots Q (F0 m (pc + 3) ls (v.toList ++ rest))) : W p l e R s m args below meth c H locs cells slots Q (F0 m pc ls st0) := by
  have F' := F
  obtain ⟨⟨hx, hb, hml, hown, hts⟩, -, -, hK, hA, hN⟩ := F
  have hMm := hM l dC dI cs ad H.size
  rw [hav] at hMm
  refine s_back (Sc := S) (a := As.toArray) (mc := 0) (ms := 0) F' w (va_runS (As := As) (rest := rest) ⟨hx, hb, hml, hown, hts⟩ hMm ⟨callB_of n hts (s_wsg hcode) rfl rfl rfl (hts _ hi) (hts _ hl) hok hR, hts _ hin⟩ ⟨Ps_blind, fun U hU hW => ⟨rfl, by rw [hU], by rw [hU]; exact w.1, va_K.moved hW.alike hK, w.2.1.weaken (fun _ _ _ _ => trivial), hN.warm hW⟩⟩ rfl hn hls hst (lv_room hrm) hdg ⟨hcs.1, hcs.2⟩) kk
/-- a static call to a nest mate's own -/
theorem s_csN {index nY n fr lo : Nat} {y : MethodName} {host : String} {cy : ByteArray} {ry : Option FieldType} {S1 : SS} {v : Option Value} {st0 : List Value} (As : List Value) (av : (Nat → Nat) → List Value) (F : Fx p s m args meth c cc nL own rt dC dI cs A) (w : Wo dC dI cs ad A s.heap D0 S H locs) (hM : MT y cy nY ry fr lo av S v S1) (hav : av ad = As) (hst : st0 = As.reverse ++ rest) (hls : ls.size = nL)
    (hok : Ok y n) (hn : As.length = n) (hcode : Cond.code y cy nY ry ∈ lw_gt) (hl : (own, index, y, host) ∈ nwL) (hin : Cond.static y ∈ lw_gt) (hi : Cond.initialized y.cls ∈ lw_gt) (hR : fr + 1 ≤ R.frames ∧ 8 + (nY + 11) + lo ≤ R.locals) (hcs : cells ≤ R.cells ∧ slots ≤ R.slots) (hrm : (rest.map fun v => v.category).sum ≤ 8) (hdg : decode cc pc = .ok (.invokestatic index, 3))
    (kk : ∀ (H1 : Heap) (locs1 : List Loc), Wo dC dI cs ad A s.heap D0 S1 H1 locs1 → W p l e R s m args below meth c H1 locs1 cells slots Q (F0 m (pc + 3) ls (v.toList ++ rest))) : W p l e R s m args below meth c H locs cells slots Q (F0 m pc ls st0) := by
  have F' := F
  obtain ⟨⟨hx, hb, hml, hown, hts⟩, -, -, hK, hA, hN⟩ := F
  have hMm := hM l dC dI cs ad H.size
  rw [hav] at hMm
  refine s_back (Sc := S) (a := As.toArray) (mc := 0) (ms := 0) F' w (va_runSN (As := As) (rest := rest) (host := host) ⟨hx, hb, hml, hown, hts⟩ hMm ⟨va_cnB n hts (s_wsg hcode) rfl rfl rfl (hN.1 _ hl) (hts _ hi) hok hR, hts _ hin, trivial⟩ ⟨Ps_blind, fun U hU hW => ⟨rfl, by rw [hU], by rw [hU]; exact w.1, va_K.moved hW.alike hK, w.2.1.weaken (fun _ _ _ _ => trivial), hN.warm hW⟩⟩ rfl hn hls hst (lv_room hrm) hdg ⟨hcs.1, hcs.2⟩) kk
end RW
/-- the machine at a place of a method, with these locals, this stack, these ints, comes to the method's end with the answer v and the ints S' -/
def AW (p : Program) (l : Launch) (e : Env) (R : Room) (s : State) (m : MethodId) (args : Array Value) (below : List Frame) (meth : Method) (c : Code) (dC : Nat → ClassId) (dI : Nat → Nat → Nat) (cs : Nat → ClassId) (ad : Nat → Nat) (A : Nat → Prop) (D0 : Nat → Nat) (v : Option Value) (S' : SS) (nL pc : Nat) (lv : List (Nat × Value)) (stk : List Value) (S : SS) : Prop :=
  ∀ (H : Heap) (locs : List Loc) (ls : Array Slot), Wo dC dI cs ad A s.heap D0 S H locs → lv_has ls nL lv → W p l e R s m args below meth c H locs 0 0 (MQ below (Qs dC dI cs ad A D0 v S') args s 0 0 A) (F0 m pc ls stk)
section RX
variable {p : Program} {l : Launch} {e : Env} {R : Room} {s : State} {m : MethodId} {args : Array Value} {below : List Frame} {meth : Method} {c : Code} {H : Heap} {locs : List Loc}
variable {cc : ByteArray} {pc nL : Nat} {own : String} {rt : Option FieldType} {ls : Array Slot} {dC : Nat → ClassId} {dI : Nat → Nat → Nat} {cs : Nat → ClassId} {ad : Nat → Nat} {A : Nat → Prop} {D0 : Nat → Nat} {S S' : SS}
theorem s_end {v : Option Value} (w : Wo dC dI cs ad A s.heap D0 S H locs) (t : State) (ht : t.heap = H) : Qs dC dI cs ad A D0 v S args s (.returned v) t :=
  ⟨⟨rfl, w.2.2.2, by rw [ht]; exact w.1, w.2.1⟩, w.2.2.1.F ht⟩
theorem s_iret {x r : Int32} (F : Fx p s m args meth c cc nL own (some .int) dC dI cs A) (w : Wo dC dI cs ad A s.heap D0 S H locs) (h : some (x, S) = some (r, S')) (hdg : decode cc pc = .ok (.ireturn, 1)) : W p l e R s m args below meth c H locs 0 0 (MQ below (Qs dC dI cs ad A D0 (some (.int r)) S') args s 0 0 A) (F0 m pc ls [.int x]) := by
  cases h
  obtain ⟨⟨hx, hb, hml, hown, hts⟩, hr, hlk, hK, -⟩ := F
  exact W.iret hx hb hr (fun t ht _ => s_end w t ht) (fun q hq => w.2.2.1.2.2 q hq) hdg hlk
theorem s_zret {x r : Int32} (F : Fx p s m args meth c cc nL own (some .boolean) dC dI cs A) (w : Wo dC dI cs ad A s.heap D0 S H locs) (h : grd (isB x) (some (x, S)) = some (r, S')) (hdg : decode cc pc = .ok (.ireturn, 1)) : W p l e R s m args below meth c H locs 0 0 (MQ below (Qs dC dI cs ad A D0 (some (.int r)) S') args s 0 0 A) (F0 m pc ls [.int x]) := by
  obtain ⟨hv, h⟩ := grd_t h
  cases h
  obtain ⟨⟨hx, hb, hml, hown, hts⟩, hr, hlk, hK, -⟩ := F
  refine W.zret hx hb hr ?_ (fun t ht _ => s_end w t ht) (fun q hq => w.2.2.1.2.2 q hq) hdg hlk
  simp only [isB, Bool.or_eq_true, decide_eq_true_eq] at hv
  rcases hv with rfl | rfl <;> decide
theorem s_zretc {x r : Int32} (F : Fx p s m args meth c cc nL own (some .boolean) dC dI cs A) (w : Wo dC dI cs ad A s.heap D0 S H locs) (hv : isB x = true) (h : some (x, S) = some (r, S')) (hdg : decode cc pc = .ok (.ireturn, 1)) : W p l e R s m args below meth c H locs 0 0 (MQ below (Qs dC dI cs ad A D0 (some (.int r)) S') args s 0 0 A) (F0 m pc ls [.int x]) :=
  s_zret F w (by rw [hv]; exact h) hdg
theorem s_lret {x r : Int64} (F : Fx p s m args meth c cc nL own (some .long) dC dI cs A) (w : Wo dC dI cs ad A s.heap D0 S H locs) (h : some (x, S) = some (r, S')) (hdg : decode cc pc = .ok (.lreturn, 1)) : W p l e R s m args below meth c H locs 0 0 (MQ below (Qs dC dI cs ad A D0 (some (.long r)) S') args s 0 0 A) (F0 m pc ls [.long x]) := by
  cases h
  obtain ⟨⟨hx, hb, hml, hown, hts⟩, hr, hlk, hK, -⟩ := F
  exact W.lret hx hb hr (fun t ht _ => s_end w t ht) (fun q hq => w.2.2.1.2.2 q hq) hdg hlk
theorem s_vret (F : Fx p s m args meth c cc nL own none dC dI cs A) (w : Wo dC dI cs ad A s.heap D0 S H locs) (h : some S = some S') (hdg : decode cc pc = .ok (.return_, 1)) : W p l e R s m args below meth c H locs 0 0 (MQ below (Qs dC dI cs ad A D0 none S') args s 0 0 A) (F0 m pc ls []) := by
  cases h
  obtain ⟨⟨hx, hb, hml, hown, hts⟩, hr, hlk, hK, -⟩ := F
  exact W.vret hx hb hr (fun t ht _ => s_end w t ht) (fun q hq => w.2.2.1.2.2 q hq) hdg hlk
end RX
/-- a contract out of the walk from the entry -/
theorem MT.of {y : MethodName} {cc : ByteArray} {nL : Nat} {rt : Option FieldType} {fr lo : Nat} {av : (Nat → Nat) → List Value} {S : SS} {v : Option Value} {S' : SS} (own : String) (lv : (Nat → Nat) → List (Nat × Value)) (hy : plainName y.cls = true) (ho : y.cls = own) (hn : ∀ ad, (lg_sl (av ad)).length ≤ nL) (hlv : ∀ ad, lv_args 0 (av ad) = lv ad)
    (body : ∀ (p : Program) (l : Launch) (e : Env) (R : Room) (s : State) (m : MethodId) (args : Array Value) (below : List Frame) (meth : Method) (c : Code) (dC : Nat → ClassId) (dI : Nat → Nat → Nat) (cs : Nat → ClassId) (ad : Nat → Nat) (A : Nat → Prop), fr ≤ R.frames → lo ≤ R.locals → Fx p s m args meth c cc nL own rt dC dI cs A → AW p l e R s m args below meth c dC dI cs ad A S.2 v S' nL 0 (lv ad) [] S) : MT y cc nL rt fr lo av S v S' := by
  intro l dC dI cs ad sz
  refine Met.ofW (cc := cc) (maxL := nL) (ret := rt) hy rfl ?_
  intro p e s m args below meth c s₁ B hml hv
  obtain ⟨rfl, hsz, hP, hK, hD0, hN⟩ := hv
  have hts := atoms_spec (ws := .code y cc nL rt :: lw_gt) B.pre
  have hown : s.vm.findClass own = some m.cls := by rw [← ho]; exact findClass_of_methodNamed B.named
  subst hsz
  have hD := hD0.self (sz := s.heap.size)
  have hl := lv_entry (av ad) (n := nL) (hn ad)
  rw [lg_entry_eq]
  rw [hlv ad] at hl
  exact body p l e _ s m _ below meth c dC dI cs ad (va_A (wsOf cs ad S) s.heap.size) (Nat.le_refl _) (Nat.le_refl _) ⟨⟨B.exec, B.bytes, hml, hown, fun w hw => hts w (List.mem_cons_of_mem _ hw)⟩, B.returns, B.notSynchronized, hK, fun q h => Or.inr h, hN⟩ s.heap [] _ ⟨hP, hD, va_S.rf, rfl⟩ hl
