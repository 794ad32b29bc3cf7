def swpb (k : Nat) : Bool := [79, 81, 82, 83, 84, 85, 86, 87, 88, 114, 115, 116, 117, 118, 119, 120, 121].contains k
/-! ===== worlds whose arrays change places or are made anew ===== -/
def adR (ad0 ad : Nat → Nat) : Prop := ∀ k, swpb k = false → ad k = ad0 k
theorem adR.rf {ad : Nat → Nat} : adR ad ad := fun _ _ => rfl
theorem adR.tr {a b c : Nat → Nat} (h1 : adR a b) (h2 : adR b c) : adR a c := fun k hk => (h2 k hk).trans (h1 k hk)
def Qx (dC : Nat → ClassId) (dI : Nat → Nat → Nat) (cs : Nat → ClassId) (ad0 : Nat → Nat) (A : Nat → Prop) (v : Option Value) (S' : SS) : Array Value → State → Outcome → State → Prop :=
  fun _ st oc t => (oc = .returned v ∧ ∃ ad, adR ad0 ad ∧ va_P (dC, dI) vwCl (wsOf cs ad S') t.heap ∧ va_D A (wsOf cs ad S')) ∧ va_F A st t
def MX (y : MethodName) (cc : ByteArray) (nL : Nat) (rt : Option FieldType) (fr lo : Nat) (av : (Nat → Nat) → List Value) (S : SS) (v : Option Value) (S' : SS) (mc ms : Nat) : Prop :=
  ∀ (l : Launch) (dC : Nat → ClassId) (dI : Nat → Nat → Nat) (cs : Nat → ClassId) (ad : Nat → Nat) (sz : Nat),
    Met l y (.code y cc nL rt :: lw_gt) { frames := fr, cells := mc, slots := ms, locals := lo } (Ps dC dI cs ad sz S (av ad)) (Qx dC dI cs ad (va_A (wsOf cs ad S) sz) v S') mc ms (va_A (wsOf cs ad S) sz)
def AWX (p : Program) (l : Launch) (e : Env) (R : Room) (s : State) (m : MethodId) (args : Array Value) (below : List Frame) (meth : Method) (c : Code) (dC : Nat → ClassId) (dI : Nat → Nat → Nat) (cs : Nat → ClassId) (ad0 ad : Nat → Nat) (A : Nat → Prop) (D0 : Nat → Nat) (v : Option Value) (S' : SS) (mc ms nL pc : Nat) (lv : List (Nat × Value)) (stk : List Value) (cells slots : Nat) (S : SS) : Prop :=
  ∀ (H : Heap) (locs : List Loc) (ls : Array Slot), adR ad0 ad → Wo dC dI cs ad A s.heap D0 S H locs → lv_has ls nL lv → W p l e R s m args below meth c H locs cells slots (MQ below (Qx dC dI cs ad0 A v S') args s mc ms A) (F0 m pc ls stk)
section XR
variable {p : Program} {l : Launch} {e : Env} {R : Room} {s : State} {m : MethodId} {args : Array Value} {below : List Frame} {meth : Method} {c : Code} {H : Heap} {locs : List Loc} {Q : State → Prop} {ρ : Type} {res : ρ}
variable {cc : ByteArray} {pc nL : Nat} {own : String} {rt : Option FieldType} {ls : Array Slot} {rest : List Value} {dC : Nat → ClassId} {dI : Nat → Nat → Nat} {cs : Nat → ClassId} {ad ad0 : Nat → Nat} {A : Nat → Prop} {D0 : Nat → Nat} {S S' : SS} {cells slots mc ms : Nat}
theorem s_endX {v : Option Value} (w : Wo dC dI cs ad A s.heap D0 S H locs) (hA : adR ad0 ad) (t : State) (ht : t.heap = H) : Qx dC dI cs ad0 A v S args s (.returned v) t :=
  ⟨⟨rfl, ad, hA, by rw [ht]; exact w.1, w.2.1⟩, w.2.2.1.F ht⟩
theorem s_iretX {x r : Int32} (F : Fx p s m args meth c cc nL own (some .int) dC dI cs A) (w : Wo dC dI cs ad A s.heap D0 S H locs) (hA : adR ad0 ad) (hc : cells ≤ mc ∧ slots ≤ ms) (h : some (x, S) = some (r, S')) (hdg : decode cc pc = .ok (.ireturn, 1)) : W p l e R s m args below meth c H locs cells slots (MQ below (Qx dC dI cs ad0 A (some (.int r)) S') args s mc ms A) (F0 m pc ls [.int x]) := by
  cases h
  obtain ⟨⟨hx, hb, hml, hown, hts⟩, hr, hlk, hK, -⟩ := F
  exact W.widen hc.1 hc.2 (W.iret hx hb hr (fun t ht _ => s_endX w hA t ht) (fun q hq => w.2.2.1.2.2 q hq) hdg hlk)
theorem s_zretcX {x r : Int32} (F : Fx p s m args meth c cc nL own (some .boolean) dC dI cs A) (w : Wo dC dI cs ad A s.heap D0 S H locs) (hA : adR ad0 ad) (hc : cells ≤ mc ∧ slots ≤ ms) (hv : isB x = true) (h : some (x, S) = some (r, S')) (hdg : decode cc pc = .ok (.ireturn, 1)) : W p l e R s m args below meth c H locs cells slots (MQ below (Qx dC dI cs ad0 A (some (.int r)) S') args s mc ms A) (F0 m pc ls [.int x]) := by
  cases h
  obtain ⟨⟨hx, hb, hml, hown, hts⟩, hr, hlk, hK, -⟩ := F
  refine W.widen hc.1 hc.2 (W.zret hx hb hr ?_ (fun t ht _ => s_endX w hA t ht) (fun q hq => w.2.2.1.2.2 q hq) hdg hlk)
  simp only [isB, Bool.or_eq_true, decide_eq_true_eq] at hv
  rcases hv with rfl | rfl <;> decide
theorem s_vretX (F : Fx p s m args meth c cc nL own none dC dI cs A) (w : Wo dC dI cs ad A s.heap D0 S H locs) (hA : adR ad0 ad) (hc : cells ≤ mc ∧ slots ≤ ms) (h : some S = some S') (hdg : decode cc pc = .ok (.return_, 1)) : W p l e R s m args below meth c H locs cells slots (MQ below (Qx dC dI cs ad0 A none S') args s mc ms A) (F0 m pc ls []) := by
  cases h
  obtain ⟨⟨hx, hb, hml, hown, hts⟩, hr, hlk, hK, -⟩ := F
  exact W.widen hc.1 hc.2 (W.vret hx hb hr (fun t ht _ => s_endX w hA t ht) (fun q hq => w.2.2.1.2.2 q hq) hdg hlk)
theorem s_cx {k ci index nY n fr lo mc ms : Nat} {y : MethodName} {cy : ByteArray} {ry : Option FieldType} {C : String} {T : u_T} {N : Nat} {fs : List (Option Nat)} {S1 : SS} {v : Option Value} {st0 : List Value} (As : List Value) (av : (Nat → Nat) → List Value) (F : Fx p s m args meth c cc nL own rt dC dI cs A) (w : Wo dC dI cs ad A s.heap D0 S H locs) (hM : MX y cy nY ry fr lo av S v S1 mc ms) (hav : av ad = .ref (ad k) :: As) (hst : st0 = As.reverse ++ .ref (ad k) :: rest) (hls : ls.size = nL)
    (hk : dsT[k]? = some (.inl (ci, fs))) (hc : vwCl[ci]? = some (C, T, N)) (hC : y.cls = C) (hok : Ok y n) (hn : As.length = n) (hcode : Cond.code y cy nY ry ∈ lw_gt) (hl : Cond.methodLink own index y ∈ lw_gt) (hin : Cond.instanceMethod y ∈ lw_gt) (hse : Cond.selects C y y ∈ lw_gt) (hi : Cond.initialized C ∈ lw_gt) (hR : fr + 1 ≤ R.frames ∧ 8 + (nY + 11) + lo ≤ R.locals) (hcs : cells + mc ≤ R.cells ∧ slots + ms ≤ R.slots) (hrm : (rest.map fun v => v.category).sum ≤ 8) (hdg : decode cc pc = .ok (.invokevirtual index, 3))
    (kk : ∀ (ad1 : Nat → Nat) (H1 : Heap) (locs1 : List Loc), adR ad ad1 → Wo dC dI cs ad1 A s.heap S1.2 S1 H1 locs1 → W p l e R s m args below meth c H1 locs1 (cells + mc) (slots + ms) Q (F0 m (pc + 3) ls (v.toList ++ rest))) : W p l e R s m args below meth c H locs cells slots Q (F0 m pc ls st0) := by
  obtain ⟨⟨hx, hb, hml, hown, hts⟩, -, -, hK, hA, hN⟩ := F
  subst hC
  have hMm := hM l dC dI cs ad H.size
  rw [hav] at hMm
  have hr := va_runV (p := p) (e := e) (R := R) (below := below) (meth := meth) (locs := locs) (cells := cells) (slots := slots) (g := F0 m pc ls st0) (As := As) (rest := rest) (b := ad k) ⟨hx, hb, hml, hown, hts⟩ hMm ⟨callB_of n hts (s_wsg hcode) rfl rfl rfl (hts _ hi) (hts _ hl) hok hR, hts _ hin, hts _ hse⟩ ⟨Ps_blind, va_recv hK w.1 hc (ws_get hk), fun U hU hW => ⟨rfl, by rw [hU], by rw [hU]; exact w.1, va_K.moved hW.alike hK, w.2.1.weaken (fun _ _ _ _ => trivial), hN.warm hW⟩⟩ rfl hn hls hst (lv_room hrm) hdg hcs
  obtain ⟨hP, hD, hS, h2⟩ := w
  have hF : ∀ q, va_A (wsOf cs ad S) H.size q → A q := fun q hq => by
    rcases hq with ⟨k, e, hk⟩ | hq
    · exact hD.2 k _ hk
    · exact hA q (Nat.le_trans hS.1 hq)
  intro T hT X
  obtain ⟨v', st₀, t, T', L, h0, X', hL, e1, e2, ⟨⟨hv, ad1, hR1, hP1, hD1⟩, hz, hk⟩, st⟩ := hr T hT X
  cases hv
  rw [h0] at hz hk
  obtain ⟨t2, a1, b1⟩ := kk ad1 T'.heap (locs ++ L) hR1 ⟨by rw [e1]; exact hP1, hD1.weaken (fun k q _ h => hF _ h), ⟨Nat.le_trans hS.1 (by rw [e1]; exact hz), fun q h1 h2 => by rw [e1, hk q (Nat.lt_of_lt_of_le h1 hS.1) (fun z => h2 (hF q z))]; exact hS.2.1 q h1 h2, fun q hq => by
      rcases List.mem_append.mp hq with h | h
      · exact hS.2.2 q h
      · exact hF _ (hL q h)⟩, rfl⟩ T' rfl X'
  exact ⟨t2, st t2 a1, b1⟩
/-- a cell whose address changes -/
def adu (ad : Nat → Nat) (t q : Nat) : Nat → Nat := fun k => if k = t then q else ad k
def gw (S : SS) (t n : Nat) : SS := (fun a => if a = t then (fun _ => 0) else S.1 a, fun a => if a = t then n else S.2 a)
def gwr {ρ : Type} (S : SS) (t n : Nat) (f : SS → Option ρ) : Option ρ := f (gw S t n)
def nwok (n : Int32) (lim : Nat) : Bool := !(decide (n < 0)) && decide (n.toNatClampNeg ≤ lim)
def nrf (t : Nat) : dsc → Bool
  | .inl (_, fs) => fs.all (fun o => o != some t)
  | .inr (0, _) => true
  | .inr (1, _) => true
  | .inr (_, _) => !(decide (kb ≤ t) && decide (t < kb + 8))
def nrfs (t ko : Nat) : Nat → List dsc → Bool
  | _, [] => true
  | k, d :: r => (k == ko || nrf t d) && nrfs t ko (k + 1) r
theorem nrfs_at (t ko : Nat) : ∀ (ds : List dsc) (k0 i : Nat) (d : dsc), nrfs t ko k0 ds = true → ds[i]? = some d → k0 + i ≠ ko → nrf t d = true
  | [], k0, i, d, _, h, _ => by simp at h
  | d0 :: r, k0, 0, d, h, hd, hn => by
    simp at hd; subst hd
    simp only [nrfs, Bool.and_eq_true, Bool.or_eq_true, beq_iff_eq] at h
    rcases h.1 with q | q
    · exact absurd q (by omega)
    · exact q
  | d0 :: r, k0, i + 1, d, h, hd, hn => by
    simp only [nrfs, Bool.and_eq_true] at h
    exact nrfs_at t ko r (k0 + 1) i d h.2 (by simpa using hd) (by omega)
theorem fsOf_nrf (ad : Nat → Nat) (t q : Nat) (f : Nat → Int32) : ∀ (fs : List (Option Nat)) (j0 : Nat), fs.all (fun o => o != some t) = true → fsOf (adu ad t q) f j0 fs = fsOf ad f j0 fs
  | [], _, _ => rfl
  | some a :: r, j0, h => by
    simp only [List.all_cons, Bool.and_eq_true, bne_iff_ne, ne_eq, Option.some.injEq] at h
    simp only [fsOf]
    rw [fsOf_nrf ad t q f r (j0 + 1) h.2]
    simp [adu, h.1]
  | none :: r, j0, h => by
    simp only [List.all_cons, Bool.and_eq_true] at h
    simp only [fsOf]
    rw [fsOf_nrf ad t q f r (j0 + 1) h.2]
theorem fsOf_one (ad : Nat → Nat) (t q : Nat) (f : Nat → Int32) : ∀ (fs : List (Option Nat)) (j0 j : Nat), fs[j]? = some (some t) → (fs.set j none).all (fun o => o != some t) = true → fsOf (adu ad t q) f j0 fs = (fsOf ad f j0 fs).set j (.ref q)
  | [], _, _, h, _ => by simp at h
  | some a :: r, j0, 0, h, h2 => by
    simp at h; subst h
    simp only [List.set_cons_zero, List.all_cons, Bool.and_eq_true] at h2
    simp only [fsOf, List.set_cons_zero]
    rw [fsOf_nrf ad a q f r (j0 + 1) h2.2]
    simp [adu]
  | none :: r, j0, 0, h, h2 => by simp at h
  | some a :: r, j0, j + 1, h, h2 => by
    simp only [List.set_cons_succ, List.all_cons, Bool.and_eq_true, bne_iff_ne, ne_eq, Option.some.injEq] at h2
    simp only [fsOf, List.set_cons_succ]
    rw [fsOf_one ad t q f r (j0 + 1) j (by simpa using h) h2.2]
    simp [adu, h2.1]
  | none :: r, j0, j + 1, h, h2 => by
    simp only [List.set_cons_succ, List.all_cons, Bool.and_eq_true] at h2
    simp only [fsOf, List.set_cons_succ]
    rw [fsOf_one ad t q f r (j0 + 1) j (by simpa using h) h2.2]
theorem ceOf_nrf {cs : Nat → ClassId} {ad : Nat → Nat} {S S' : SS} {t q k : Nat} {d : dsc} (h : nrf t d = true) (h1 : S'.1 k = S.1 k) (h2 : S'.2 k = S.2 k) : ceOf cs (adu ad t q) S' k d = ceOf cs ad S k d := by
  rcases d with ⟨ci, fs⟩ | ⟨t', n⟩
  · simp only [ceOf, h1]; rw [fsOf_nrf ad t q _ fs 0 h]
  · rcases t' with _ | _ | t'
    · simp only [ceOf, h1, h2]
    · simp only [ceOf, h1, h2]
    · simp only [ceOf, h2]
      simp only [nrf, Bool.not_eq_true', Bool.and_eq_false_iff, decide_eq_false_iff_not] at h
      have e : (fun i => if i < 8 then some (adu ad t q (kb + i)) else none) = (fun i => if i < 8 then some (ad (kb + i)) else none) := by
        funext i
        by_cases hi : i < 8
        · rw [if_pos hi, if_pos hi]; simp only [adu]; rw [if_neg (by omega)]
        · rw [if_neg hi, if_neg hi]
      rw [e]
abbrev nw0 (cs : Nat → ClassId) (q n : Nat) : Nat × va_E := (q, Sum.inl (cs 0, (n, Sum.inl (fun _ => 0))))
/-- 'x.f = new int[n]': the array of that field is made anew -/
theorem s_newput (F : Fx p s m args meth c cc nL own rt dC dI cs A) (w : Wo dC dI cs ad A s.heap D0 S H locs) {ko ci j t N index : Nat} {C : String} {T : u_T} {fs : List (Option Nat)} {ty0 : Nat → FieldType} (lim : Nat) (hk : dsT[ko]? = some (.inl (ci, fs))) (hc : vwCl[ci]? = some (C, T, N)) (hin : ∀ w ∈ u_ws C T N, w ∈ lw_gt) (hty : ∀ k, k < N → parseFieldDescriptor (T k).2.2.1 = some (ty0 k)) (hnm : ∀ a, a < N → ∀ b, b < N → a ≠ b → (T a).2.1 ≠ (T b).2.1) (hj : fs[j]? = some (some t)) (hone : (fs.set j none).all (fun o => o != some t) = true) (ht : dsT[t]? = some (.inr (0, none))) (hto : ko ≠ t) (hnr : nrfs t ko 0 dsT = true) (hN : j < N) (hl : Cond.fieldLink own index (T j).1 (T j).2.1 (T j).2.2.1 ∈ lw_gt) (hfin : (T j).2.2.2 = false) (hd : parseFieldDescriptor (T j).2.2.1 = some (.array .int)) (harr : Cond.arrayClass .int ∈ lw_gt) (hlim : lim ≤ 10000)
    {n : Int32} {f : SS → Option ρ} (h : grd (nwok n lim) (gwr S t n.toNatClampNeg f) = some res) (hcells : cells + 1 ≤ R.cells) (hslots : ∀ k, k ≤ lim → slots + k ≤ R.slots) (hdg : decode cc pc = .ok (.newarray .int, 2)) (hdp : decode cc (pc + 2) = .ok (.putfield index, 3))
    (kk : ∀ (q : Nat) (S1 : SS) (H1 : Heap) (locs1 : List Loc), n.toNatClampNeg ≤ lim → S1 = gw S t n.toNatClampNeg → f S1 = some res → Wo dC dI cs (adu ad t q) A s.heap S1.2 S1 H1 locs1 → W p l e R s m args below meth c H1 locs1 (cells + 1) (slots + n.toNatClampNeg) Q (F0 m (pc + 5) ls rest)) : W p l e R s m args below meth c H locs cells slots Q (F0 m pc ls (.int n :: .ref (ad ko) :: rest)) := by
  obtain ⟨⟨hx, hb, hml, hown, hts⟩, -, -, hK, hA, -⟩ := F
  obtain ⟨hP, hD, hS, h2⟩ := w
  obtain ⟨hi, h⟩ := grd_t h
  simp only [nwok, Bool.and_eq_true, Bool.not_eq_true', decide_eq_false_iff_not, decide_eq_true_eq] at hi
  have hl0 : ko < (wsOf cs ad S).length := (List.getElem?_eq_some_iff.mp (ws_get (cs := cs) (ad := ad) (S := S) hk)).1
  refine va_newa (atype := .int) (ty := .int) (N' := n.toNatClampNeg) (a0 := (n.toNatClampNeg, .inl (fun _ => 0))) hx hb (hts _ harr) rfl hK hP hD hS hA (fun _ => rfl) hi.1 rfl (by show n.toNatClampNeg * 4 ≤ _; omega) hcells (hslots _ hi.2) hdg fun q cA H' hK' hP' hD' hS' => ?_
  have hcA : cA = cs 0 := by
    have e1 := (hK'.2 3 (cA, .int) rfl).2
    have e2 := (hK.2 0 _ rfl).2
    exact Option.some.inj (e1.symm.trans e2)
  subst hcA
  have hg0 : (wsOf cs ad S ++ [nw0 cs q n.toNatClampNeg])[ko]? = some (ad ko, ceOf cs ad S ko (.inl (ci, fs))) := by
    rw [List.getElem?_append_left hl0]; exact ws_get hk
  refine va_put hx hb hts hin ty0 hty hnm hown hK hP' hD' hS' ko hg0 hc j hN (hts _ hl) (fun x h => h) hfin (v := .ref q) hd rfl rfl (by rw [fsOf_len]; exact (List.getElem?_eq_some_iff.mp hj).1) hdp fun H1 locs1 hP1 hD1 hS1 => ?_
  have hlen : (wsOf cs ad S ++ [(nw0 cs q n.toNatClampNeg : Nat × va_E)]).length = (wsOf cs ad S).length + 1 := by simp
  -- the list behind the write, place by place
  have gq : ((wsOf cs ad S ++ [nw0 cs q n.toNatClampNeg]).set ko (ad ko, .inr (ci, (fsOf ad (S.1 ko) 0 fs).set j (.ref q))))[(wsOf cs ad S).length]? = some (nw0 cs q n.toNatClampNeg) := by
    rw [List.getElem?_set_ne (by omega), List.getElem?_append_right (Nat.le_refl _), Nat.sub_self]; rfl
  have go : ((wsOf cs ad S ++ [nw0 cs q n.toNatClampNeg]).set ko (ad ko, .inr (ci, (fsOf ad (S.1 ko) 0 fs).set j (.ref q))))[ko]? = some (ad ko, .inr (ci, (fsOf ad (S.1 ko) 0 fs).set j (.ref q))) := by
    rw [List.getElem?_set_self (by omega)]
  have gk : ∀ (k : Nat) (d : dsc), dsT[k]? = some d → k ≠ ko → ((wsOf cs ad S ++ [nw0 cs q n.toNatClampNeg]).set ko (ad ko, .inr (ci, (fsOf ad (S.1 ko) 0 fs).set j (.ref q))))[k]? = some (ad k, ceOf cs ad S k d) := by
    intro k d hd' hne
    have hlk : k < (wsOf cs ad S).length := (List.getElem?_eq_some_iff.mp (ws_get (cs := cs) (ad := ad) (S := S) hd')).1
    rw [List.getElem?_set_ne (Ne.symm hne), List.getElem?_append_left hlk]
    exact ws_get hd'
  -- where each place of the new world stands in it
  have key : ∀ (k : Nat) (x : Nat × va_E), (wsOf cs (adu ad t q) (gw S t n.toNatClampNeg))[k]? = some x → ((wsOf cs ad S ++ [nw0 cs q n.toNatClampNeg]).set ko (ad ko, .inr (ci, (fsOf ad (S.1 ko) 0 fs).set j (.ref q))))[if k = t then (wsOf cs ad S).length else k]? = some x ∧ (k < (wsOf cs ad S).length) := by
    intro k x hx
    rw [wsF_get, Nat.zero_add] at hx
    cases hd' : dsT[k]? with
    | none => rw [hd'] at hx; cases hx
    | some d =>
      have hlk : k < (wsOf cs ad S).length := (List.getElem?_eq_some_iff.mp (ws_get (cs := cs) (ad := ad) (S := S) hd')).1
      refine ⟨?_, hlk⟩
      rw [hd'] at hx
      simp only [Option.map_some, Option.some.injEq] at hx
      subst hx
      by_cases e : k = t
      · subst e
        rw [if_pos rfl, gq]
        have : d = .inr (0, none) := Option.some.inj (hd'.symm.trans ht)
        subst this
        simp [adu, ceOf, gw]
      · rw [if_neg e]
        by_cases e2 : k = ko
        · subst e2
          have : d = .inl (ci, fs) := Option.some.inj (hd'.symm.trans hk)
          subst this
          rw [go]
          simp only [ceOf, gw, if_neg e]
          rw [fsOf_one ad t q (S.1 k) fs 0 j hj hone]
          simp [adu, e]
        · rw [gk k d hd' e2, ceOf_nrf (S := S) (nrfs_at t ko dsT 0 k d hnr hd' (by omega)) (by simp [gw, e]) (by simp [gw, e])]
          simp [adu, e]
  refine kk q _ H1 locs1 hi.2 rfl h ⟨fun k x hx => hP1 _ x (key k x hx).1, ⟨fun i j' x y hi' hj' hxy => ?_, fun k x hx => hD1.2 _ x (key k x hx).1⟩, hS1, rfl⟩
  have e := hD1.1 _ _ x y (key i x hi').1 (key j' y hj').1 hxy
  have l1 := (key i x hi').2
  have l2 := (key j' y hj').2
  by_cases c1 : i = t <;> by_cases c2 : j' = t
  · omega
  · rw [if_pos c1, if_neg c2] at e; omega
  · rw [if_neg c1, if_pos c2] at e; omega
  · rw [if_neg c1, if_neg c2] at e; exact e
theorem s_cxi {k ci index nY n fr lo mc ms : Nat} {y : MethodName} {cy : ByteArray} {ry : Option FieldType} {C : String} {T : u_T} {N : Nat} {fs : List (Option Nat)} {S1 : SS} {r : Int32} {st0 : List Value} (As : List Value) (av : (Nat → Nat) → List Value) (F : Fx p s m args meth c cc nL own rt dC dI cs A) (w : Wo dC dI cs ad A s.heap D0 S H locs) (hM : MX y cy nY ry fr lo av S (some (.int r)) S1 mc ms) (hav : av ad = .ref (ad k) :: As) (hst : st0 = As.reverse ++ .ref (ad k) :: rest) (hls : ls.size = nL)
    (hk : dsT[k]? = some (.inl (ci, fs))) (hc : vwCl[ci]? = some (C, T, N)) (hC : y.cls = C) (hok : Ok y n) (hn : As.length = n) (hcode : Cond.code y cy nY ry ∈ lw_gt) (hl : Cond.methodLink own index y ∈ lw_gt) (hin : Cond.instanceMethod y ∈ lw_gt) (hse : Cond.selects C y y ∈ lw_gt) (hi : Cond.initialized C ∈ lw_gt) (hR : fr + 1 ≤ R.frames ∧ 8 + (nY + 11) + lo ≤ R.locals) (hcs : cells + mc ≤ R.cells ∧ slots + ms ≤ R.slots) (hrm : (rest.map fun v => v.category).sum ≤ 8) (hdg : decode cc pc = .ok (.invokevirtual index, 3))
    (kk : ∀ (ad1 : Nat → Nat) (H1 : Heap) (locs1 : List Loc), adR ad ad1 → Wo dC dI cs ad1 A s.heap S1.2 S1 H1 locs1 → W p l e R s m args below meth c H1 locs1 (cells + mc) (slots + ms) Q (F0 m (pc + 3) ls (.int r :: rest))) : W p l e R s m args below meth c H locs cells slots Q (F0 m pc ls st0) :=
  s_cx As av F w hM hav hst hls hk hc hC hok hn hcode hl hin hse hi hR hcs hrm hdg kk
theorem s_cxv {k ci index nY n fr lo mc ms : Nat} {y : MethodName} {cy : ByteArray} {ry : Option FieldType} {C : String} {T : u_T} {N : Nat} {fs : List (Option Nat)} {S1 : SS} {st0 : List Value} (As : List Value) (av : (Nat → Nat) → List Value) (F : Fx p s m args meth c cc nL own rt dC dI cs A) (w : Wo dC dI cs ad A s.heap D0 S H locs) (hM : MX y cy nY ry fr lo av S none S1 mc ms) (hav : av ad = .ref (ad k) :: As) (hst : st0 = As.reverse ++ .ref (ad k) :: rest) (hls : ls.size = nL)
    (hk : dsT[k]? = some (.inl (ci, fs))) (hc : vwCl[ci]? = some (C, T, N)) (hC : y.cls = C) (hok : Ok y n) (hn : As.length = n) (hcode : Cond.code y cy nY ry ∈ lw_gt) (hl : Cond.methodLink own index y ∈ lw_gt) (hin : Cond.instanceMethod y ∈ lw_gt) (hse : Cond.selects C y y ∈ lw_gt) (hi : Cond.initialized C ∈ lw_gt) (hR : fr + 1 ≤ R.frames ∧ 8 + (nY + 11) + lo ≤ R.locals) (hcs : cells + mc ≤ R.cells ∧ slots + ms ≤ R.slots) (hrm : (rest.map fun v => v.category).sum ≤ 8) (hdg : decode cc pc = .ok (.invokevirtual index, 3))
    (kk : ∀ (ad1 : Nat → Nat) (H1 : Heap) (locs1 : List Loc), adR ad ad1 → Wo dC dI cs ad1 A s.heap S1.2 S1 H1 locs1 → W p l e R s m args below meth c H1 locs1 (cells + mc) (slots + ms) Q (F0 m (pc + 3) ls (rest))) : W p l e R s m args below meth c H locs cells slots Q (F0 m pc ls st0) :=
  s_cx As av F w hM hav hst hls hk hc hC hok hn hcode hl hin hse hi hR hcs hrm hdg kk
end XR
theorem adu_R (ad : Nat → Nat) (t q : Nat) (h : swpb t = true) : adR ad (adu ad t q) := fun k hk => by
  have : k ≠ t := fun e => by subst e; rw [h] at hk; cases hk
  simp [adu, this]
theorem MX.of {y : MethodName} {cc : ByteArray} {nL : Nat} {rt : Option FieldType} {fr lo mc ms : Nat} {av : (Nat → Nat) → List Value} {S : SS} {v : Option Value} {S' : SS} (own : String) (lv : (Nat → Nat) → List (Nat × Value)) (hy : plainName y.cls = true) (ho : y.cls = own) (hn : ∀ ad, (lg_sl (av ad)).length ≤ nL) (hlv : ∀ ad, lv_args 0 (av ad) = lv ad)
    (body : ∀ (p : Program) (l : Launch) (e : Env) (R : Room) (s : State) (m : MethodId) (args : Array Value) (below : List Frame) (meth : Method) (c : Code) (dC : Nat → ClassId) (dI : Nat → Nat → Nat) (cs : Nat → ClassId) (ad : Nat → Nat) (A : Nat → Prop), fr ≤ R.frames → lo ≤ R.locals → mc ≤ R.cells → ms ≤ R.slots → Fx p s m args meth c cc nL own rt dC dI cs A → AWX p l e R s m args below meth c dC dI cs ad ad A S.2 v S' mc ms nL 0 (lv ad) [] 0 0 S) : MX y cc nL rt fr lo av S v S' mc ms := by
  intro l dC dI cs ad sz
  refine Met.ofW (cc := cc) (maxL := nL) (ret := rt) hy rfl ?_
  intro p e s m args below meth c s₁ B hml hv
  obtain ⟨rfl, hsz, hP, hK, hD0, hN⟩ := hv
  have hts := atoms_spec (ws := .code y cc nL rt :: lw_gt) B.pre
  have hown : s.vm.findClass own = some m.cls := by rw [← ho]; exact findClass_of_methodNamed B.named
  subst hsz
  have hD := hD0.self (sz := s.heap.size)
  have hl := lv_entry (av ad) (n := nL) (hn ad)
  rw [lg_entry_eq]
  rw [hlv ad] at hl
  exact body p l e _ s m _ below meth c dC dI cs ad (va_A (wsOf cs ad S) s.heap.size) (Nat.le_refl _) (Nat.le_refl _) (Nat.le_refl _) (Nat.le_refl _) ⟨⟨B.exec, B.bytes, hml, hown, fun w hw => hts w (List.mem_cons_of_mem _ hw)⟩, B.returns, B.notSynchronized, hK, fun q h => Or.inr h, hN⟩ s.heap [] _ adR.rf ⟨hP, hD, va_S.rf, rfl⟩ hl
/-! ===== the words that these need beside ===== -/
theorem kl_X11_395 : Cond.methodLink RX11 395 yX1_goBack ∈ lw_gt := lw_i5 163 rfl rfl
theorem kl_X1_57 : Cond.methodLink RX1 57 yX1_exchange ∈ lw_gt := lw_i5 167 rfl rfl
theorem kc_X1_exchange : Cond.code yX1_exchange cX1_exchange 3 none ∈ lw_gt := lw_i5 170 rfl rfl
theorem ki_X1_exchange : Cond.instanceMethod yX1_exchange ∈ lw_gt := lw_i5 169 rfl rfl
theorem kv_X1_exchange : Cond.selects RX1 yX1_exchange yX1_exchange ∈ lw_gt := lw_in 49 rfl rfl
theorem kc_X1_goBack : Cond.code yX1_goBack cX1_goBack 2 (some .boolean) ∈ lw_gt := lw_i5 166 rfl rfl
theorem ki_X1_goBack : Cond.instanceMethod yX1_goBack ∈ lw_gt := lw_i5 164 rfl rfl
theorem kv_X1_goBack : Cond.selects RX1 yX1_goBack yX1_goBack ∈ lw_gt := lw_i5 165 rfl rfl
theorem kl_X11_399 : Cond.methodLink RX11 399 yX1_goOn ∈ lw_gt := lw_i5 175 rfl rfl
theorem kc_X1_goOn : Cond.code yX1_goOn cX1_goOn 2 (some .boolean) ∈ lw_gt := lw_i5 178 rfl rfl
theorem ki_X1_goOn : Cond.instanceMethod yX1_goOn ∈ lw_gt := lw_i5 176 rfl rfl
theorem kv_X1_goOn : Cond.selects RX1 yX1_goOn yX1_goOn ∈ lw_gt := lw_i5 177 rfl rfl
theorem kl_X11_435 : Cond.methodLink RX11 435 yX3_isSmall ∈ lw_gt := lw_i6 64 rfl rfl
theorem kl_X11_438 : Cond.methodLink RX11 438 yX3_makeLeast ∈ lw_gt := lw_i6 68 rfl rfl
theorem kl_X3_83 : Cond.methodLink RX3 83 yX4_spreadFrom ∈ lw_gt := lw_i6 72 rfl rfl
theorem kl_X4_94 : Cond.methodLink RX4 94 yX7_members ∈ lw_gt := lw_i6 76 rfl rfl
theorem kl_X4_98 : Cond.methodLink RX4 98 yX4_takeWagons ∈ lw_gt := lw_i6 77 rfl rfl
theorem kl_X4_119 : Cond.methodLink RX4 119 yX4_growRows ∈ lw_gt := lw_i6 81 rfl rfl
theorem kx_arr : Cond.arrayClass .int ∈ lw_gt := lw_i1 60 rfl rfl
theorem kf_X4_60 : Cond.fieldLink RX4 60 (TX4 15).1 (TX4 15).2.1 (TX4 15).2.2.1 ∈ lw_gt := lw_i2 46 rfl rfl
theorem kc_X4_growRows : Cond.code yX4_growRows cX4_growRows 2 none ∈ lw_gt := lw_i6 84 rfl rfl
theorem ki_X4_growRows : Cond.instanceMethod yX4_growRows ∈ lw_gt := lw_i6 83 rfl rfl
theorem kv_X4_growRows : Cond.selects RX4 yX4_growRows yX4_growRows ∈ lw_gt := lw_in 58 rfl rfl
theorem kl_X4_122 : Cond.methodLink RX4 122 yX4_listShapes ∈ lw_gt := lw_i6 85 rfl rfl
theorem kl_X4_125 : Cond.methodLink RX4 125 yX4_listOrders ∈ lw_gt := lw_i6 92 rfl rfl
theorem kl_X4_128 : Cond.methodLink RX4 128 yX4_layOrder ∈ lw_gt := lw_i6 96 rfl rfl
theorem kl_X4_88 : Cond.methodLink RX4 88 arraycopyName ∈ lw_gt := lw_i6 100 rfl rfl
theorem kf_X4_20 : Cond.fieldLink RX4 20 (TX4 2).1 (TX4 2).2.1 (TX4 2).2.2.1 ∈ lw_gt := lw_i2 33 rfl rfl
theorem kc_X4_layOrder : Cond.code yX4_layOrder cX4_layOrder 5 none ∈ lw_gt := lw_i6 99 rfl rfl
theorem ki_X4_layOrder : Cond.instanceMethod yX4_layOrder ∈ lw_gt := lw_i6 98 rfl rfl
theorem kv_X4_layOrder : Cond.selects RX4 yX4_layOrder yX4_layOrder ∈ lw_gt := lw_in 61 rfl rfl
theorem kc_X4_listOrders : Cond.code yX4_listOrders cX4_listOrders 5 none ∈ lw_gt := lw_i6 95 rfl rfl
theorem ki_X4_listOrders : Cond.instanceMethod yX4_listOrders ∈ lw_gt := lw_i6 94 rfl rfl
theorem kv_X4_listOrders : Cond.selects RX4 yX4_listOrders yX4_listOrders ∈ lw_gt := lw_in 60 rfl rfl
theorem kc_X4_listShapes : Cond.code yX4_listShapes cX4_listShapes 5 none ∈ lw_gt := lw_i6 88 rfl rfl
theorem ki_X4_listShapes : Cond.instanceMethod yX4_listShapes ∈ lw_gt := lw_i6 87 rfl rfl
theorem kv_X4_listShapes : Cond.selects RX4 yX4_listShapes yX4_listShapes ∈ lw_gt := lw_in 59 rfl rfl
theorem kc_X4_takeWagons : Cond.code yX4_takeWagons cX4_takeWagons 5 none ∈ lw_gt := lw_i6 80 rfl rfl
theorem ki_X4_takeWagons : Cond.instanceMethod yX4_takeWagons ∈ lw_gt := lw_i6 79 rfl rfl
theorem kv_X4_takeWagons : Cond.selects RX4 yX4_takeWagons yX4_takeWagons ∈ lw_gt := lw_in 57 rfl rfl
theorem kl_X4_106 : Cond.methodLink RX4 106 yJ7_fill_53178 ∈ lw_gt := lw_i6 130 rfl rfl
theorem kl_X4_112 : Cond.methodLink RX4 112 yX4_rankOf ∈ lw_gt := lw_i6 131 rfl rfl
theorem kc_X4_spreadFrom : Cond.code yX4_spreadFrom cX4_spreadFrom 10 none ∈ lw_gt := lw_i6 75 rfl rfl
theorem ki_X4_spreadFrom : Cond.instanceMethod yX4_spreadFrom ∈ lw_gt := lw_i6 73 rfl rfl
theorem kv_X4_spreadFrom : Cond.selects RX4 yX4_spreadFrom yX4_spreadFrom ∈ lw_gt := lw_i6 74 rfl rfl
theorem kl_X3_94 : Cond.methodLink RX3 94 yX4_entryDown ∈ lw_gt := lw_i6 150 rfl rfl
theorem kl_X3_97 : Cond.methodLink RX3 97 yX4_moveOf ∈ lw_gt := lw_i6 155 rfl rfl
theorem kl_X3_100 : Cond.methodLink RX3 100 yX4_rankAfter ∈ lw_gt := lw_i6 159 rfl rfl
theorem kc_X4_moveOf : Cond.code yX4_moveOf cX4_moveOf 2 (some .int) ∈ lw_gt := lw_i6 158 rfl rfl
theorem ki_X4_moveOf : Cond.instanceMethod yX4_moveOf ∈ lw_gt := lw_i6 156 rfl rfl
theorem kv_X4_moveOf : Cond.selects RX4 yX4_moveOf yX4_moveOf ∈ lw_gt := lw_i6 157 rfl rfl
theorem kc_X4_entryDown : Cond.code yX4_entryDown cX4_entryDown 4 (some .int) ∈ lw_gt := lw_i6 153 rfl rfl
theorem ki_X4_entryDown : Cond.instanceMethod yX4_entryDown ∈ lw_gt := lw_i6 151 rfl rfl
theorem kv_X4_entryDown : Cond.selects RX4 yX4_entryDown yX4_entryDown ∈ lw_gt := lw_i6 152 rfl rfl
theorem kc_X3_makeLeast : Cond.code yX3_makeLeast cX3_makeLeast 5 (some .int) ∈ lw_gt := lw_i6 71 rfl rfl
theorem ki_X3_makeLeast : Cond.instanceMethod yX3_makeLeast ∈ lw_gt := lw_i6 69 rfl rfl
theorem kv_X3_makeLeast : Cond.selects RX3 yX3_makeLeast yX3_makeLeast ∈ lw_gt := lw_i6 70 rfl rfl
theorem kc_X3_isSmall : Cond.code yX3_isSmall cX3_isSmall 1 (some .boolean) ∈ lw_gt := lw_i6 67 rfl rfl
theorem ki_X3_isSmall : Cond.instanceMethod yX3_isSmall ∈ lw_gt := lw_i6 65 rfl rfl
theorem kv_X3_isSmall : Cond.selects RX3 yX3_isSmall yX3_isSmall ∈ lw_gt := lw_i6 66 rfl rfl
theorem kl_X11_432 : Cond.methodLink RX11 432 yX3_makeByRule ∈ lw_gt := lw_i6 29 rfl rfl
theorem kl_X3_108 : Cond.methodLink RX3 108 yX7_wagonAt ∈ lw_gt := lw_i6 38 rfl rfl
theorem kl_X3_111 : Cond.methodLink RX3 111 yX3_bring ∈ lw_gt := lw_i6 39 rfl rfl
theorem kl_X3_115 : Cond.methodLink RX3 115 yX3_lower ∈ lw_gt := lw_i6 43 rfl rfl
theorem kl_X3_125 : Cond.methodLink RX3 125 yX3_roomiest ∈ lw_gt := lw_i6 47 rfl rfl
theorem kl_X3_121 : Cond.methodLink RX3 121 yX3_moveOne ∈ lw_gt := lw_i6 55 rfl rfl
theorem kc_X3_moveOne : Cond.code yX3_moveOne cX3_moveOne 3 (some .boolean) ∈ lw_gt := lw_i6 58 rfl rfl
theorem ki_X3_moveOne : Cond.instanceMethod yX3_moveOne ∈ lw_gt := lw_i6 57 rfl rfl
theorem kv_X3_moveOne : Cond.selects RX3 yX3_moveOne yX3_moveOne ∈ lw_gt := lw_in 56 rfl rfl
theorem kc_X3_roomiest : Cond.code yX3_roomiest cX3_roomiest 5 (some .int) ∈ lw_gt := lw_i6 50 rfl rfl
theorem ki_X3_roomiest : Cond.instanceMethod yX3_roomiest ∈ lw_gt := lw_i6 49 rfl rfl
theorem kv_X3_roomiest : Cond.selects RX3 yX3_roomiest yX3_roomiest ∈ lw_gt := lw_in 54 rfl rfl
theorem kl_X3_118 : Cond.methodLink RX3 118 yX7_placeOn ∈ lw_gt := lw_i6 63 rfl rfl
theorem kc_X3_lower : Cond.code yX3_lower cX3_lower 5 (some .boolean) ∈ lw_gt := lw_i6 46 rfl rfl
theorem ki_X3_lower : Cond.instanceMethod yX3_lower ∈ lw_gt := lw_i6 45 rfl rfl
theorem kv_X3_lower : Cond.selects RX3 yX3_lower yX3_lower ∈ lw_gt := lw_in 53 rfl rfl
theorem kc_X3_bring : Cond.code yX3_bring cX3_bring 5 (some .boolean) ∈ lw_gt := lw_i6 42 rfl rfl
theorem ki_X3_bring : Cond.instanceMethod yX3_bring ∈ lw_gt := lw_i6 41 rfl rfl
theorem kv_X3_bring : Cond.selects RX3 yX3_bring yX3_bring ∈ lw_gt := lw_in 52 rfl rfl
theorem kc_X3_makeByRule : Cond.code yX3_makeByRule cX3_makeByRule 3 (some .int) ∈ lw_gt := lw_i6 32 rfl rfl
theorem ki_X3_makeByRule : Cond.instanceMethod yX3_makeByRule ∈ lw_gt := lw_i6 30 rfl rfl
theorem kv_X3_makeByRule : Cond.selects RX3 yX3_makeByRule yX3_makeByRule ∈ lw_gt := lw_i6 31 rfl rfl
theorem ok_X1_exchange : Ok yX1_exchange 1 := by decide +kernel
theorem ok_X1_goBack : Ok yX1_goBack 1 := by decide +kernel
theorem ok_X1_goOn : Ok yX1_goOn 1 := by decide +kernel
theorem ok_X4_growRows : Ok yX4_growRows 0 := by decide +kernel
theorem ok_X4_layOrder : Ok yX4_layOrder 1 := by decide +kernel
theorem ok_X4_listOrders : Ok yX4_listOrders 0 := by decide +kernel
theorem ok_X4_listShapes : Ok yX4_listShapes 0 := by decide +kernel
theorem ok_X4_takeWagons : Ok yX4_takeWagons 1 := by decide +kernel
theorem ok_X4_spreadFrom : Ok yX4_spreadFrom 2 := by decide +kernel
theorem ok_X4_moveOf : Ok yX4_moveOf 1 := by decide +kernel
theorem ok_X4_entryDown : Ok yX4_entryDown 1 := by decide +kernel
theorem ok_X3_makeLeast : Ok yX3_makeLeast 0 := by decide +kernel
theorem ok_X3_isSmall : Ok yX3_isSmall 0 := by decide +kernel
theorem ok_X3_moveOne : Ok yX3_moveOne 2 := by decide +kernel
theorem ok_X3_roomiest : Ok yX3_roomiest 2 := by decide +kernel
theorem ok_X3_lower : Ok yX3_lower 3 := by decide +kernel
theorem ok_X3_bring : Ok yX3_bring 3 := by decide +kernel
theorem ok_X3_makeByRule : Ok yX3_makeByRule 0 := by decide +kernel
/-! ===== exchange: the array of the state and one that is kept change places ===== -/
def ads (ad : Nat → Nat) (a b : Nat) : Nat → Nat := fun k => if k = a then ad b else if k = b then ad a else ad k
def sws (S : SS) (a b : Nat) : SS := (fun k => if k = a then S.1 b else if k = b then S.1 a else S.1 k, S.2)
theorem assign_self (vm : Vm) (c : ClassId) : vm.assignable c c = true := by
  show Vm.assignableAux vm (255 + 1) c c = true
  rw [Vm.assignableAux, beq_self_eq_true, Bool.true_or]
theorem pd_A : parseFieldDescriptor "[I" = some (.array .int) := by decide +kernel
theorem nrf_kept {i : Nat} (h : i < 8) : nrfs (kb + i) 80 0 dsT = true := by
  rcases (show i = 0 ∨ i = 1 ∨ i = 2 ∨ i = 3 ∨ i = 4 ∨ i = 5 ∨ i = 6 ∨ i = 7 by omega) with rfl | rfl | rfl | rfl | rfl | rfl | rfl | rfl <;> decide +kernel
theorem nrf_cells : nrfs 79 63 0 dsT = true := by decide +kernel
set_option maxRecDepth 100000 in
set_option maxHeartbeats 4000000 in
theorem c_border (l : Launch) (dC : Nat → ClassId) (dI : Nat → Nat → Nat) (h0 : Nat) (fs : List Value) (o u : Int32) (ho : fs[3]? = some (.int o)) (hu : fs[6]? = some (.int u)) : Met l yX1_border (.code yX1_border cX1_border 1 (some .int) :: lw_gt) { frames := 0, cells := 0, slots := 0, locals := 0 } (va_Pc [.ref h0] (fun U => va_P (dC, dI) vwCl [(h0, .inr (1, fs))] U.heap ∧ va_K (dC, dI) vwCl [] U)) (vp_Si (fun r => r = (o + u) - (o + u) / (8 : Int32) * (8 : Int32))) 0 0 (fun _ => False) := by
  refine Met.ofW (cc := cX1_border) (maxL := 1) (ret := some .int) (by decide) rfl ?_
  intro p e s m args below meth c s₁ B hml hv
  obtain ⟨rfl, hP, hK⟩ := hv
  have hx := B.exec
  have hb := B.bytes
  have hr := B.returns
  have hts0 := atoms_spec (ws := .code yX1_border cX1_border 1 (some .int) :: lw_gt) B.pre
  have hts : ∀ w ∈ lw_gt, w.before _ s = true := fun w hw => hts0 w (List.mem_cons_of_mem _ hw)
  have hown : s.vm.findClass RX1 = some m.cls := findClass_of_methodNamed B.named
  have hlocks := B.notSynchronized
  have hl := lv_entry ([.ref h0]) (n := 1) (Nat.le_of_ble_eq_true rfl)
  rw [lg_entry_eq]
  generalize (lg_sl ([.ref h0]) ++ List.replicate (1 - (lg_sl ([.ref h0])).length) Slot.unset).toArray = ls at hl ⊢
  have hl : lv_has ls 1 [(0, .ref h0)] := hl
  refine lv_aload_n (pc := 0) hx hb dX1_border_0 rfl (lv_at hl 0 rfl) ?_
  refine va_get (pc := 1) hx hb hts vi_X1 hown hK hP 0 rfl vc_X1 3 (by decide) (hts _ kf_X1_25) (fun x h => h) ho dX1_border_1 ?_
  refine lv_aload_n (pc := 4) hx hb dX1_border_4 rfl (lv_at hl 0 rfl) ?_
  refine va_get (pc := 5) hx hb hts vi_X1 hown hK hP 0 rfl vc_X1 6 (by decide) (hts _ kf_X1_35) (fun x h => h) hu dX1_border_5 ?_
  refine lv_iadd (pc := 8) hx hb dX1_border_8 ?_
  refine lv_bipush (pc := 9) (v := 8) hx hb dX1_border_9 (by decide) ?_
  refine lv_irem (pc := 11) hx hb dX1_border_11 (by decide) ?_
  exact W.iret hx hb hr (fun t ht _ => ⟨_, rfl, rfl, ht⟩) (fun q hq => by cases hq) dX1_border_12 hlocks
section EX
variable {p : Program} {l : Launch} {e : Env} {R : Room} {s : State} {m : MethodId} {args : Array Value} {below : List Frame} {meth : Method} {c : Code} {H : Heap} {locs : List Loc} {Q : State → Prop}
variable {pc : Nat} {rt : Option FieldType} {ls : Array Slot} {rest : List Value} {dC : Nat → ClassId} {dI : Nat → Nat → Nat} {cs : Nat → ClassId} {A : Nat → Prop} {cells slots : Nat}
theorem s_bord (F : Fx p s m args meth c cX1_exchange 3 RX1 rt dC dI cs A) {ws : va_W} (hP : va_P (dC, dI) vwCl ws H) (q0 : Nat) {a : Nat} {fs : List Value} {o u : Int32} (he : ws[q0]? = some (a, .inr (1, fs))) (ho : fs[3]? = some (.int o)) (hu : fs[6]? = some (.int u)) (hls : ls.size = 3) (hR : 0 + 1 ≤ R.frames ∧ 8 + (1 + 11) + 0 ≤ R.locals) (hcs : cells ≤ R.cells ∧ slots ≤ R.slots) (hrm : (rest.map fun v => v.category).sum ≤ 8) (hdg : decode cX1_exchange pc = .ok (.invokevirtual 44, 3))
    (kk : W p l e R s m args below meth c H locs cells slots Q (F0 m (pc + 3) ls (.int ((o + u) - (o + u) / (8 : Int32) * (8 : Int32)) :: rest))) : W p l e R s m args below meth c H locs cells slots Q (F0 m pc ls (.ref a :: rest)) := by
  obtain ⟨⟨hx, hb, hml, hown, hts⟩, -, -, hK, hA, hN⟩ := F
  refine vp_callSi (W.runV (C := RX1) (bytes := cX1_border) (maxL := 1) (ret := some .int) (As := []) (rest := rest) (b := a) (n := 0) (mc := 0) (ms := 0) ⟨hx, hb, hml, hown, hts⟩ (c_border l dC dI a fs o u ho hu) ⟨callB_of 0 hts (s_wsg kc_X1_border) rfl rfl rfl (hts _ kn_X1) (hts _ kl_X1_44) ok_X1_border hR, hts _ ki_X1_border, hts _ kv_X1_border⟩ ⟨fun a U g mk q => ?_, va_recv hK hP vc_X1 he, fun U hU hW => ⟨rfl, ?_, va_K.moved hW.alike (hK.sub [] rfl)⟩⟩ rfl rfl hls rfl (lv_room hrm) hdg ⟨hcs.1, hcs.2⟩) (fun r hr => by rw [hr]; exact kk)
  · obtain ⟨q0, qP, qK⟩ := q
    exact ⟨q0, qP, va_K.moved (u := U) (U := U.calling g mk a) (Vm.Alike.refl U.vm) qK⟩
  · rw [hU]
    exact hP.sub [q0] (by simp [he])
end EX
def f_History_exchange (S : SS) : Option SS := nm ((S.1 64 3 + S.1 64 6) - (S.1 64 3 + S.1 64 6) / (8 : Int32) * (8 : Int32)) (fun b => grd (inb b 8) (some (sws S 79 (kb + b.toNatClampNeg))))
theorem dX1_exchange_0 : decode cX1_exchange 0 = .ok (.aload_n 1, 1) := dc_43 (by decide +kernel)
theorem dX1_exchange_1 : decode cX1_exchange 1 = .ok (.getfield 41, 3) := dc_180 (a := 0) (b := 41) (by decide +kernel)
theorem dX1_exchange_4 : decode cX1_exchange 4 = .ok (.astore_n 2, 1) := dc_77 (by decide +kernel)
theorem dX1_exchange_5 : decode cX1_exchange 5 = .ok (.aload_n 1, 1) := dc_43 (by decide +kernel)
theorem dX1_exchange_6 : decode cX1_exchange 6 = .ok (.aload_n 0, 1) := dc_42 (by decide +kernel)
theorem dX1_exchange_7 : decode cX1_exchange 7 = .ok (.getfield 15, 3) := dc_180 (a := 0) (b := 15) (by decide +kernel)
theorem dX1_exchange_10 : decode cX1_exchange 10 = .ok (.aload_n 0, 1) := dc_42 (by decide +kernel)
theorem dX1_exchange_11 : decode cX1_exchange 11 = .ok (.invokevirtual 44, 3) := dc_182 (a := 0) (b := 44) (by decide +kernel)
theorem dX1_exchange_14 : decode cX1_exchange 14 = .ok (.aaload, 1) := dc_50 (by decide +kernel)
theorem dX1_exchange_15 : decode cX1_exchange 15 = .ok (.putfield 41, 3) := dc_181 (a := 0) (b := 41) (by decide +kernel)
theorem dX1_exchange_18 : decode cX1_exchange 18 = .ok (.aload_n 0, 1) := dc_42 (by decide +kernel)
theorem dX1_exchange_19 : decode cX1_exchange 19 = .ok (.getfield 15, 3) := dc_180 (a := 0) (b := 15) (by decide +kernel)
theorem dX1_exchange_22 : decode cX1_exchange 22 = .ok (.aload_n 0, 1) := dc_42 (by decide +kernel)
theorem dX1_exchange_23 : decode cX1_exchange 23 = .ok (.invokevirtual 44, 3) := dc_182 (a := 0) (b := 44) (by decide +kernel)
theorem dX1_exchange_26 : decode cX1_exchange 26 = .ok (.aload_n 2, 1) := dc_44 (by decide +kernel)
theorem dX1_exchange_27 : decode cX1_exchange 27 = .ok (.aastore, 1) := dc_83 (by decide +kernel)
theorem dX1_exchange_28 : decode cX1_exchange 28 = .ok (.return_, 1) := dc_177 (by decide +kernel)

theorem kb_in {i : Nat} (h : i < 8) : kb + i ≠ 79 ∧ kb + i ≠ 63 ∧ kb + i ≠ 80 ∧ kb + i ≠ 64 := by unfold kb; omega
theorem swp_ne {k i : Nat} (hi : i < 8) (h : swpb k = false) : k ≠ 79 ∧ k ≠ kb + i := by
  refine ⟨fun e => by subst e; exact absurd h (by decide), fun e => ?_⟩
  subst e
  rcases (show i = 0 ∨ i = 1 ∨ i = 2 ∨ i = 3 ∨ i = 4 ∨ i = 5 ∨ i = 6 ∨ i = 7 by omega) with rfl | rfl | rfl | rfl | rfl | rfl | rfl | rfl <;> exact absurd h (by decide)
set_option maxRecDepth 100000 in
set_option maxHeartbeats 4000000 in
theorem m_History_exchange (S S' : SS) (h : f_History_exchange S = some S') : MX yX1_exchange cX1_exchange 3 none 1 20 (fun ad => [.ref (ad 64), .ref (ad 63)]) S none S' 0 0 := by
  refine MX.of RX1 (fun ad => [(0, .ref (ad 64)), (1, .ref (ad 63))]) (by decide) rfl (fun _ => Nat.le_of_ble_eq_true rfl) (fun _ => rfl) ?_
  intro p l e R s m args below meth c dC dI cs ad A hR1 hR2 hRc hRs F H locs ls hA w hl
  have hx := F.1.1
  have hb := F.1.2.1
  rw [f_History_exchange] at h
  refine s_nm h (fun b eb h => ?_)
  obtain ⟨hi, h⟩ := grd_t h
  cases h
  have hlt := inb_lt hi
  obtain ⟨n1, n2, n3, n4⟩ := kb_in hlt
  refine lv_aload_n (pc := 0) hx hb dX1_exchange_0 rfl (lv_at hl 1 rfl) ?_
  refine s_getR (pc := 1) F w 79 ds_63 (j := 0) vc_X8 vi_X8 rfl (by decide) kf_X1_41 dX1_exchange_1 ?_
  refine lv_astore_n (pc := 4) (lv' := [(2, .ref (ad 79)), (0, .ref (ad 64)), (1, .ref (ad 63))]) hx hb dX1_exchange_4 rfl hl (by decide) rfl (fun ls hl => ?_)
  refine lv_aload_n (pc := 5) hx hb dX1_exchange_5 rfl (lv_at hl 2 rfl) ?_
  refine lv_aload_n (pc := 6) hx hb dX1_exchange_6 rfl (lv_at hl 1 rfl) ?_
  refine s_getR (pc := 7) F w 80 ds_64 (j := 0) vc_X1 vi_X1 rfl (by decide) kf_X1_15 dX1_exchange_7 ?_
  refine lv_aload_n (pc := 10) hx hb dX1_exchange_10 rfl (lv_at hl 1 rfl) ?_
  refine s_bord (pc := 11) (o := S.1 64 3) (u := S.1 64 6) F w.1 64 (ws_get ds_64) rfl rfl hl.1 ⟨by omega, by omega⟩ ⟨Nat.zero_le _, Nat.zero_le _⟩ (Nat.le_of_ble_eq_true rfl) dX1_exchange_11 ?_
  rw [← eb]
  refine s_aald (pc := 14) (ρ := Unit) (res := ()) (g := some ()) F w ds_80 (by simp [grd, hi]) dX1_exchange_14 (fun _ _ => ?_)
  obtain ⟨hP, hD, hS, h2⟩ := w
  have F' := F
  obtain ⟨⟨-, -, hml, hown, hts⟩, hr, hlk, hK, hAA, hN⟩ := F
  obtain ⟨kA, hkA, hkind⟩ := hN.2
  refine va_put (pc := 15) hx hb hts vi_X8 tyX8 tyX8_ok nmX8 hown hK hP hD hS 63 (ws_get ds_63) vc_X8 0 (by decide) (hts _ kf_X1_41) (fun x h => h) rfl (v := .ref (ad (kb + b.toNatClampNeg))) pd_A rfl rfl (Nat.le_of_ble_eq_true rfl) dX1_exchange_15 fun H1 locs1 hP1 hD1 hS1 => ?_
  have gk : ∀ (k : Nat) (d : dsc), dsT[k]? = some d → k ≠ 63 → ((wsOf cs ad S).set 63 (ad 63, .inr (8, (fsOf ad (S.1 63) 0 [some 79, none]).set 0 (.ref (ad (kb + b.toNatClampNeg))))))[k]? = some (ad k, ceOf cs ad S k d) := by
    intro k d hd' hne
    rw [List.getElem?_set_ne (Ne.symm hne)]
    exact ws_get hd'
  have hl2 : 63 < (wsOf cs ad S).length := (List.getElem?_eq_some_iff.mp (ws_get (cs := cs) (ad := ad) (S := S) ds_63)).1
  have g2 : ((wsOf cs ad S).set 63 (ad 63, .inr (8, (fsOf ad (S.1 63) 0 [some 79, none]).set 0 (.ref (ad (kb + b.toNatClampNeg))))))[63]? = some (ad 63, .inr (8, [.ref (ad (kb + b.toNatClampNeg)), .int (S.1 63 1)])) := by
    rw [List.getElem?_set_self hl2]; rfl
  have hP1 : va_P (dC, dI) vwCl ((wsOf cs ad S).set 63 (ad 63, .inr (8, (fsOf ad (S.1 63) 0 [some 79, none]).set 0 (.ref (ad (kb + b.toNatClampNeg)))))) H1 := hP1
  have hD1 : va_D A ((wsOf cs ad S).set 63 (ad 63, .inr (8, (fsOf ad (S.1 63) 0 [some 79, none]).set 0 (.ref (ad (kb + b.toNatClampNeg)))))) := hD1
  generalize (wsOf cs ad S).set 63 (ad 63, .inr (8, (fsOf ad (S.1 63) 0 [some 79, none]).set 0 (.ref (ad (kb + b.toNatClampNeg))))) = ws1 at hP1 hD1 gk g2
  refine lv_aload_n (pc := 18) hx hb dX1_exchange_18 rfl (lv_at hl 1 rfl) ?_
  refine va_get (pc := 19) hx hb hts vi_X1 hown hK hP1 64 (gk 64 _ ds_64 (by decide)) vc_X1 0 (by decide) (hts _ kf_X1_15) (fun x h => h) (v := .ref (ad 80)) rfl dX1_exchange_19 ?_
  refine lv_aload_n (pc := 22) hx hb dX1_exchange_22 rfl (lv_at hl 1 rfl) ?_
  refine s_bord (pc := 23) (o := S.1 64 3) (u := S.1 64 6) F' hP1 64 (gk 64 _ ds_64 (by decide)) rfl rfl hl.1 ⟨by omega, by omega⟩ ⟨Nat.zero_le _, Nat.zero_le _⟩ (Nat.le_of_ble_eq_true rfl) dX1_exchange_23 ?_
  rw [← eb]
  refine lv_aload_n (pc := 26) hx hb dX1_exchange_26 rfl (lv_at hl 0 rfl) ?_
  have q20 := hP1 80 _ (gk 80 _ ds_80 (by decide))
  have q19 := hP1 79 _ (gk 79 _ ds_79 (by decide))
  obtain ⟨-, k0, hk0, comp0, hkk0⟩ := (hK.2 0 _ rfl).1 0 (fun _ => .null)
  refine W.aast (g := F0 m 27 ls _) (v := ad 79) (a := ad 80) (j := b) hx hb q20 (fun q h => by cases h) (fun h => by cases h) hkA hkind rfl hk0 ⟨fun z => inb_in hi (Or.inl z), by show _ < (arrV _ _ _).slots.size; rw [arrV_size]; exact hlt⟩ q19 (fun q h => by cases h) hk0 (assign_self s.vm (cs 0)) rfl rfl dX1_exchange_27 fun H2 e2 z2 oq2 => ?_
  have hS2 : va_S A s.heap H2 (locs1 ++ [⟨ad 80, b.toNatClampNeg⟩]) := hS1.put z2 oq2 (hD1.2 80 _ (gk 80 _ ds_80 (by decide)))
  have aR : adR ad (ads ad 79 (kb + b.toNatClampNeg)) := fun k hk => by
    obtain ⟨c1, c2⟩ := swp_ne hlt hk
    simp [ads, c1, c2]
  have eg : va_up (fun i => if i < 8 then some (ad (kb + i)) else none) b.toNatClampNeg (some (ad 79)) = (fun i => if i < 8 then some (ads ad 79 (kb + b.toNatClampNeg) (kb + i)) else none) := by
    funext i
    by_cases hq : i = b.toNatClampNeg
    · subst hq
      simp [va_up, ads, hlt, n1]
    · by_cases h8 : i < 8
      · have := (kb_in h8).1
        have h9 : ¬ kb + i = kb + b.toNatClampNeg := by omega
        simp [va_up, ads, hq, h8, this, h9]
      · simp [va_up, hq, h8]
  have e3 : H2[ad 80]? = some (vp_cell (cs 2) (8, .inr (.inr (.inr (.inr (fun i => if i < 8 then some (ads ad 79 (kb + b.toNatClampNeg) (kb + i)) else none)))))) := by
    rw [e2, ← eg]
    show some ((vp_cell (cs 2) (8, .inr (.inr (.inr (.inr (fun i => if i < 8 then some (ad (kb + i)) else none)))))).setSlot _ _) = _
    rw [vp_cell_q, vp_cell_q, arrV_store]
    congr 2
    funext q
    by_cases hq : q = b.toNatClampNeg
    · subst hq
      simp [updV, va_up, va_rf]
    · simp [updV, va_up, hq]
  have key : ∀ (k : Nat) (x : Nat × va_E), (wsOf cs (ads ad 79 (kb + b.toNatClampNeg)) (sws S 79 (kb + b.toNatClampNeg)))[k]? = some x → ∃ y : Nat × va_E, ws1[if k = 79 then kb + b.toNatClampNeg else if k = kb + b.toNatClampNeg then 79 else k]? = some y ∧ y.1 = x.1 ∧ (k ≠ 80 → y = x) ∧ (k = 80 → x = (ad 80, .inl (cs 2, 8, .inr (.inr (.inr (.inr (fun i => if i < 8 then some (ads ad 79 (kb + b.toNatClampNeg) (kb + i)) else none))))))) := by
    intro k x hx
    rw [wsF_get, Nat.zero_add] at hx
    cases hd' : dsT[k]? with
    | none => rw [hd'] at hx; cases hx
    | some d =>
      rw [hd'] at hx
      simp only [Option.map_some, Option.some.injEq] at hx
      subst hx
      by_cases c1 : k = 79
      · subst c1
        have : d = .inr (0, some 946) := Option.some.inj (hd'.symm.trans ds_79)
        subst this
        rw [if_pos rfl]
        refine ⟨_, gk _ _ (ds_kept hlt) n2, ?_, fun _ => ?_, fun z => absurd z (by decide)⟩
        · simp [ads]
        · simp [ads, ceOf, sws]
      · rw [if_neg c1]
        by_cases c2 : k = kb + b.toNatClampNeg
        · subst c2
          have : d = .inr (0, some 946) := Option.some.inj (hd'.symm.trans (ds_kept hlt))
          subst this
          rw [if_pos rfl]
          refine ⟨_, gk _ _ ds_79 (by decide), ?_, fun _ => ?_, fun z => absurd z n3⟩
          · simp [ads, n1]
          · simp [ads, ceOf, sws, n1]
        · rw [if_neg c2]
          by_cases c3 : k = 63
          · subst c3
            have : d = .inl (8, [some 79, none]) := Option.some.inj (hd'.symm.trans ds_63)
            subst this
            refine ⟨_, g2, ?_, fun _ => ?_, fun z => absurd z (by decide)⟩
            · simp [ads, c2]
            · simp [ads, ceOf, fsOf, sws, c2]
          · by_cases c4 : k = 80
            · subst c4
              have : d = .inr (2, some 8) := Option.some.inj (hd'.symm.trans ds_80)
              subst this
              refine ⟨_, gk _ _ ds_80 c3, ?_, fun z => absurd rfl z, fun _ => ?_⟩
              · simp [ads, c2]
              · simp [ads, ceOf, c2]
            · have ea : ads ad 79 (kb + b.toNatClampNeg) = adu (adu ad 79 (ad (kb + b.toNatClampNeg))) (kb + b.toNatClampNeg) (ad 79) := by
                funext q
                by_cases z1 : q = 79
                · subst z1
                  have : ¬ (79 = kb + b.toNatClampNeg) := fun z => n1 z.symm
                  simp [ads, adu, this]
                · simp [ads, adu, z1]
              refine ⟨_, gk k d hd' c3, ?_, fun _ => ?_, fun z => absurd z c4⟩
              · simp [ads, c1, c2]
              · have e5 : ceOf cs (ads ad 79 (kb + b.toNatClampNeg)) (sws S 79 (kb + b.toNatClampNeg)) k d = ceOf cs ad S k d := by
                  rw [ea]
                  exact (ceOf_nrf (cs := cs) (S := S) (S' := sws S 79 (kb + b.toNatClampNeg)) (k := k) (nrfs_at _ _ dsT 0 k d (nrf_kept hlt) hd' (by omega)) (by simp [sws, c1, c2]) rfl).trans (ceOf_nrf (S := S) (nrfs_at _ _ dsT 0 k d nrf_cells hd' (by omega)) rfl rfl)
                rw [e5]
                simp [ads, c1, c2]
  refine W.vret (pc := 28) hx hb hr (fun t ht _ => ⟨⟨rfl, _, aR, ?_, ?_⟩, hS2.F ht⟩) (fun q hq => hS2.2.2 q hq) dX1_exchange_28 hlk
  · rw [ht]
    intro k x hx
    obtain ⟨y, k1, k2, k3, k4⟩ := key k x hx
    by_cases c4 : k = 80
    · rw [k4 c4]
      exact e3
    · have := k3 c4
      subst this
      refine (hP1 _ y k1).kept (oq2 y.1 (fun z => ?_))
      have hh := hD1.1 _ 80 y _ k1 (gk 80 _ ds_80 (by decide)) z
      by_cases z1 : k = 79
      · rw [if_pos z1] at hh; exact n3 hh
      · rw [if_neg z1] at hh
        by_cases z2 : k = kb + b.toNatClampNeg
        · rw [if_pos z2] at hh; exact absurd hh (by decide)
        · rw [if_neg z2] at hh; exact c4 hh
  · refine ⟨fun i j x y hx hy hxy => ?_, fun k x hx => ?_⟩
    · obtain ⟨x', a1, a2, -⟩ := key i x hx
      obtain ⟨y', b1, b2, -⟩ := key j y hy
      have hh := hD1.1 _ _ x' y' a1 b1 (a2.trans (hxy.trans b2.symm))
      by_cases z1 : i = 79
      · by_cases z2 : j = 79
        · omega
        · rw [if_pos z1, if_neg z2] at hh
          by_cases z4 : j = kb + b.toNatClampNeg
          · rw [if_pos z4] at hh; omega
          · rw [if_neg z4] at hh; omega
      · rw [if_neg z1] at hh
        by_cases z2 : j = 79
        · rw [if_pos z2] at hh
          by_cases z3 : i = kb + b.toNatClampNeg
          · rw [if_pos z3] at hh; omega
          · rw [if_neg z3] at hh; omega
        · rw [if_neg z2] at hh
          by_cases z3 : i = kb + b.toNatClampNeg
          · rw [if_pos z3] at hh
            by_cases z4 : j = kb + b.toNatClampNeg
            · omega
            · rw [if_neg z4] at hh; omega
          · rw [if_neg z3] at hh
            by_cases z4 : j = kb + b.toNatClampNeg
            · rw [if_pos z4] at hh; omega
            · rw [if_neg z4] at hh; exact hh
    · obtain ⟨x', a1, a2, -⟩ := key k x hx
      rw [← a2]
      exact hD1.2 _ x' a1
