/-! ===== two neighbours change places in at most 4 MOVES; so LEAST is small ===== -/
def swp : Nat → List Nat → List Nat
  | 0, a :: b :: t => b :: a :: t
  | i + 1, a :: t => a :: swp i t
  | _, l => l
theorem swp_map (f : Nat → Nat) : ∀ (i : Nat) (l : List Nat), (swp i l).map f = swp i (l.map f)
  | 0, [] => rfl
  | 0, [_] => rfl
  | 0, _ :: _ :: _ => rfl
  | _ + 1, [] => rfl
  | i + 1, a :: t => by
    show f a :: (swp i t).map f = f a :: swp i (t.map f)
    rw [swp_map f i t]
theorem swp_len : ∀ (i : Nat) (l : List Nat), (swp i l).length = l.length
  | 0, [] => rfl
  | 0, [_] => rfl
  | 0, _ :: _ :: _ => rfl
  | _ + 1, [] => rfl
  | i + 1, a :: t => by
    show (swp i t).length + 1 = t.length + 1
    rw [swp_len i t]
def Sw : Nat → List Nat → List Nat → Prop
  | 0, l, l' => l = l'
  | k + 1, l, l' => l = l' ∨ ∃ i, i + 1 < l.length ∧ Sw k (swp i l) l'
theorem Sw.refl (k : Nat) (l : List Nat) : Sw k l l := by
  cases k with
  | zero => rfl
  | succ k => exact Or.inl rfl
theorem Sw.mono : ∀ {k m : Nat} {l l' : List Nat}, k ≤ m → Sw k l l' → Sw m l l'
  | 0, m, l, l', _, h => by
    have h : l = l' := h
    subst h; exact Sw.refl m l
  | k + 1, 0, l, l', hl, h => by omega
  | k + 1, m + 1, l, l', hl, h => by
    rcases h with h | ⟨i, h1, h2⟩
    · exact Or.inl h
    · exact Or.inr ⟨i, h1, Sw.mono (by omega) h2⟩
theorem Sw.trans : ∀ {k m : Nat} {l l' l'' : List Nat}, Sw k l l' → Sw m l' l'' → Sw (k + m) l l''
  | 0, m, l, l', l'', h1, h2 => by
    have h1 : l = l' := h1
    subst h1; rw [Nat.zero_add]; exact h2
  | k + 1, m, l, l', l'', h1, h2 => by
    rcases h1 with h1 | ⟨i, h1, h3⟩
    · subst h1; exact Sw.mono (by omega) h2
    · rw [show k + 1 + m = (k + m) + 1 by omega]
      exact Or.inr ⟨i, h1, Sw.trans h3 h2⟩
theorem Sw.cons (a : Nat) : ∀ {k : Nat} {l l' : List Nat}, Sw k l l' → Sw k (a :: l) (a :: l')
  | 0, l, l', h => by
    have h : l = l' := h
    subst h; rfl
  | k + 1, l, l', h => by
    rcases h with h | ⟨i, h1, h2⟩
    · subst h; exact Or.inl rfl
    · exact Or.inr ⟨i + 1, by rw [List.length_cons]; omega, Sw.cons a h2⟩
theorem sw_front (y : Nat) (l2 : List Nat) : ∀ l1 : List Nat, Sw l1.length (l1 ++ y :: l2) (y :: (l1 ++ l2))
  | [] => rfl
  | a :: l1 => by
    have h := (sw_front y l2 l1).cons a
    have h2 : Sw 1 (a :: y :: (l1 ++ l2)) (y :: a :: (l1 ++ l2)) := Or.inr ⟨0, by rw [List.length_cons, List.length_cons]; omega, rfl⟩
    exact h.trans h2
def tri : Nat → Nat
  | 0 => 0
  | n + 1 => n + tri n
theorem bubble : ∀ (l' l : List Nat), l.length = l'.length → (∀ w, l.count w = l'.count w) → Sw (tri l'.length) l l'
  | [], l, hl, _ => by
    cases l with
    | nil => rfl
    | cons a t => cases hl
  | y :: t, l, hl, hc => by
    have hy : y ∈ l := by
      have h := hc y
      rw [List.count_cons_self] at h
      exact List.count_pos_iff.mp (by omega)
    obtain ⟨l1, l2, rfl⟩ := List.append_of_mem hy
    have hlen : (l1 ++ l2).length = t.length := by
      rw [List.length_append, List.length_cons, List.length_cons] at hl
      rw [List.length_append]; omega
    have h1 := sw_front y l2 l1
    have h2 := (bubble t (l1 ++ l2) hlen (fun w => by
      have h := hc w
      rw [List.count_append, List.count_cons, List.count_cons] at h
      rw [List.count_append]
      omega)).cons y
    refine Sw.mono ?_ (h1.trans h2)
    show l1.length + tri t.length ≤ t.length + tri t.length
    rw [List.length_append] at hlen
    omega
/-! rows of STACKS of a shape, out of one list -/
def cfL (L : List (List Nat)) : Cf := fun s => L.getD s []
def unf (h0 h1 h2 : Nat) (l : List Nat) : List (List Nat) := [l.take h0, (l.drop h0).take h1, (l.drop (h0 + h1)).take h2, l.drop (h0 + h1 + h2)]
theorem cfL_far (a b c d : List Nat) {s : Nat} (hs : 4 ≤ s) : cfL [a, b, c, d] s = [] := by
  unfold cfL
  rw [List.getD_eq_getElem?_getD, List.getElem?_eq_none (by simp; omega)]
  rfl
theorem mpc_unf (f : Nat → Nat) (h0 h1 h2 : Nat) (l : List Nat) : mpc f (cfL (unf h0 h1 h2 l)) = cfL (unf h0 h1 h2 (l.map f)) := by
  funext s
  show (cfL (unf h0 h1 h2 l) s).map f = cfL (unf h0 h1 h2 (l.map f)) s
  match s with
  | 0 => show (l.take h0).map f = (l.map f).take h0; rw [List.map_take]
  | 1 => show ((l.drop h0).take h1).map f = ((l.map f).drop h0).take h1; rw [List.map_take, List.map_drop]
  | 2 => show ((l.drop (h0 + h1)).take h2).map f = ((l.map f).drop (h0 + h1)).take h2; rw [List.map_take, List.map_drop]
  | 3 => show (l.drop (h0 + h1 + h2)).map f = (l.map f).drop (h0 + h1 + h2); rw [List.map_drop]
  | s + 4 => rw [show cfL (unf h0 h1 h2 l) (s + 4) = [] from cfL_far _ _ _ _ (by omega), show cfL (unf h0 h1 h2 (l.map f)) (s + 4) = [] from cfL_far _ _ _ _ (by omega)]; rfl
theorem unf_flat {X : Cf} (hX : ∀ s, 4 ≤ s → X s = []) : X = cfL (unf (X 0).length (X 1).length (X 2).length (Flat X)) := by
  have e : Flat X = X 0 ++ (X 1 ++ (X 2 ++ X 3)) := by unfold Flat; simp
  have d0 : (Flat X).drop (X 0).length = X 1 ++ (X 2 ++ X 3) := by rw [e, List.drop_left]
  have d1 : (Flat X).drop ((X 0).length + (X 1).length) = X 2 ++ X 3 := by rw [← List.drop_drop, d0, List.drop_left]
  have d2 : (Flat X).drop ((X 0).length + (X 1).length + (X 2).length) = X 3 := by rw [← List.drop_drop, d1, List.drop_left]
  funext s
  match s with
  | 0 => show X 0 = (Flat X).take (X 0).length; rw [e, List.take_left]
  | 1 => show X 1 = ((Flat X).drop (X 0).length).take (X 1).length; rw [d0, List.take_left]
  | 2 => show X 2 = ((Flat X).drop ((X 0).length + (X 1).length)).take (X 2).length; rw [d1, List.take_left]
  | 3 => show X 3 = (Flat X).drop ((X 0).length + (X 1).length + (X 2).length); rw [d2]
  | s + 4 => rw [hX _ (by omega)]; exact (cfL_far _ _ _ _ (by omega)).symm
/-! MOVES worked on lists -/
def rl (r : List Nat) : Nat → Nat := fun s => r.getD s 0
def stpL (R : Nat → Nat) (m : Nat × Nat × Nat) (L : List (List Nat)) : Option (List (List Nat)) :=
  if decide (m.1 < 4) && decide (m.2.1 < 4) && decide (m.1 ≠ m.2.1) && decide (1 ≤ m.2.2) && decide (m.2.2 ≤ (cfL L m.1).length) && decide ((cfL L m.2.1).length + m.2.2 ≤ R m.2.1) && decide (L.length = 4) then
    some [mvd m.1 m.2.1 m.2.2 (cfL L) 0, mvd m.1 m.2.1 m.2.2 (cfL L) 1, mvd m.1 m.2.1 m.2.2 (cfL L) 2, mvd m.1 m.2.1 m.2.2 (cfL L) 3] else none
def runL (R : Nat → Nat) : List (Nat × Nat × Nat) → List (List Nat) → Option (List (List Nat))
  | [], L => some L
  | m :: ms, L => match stpL R m L with
    | none => none
    | some L' => runL R ms L'
theorem stpL_ok {R : Nat → Nat} {m : Nat × Nat × Nat} {L L' : List (List Nat)} (h : stpL R m L = some L') : Mv R (cfL L) (cfL L') := by
  unfold stpL at h
  split at h
  · rename_i c
    simp only [Bool.and_eq_true, decide_eq_true_eq] at c
    obtain ⟨⟨⟨⟨⟨⟨c1, c2⟩, c3⟩, c4⟩, c5⟩, c6⟩, c7⟩ := c
    cases h
    refine ⟨m.1, m.2.1, m.2.2, c1, c2, c3, c4, c5, c6, funext fun s => ?_⟩
    match s with
    | 0 => rfl
    | 1 => rfl
    | 2 => rfl
    | 3 => rfl
    | s + 4 =>
      rw [cfL_far _ _ _ _ (by omega)]
      unfold mvd
      rw [if_neg (by omega), if_neg (by omega)]
      unfold cfL
      rw [List.getD_eq_getElem?_getD, List.getElem?_eq_none (by omega)]
      rfl
  · cases h
theorem runL_ok {R : Nat → Nat} : ∀ {ms : List (Nat × Nat × Nat)} {L L' : List (List Nat)}, runL R ms L = some L' → Rc R ms.length (cfL L) (cfL L')
  | [], L, L', h => by
    cases h; rfl
  | m :: ms, L, L', h => by
    unfold runL at h
    cases e : stpL R m L with
    | none => rw [e] at h; cases h
    | some V =>
      rw [e] at h
      exact Or.inr ⟨_, stpL_ok e, runL_ok h⟩
/-- in a shape of N WAGONS each two neighbours can change places in at most 4 MOVES -/
def Gd (N : Nat) (r : List Nat) (h0 h1 h2 : Nat) : Prop := ∀ i, i + 1 < N → ∃ ms : List (Nat × Nat × Nat), ms.length ≤ 4 ∧ runL (rl r) ms (unf h0 h1 h2 (List.range N)) = some (unf h0 h1 h2 (swp i (List.range N)))
theorem map_getD (l : List Nat) : (List.range l.length).map (fun i => l.getD i 0) = l := by
  apply List.ext_getElem?
  intro i
  by_cases hi : i < l.length
  · simp [hi]
  · rw [List.getElem?_eq_none (by simp; omega), List.getElem?_eq_none (by omega)]
theorem Gd.sw {N : Nat} {r : List Nat} {h0 h1 h2 : Nat} (g : Gd N r h0 h1 h2) : ∀ {k : Nat} {l l' : List Nat}, l.length = N → Sw k l l' → Rc (rl r) (4 * k) (cfL (unf h0 h1 h2 l)) (cfL (unf h0 h1 h2 l'))
  | 0, l, l', hl, h => by
    have h : l = l' := h
    subst h; rfl
  | k + 1, l, l', hl, h => by
    rcases h with h | ⟨i, hi, h2'⟩
    · subst h; exact Rc.refl _ _ _
    · obtain ⟨ms, hm, hr⟩ := g i (by omega)
      have a := Rc.map (fun i => l.getD i 0) (runL_ok hr)
      rw [mpc_unf, mpc_unf, swp_map, ← hl, map_getD] at a
      have b := Gd.sw g (by rw [swp_len]; exact hl) h2'
      exact Rc.mono (by omega) (a.trans b)
theorem gd_1_1111 : Gd 1 [1, 1, 1, 1] 0 0 0 := by
  intro i hi
  match i, hi with
  | i + 0, hi => omega
theorem gd_2_1111 : Gd 2 [1, 1, 1, 1] 0 0 1 := by
  intro i hi
  match i, hi with
  | 0, _ => exact ⟨[(2, 0, 1), (3, 2, 1), (0, 3, 1)], by decide, by decide⟩
  | i + 1, hi => omega
theorem gd_3_1111 : Gd 3 [1, 1, 1, 1] 0 1 1 := by
  intro i hi
  match i, hi with
  | 0, _ => exact ⟨[(1, 0, 1), (2, 1, 1), (0, 2, 1)], by decide, by decide⟩
  | 1, _ => exact ⟨[(2, 0, 1), (3, 2, 1), (0, 3, 1)], by decide, by decide⟩
  | i + 2, hi => omega
theorem gd_4_1122 : Gd 4 [1, 1, 2, 2] 1 1 1 := by
  intro i hi
  match i, hi with
  | 0, _ => exact ⟨[(0, 2, 1), (1, 0, 1), (2, 1, 1)], by decide, by decide⟩
  | 1, _ => exact ⟨[(1, 3, 1), (2, 1, 1), (3, 2, 1)], by decide, by decide⟩
  | 2, _ => exact ⟨[(2, 3, 1), (3, 2, 2), (2, 3, 1)], by decide, by decide⟩
  | i + 3, hi => omega
theorem gd_4_1212 : Gd 4 [1, 2, 1, 2] 1 1 1 := by
  intro i hi
  match i, hi with
  | 0, _ => exact ⟨[(0, 3, 1), (1, 0, 1), (3, 1, 1)], by decide, by decide⟩
  | 1, _ => exact ⟨[(1, 3, 1), (2, 1, 1), (3, 2, 1)], by decide, by decide⟩
  | 2, _ => exact ⟨[(2, 1, 1), (3, 2, 1), (1, 3, 1)], by decide, by decide⟩
  | i + 3, hi => omega
theorem gd_4_1221 : Gd 4 [1, 2, 2, 1] 1 1 1 := by
  intro i hi
  match i, hi with
  | 0, _ => exact ⟨[(0, 2, 1), (1, 0, 1), (2, 1, 1)], by decide, by decide⟩
  | 1, _ => exact ⟨[(1, 2, 1), (2, 1, 2), (1, 2, 1)], by decide, by decide⟩
  | 2, _ => exact ⟨[(2, 1, 1), (3, 2, 1), (1, 3, 1)], by decide, by decide⟩
  | i + 3, hi => omega
theorem gd_4_2112 : Gd 4 [2, 1, 1, 2] 1 1 1 := by
  intro i hi
  match i, hi with
  | 0, _ => exact ⟨[(0, 3, 1), (1, 0, 1), (3, 1, 1)], by decide, by decide⟩
  | 1, _ => exact ⟨[(1, 0, 1), (2, 1, 1), (0, 2, 1)], by decide, by decide⟩
  | 2, _ => exact ⟨[(2, 0, 1), (3, 2, 1), (0, 3, 1)], by decide, by decide⟩
  | i + 3, hi => omega
theorem gd_4_2121 : Gd 4 [2, 1, 2, 1] 1 1 1 := by
  intro i hi
  match i, hi with
  | 0, _ => exact ⟨[(0, 2, 1), (1, 0, 1), (2, 1, 1)], by decide, by decide⟩
  | 1, _ => exact ⟨[(1, 0, 1), (2, 1, 1), (0, 2, 1)], by decide, by decide⟩
  | 2, _ => exact ⟨[(2, 0, 1), (3, 2, 1), (0, 3, 1)], by decide, by decide⟩
  | i + 3, hi => omega
theorem gd_4_2211 : Gd 4 [2, 2, 1, 1] 0 2 1 := by
  intro i hi
  match i, hi with
  | 0, _ => exact ⟨[(1, 0, 1), (1, 0, 1), (0, 1, 2)], by decide, by decide⟩
  | 1, _ => exact ⟨[(1, 0, 1), (2, 1, 1), (0, 2, 1)], by decide, by decide⟩
  | 2, _ => exact ⟨[(2, 0, 1), (3, 2, 1), (0, 3, 1)], by decide, by decide⟩
  | i + 3, hi => omega
theorem gd_5_1222 : Gd 5 [1, 2, 2, 2] 0 2 1 := by
  intro i hi
  match i, hi with
  | 0, _ => exact ⟨[(1, 0, 1), (1, 2, 1), (0, 1, 1), (2, 1, 1)], by decide, by decide⟩
  | 1, _ => exact ⟨[(1, 0, 1), (2, 1, 1), (0, 2, 1)], by decide, by decide⟩
  | 2, _ => exact ⟨[(2, 0, 1), (3, 2, 2), (0, 3, 1), (2, 3, 1)], by decide, by decide⟩
  | 3, _ => exact ⟨[(3, 0, 1), (3, 2, 1), (0, 3, 1), (2, 3, 1)], by decide, by decide⟩
  | i + 4, hi => omega
theorem gd_5_2122 : Gd 5 [2, 1, 2, 2] 0 1 2 := by
  intro i hi
  match i, hi with
  | 0, _ => exact ⟨[(1, 0, 1), (2, 0, 1), (2, 1, 1), (0, 2, 2)], by decide, by decide⟩
  | 1, _ => exact ⟨[(2, 0, 1), (2, 0, 1), (0, 2, 2)], by decide, by decide⟩
  | 2, _ => exact ⟨[(2, 0, 1), (3, 0, 1), (3, 2, 1), (0, 3, 2)], by decide, by decide⟩
  | 3, _ => exact ⟨[(3, 0, 1), (3, 0, 1), (0, 3, 2)], by decide, by decide⟩
  | i + 4, hi => omega
theorem gd_5_2212 : Gd 5 [2, 2, 1, 2] 0 2 1 := by
  intro i hi
  match i, hi with
  | 0, _ => exact ⟨[(1, 0, 1), (1, 0, 1), (0, 1, 2)], by decide, by decide⟩
  | 1, _ => exact ⟨[(1, 0, 1), (2, 1, 1), (0, 2, 1)], by decide, by decide⟩
  | 2, _ => exact ⟨[(2, 0, 1), (3, 0, 1), (3, 2, 1), (0, 3, 2)], by decide, by decide⟩
  | 3, _ => exact ⟨[(3, 0, 1), (3, 0, 1), (0, 3, 2)], by decide, by decide⟩
  | i + 4, hi => omega
theorem gd_5_2221 : Gd 5 [2, 2, 2, 1] 0 2 2 := by
  intro i hi
  match i, hi with
  | 0, _ => exact ⟨[(1, 0, 1), (1, 0, 1), (0, 1, 2)], by decide, by decide⟩
  | 1, _ => exact ⟨[(1, 0, 1), (2, 0, 1), (2, 1, 1), (0, 2, 2)], by decide, by decide⟩
  | 2, _ => exact ⟨[(2, 0, 1), (2, 0, 1), (0, 2, 2)], by decide, by decide⟩
  | 3, _ => exact ⟨[(2, 0, 1), (3, 2, 1), (0, 3, 1)], by decide, by decide⟩
  | i + 4, hi => omega
theorem gd_5_1133 : Gd 5 [1, 1, 3, 3] 1 1 0 := by
  intro i hi
  match i, hi with
  | 0, _ => exact ⟨[(0, 2, 1), (1, 0, 1), (2, 1, 1)], by decide, by decide⟩
  | 1, _ => exact ⟨[(1, 2, 1), (3, 2, 2), (3, 1, 1), (2, 3, 3)], by decide, by decide⟩
  | 2, _ => exact ⟨[(3, 2, 2), (2, 3, 1), (3, 2, 2), (2, 3, 3)], by decide, by decide⟩
  | 3, _ => exact ⟨[(3, 2, 1), (3, 2, 1), (2, 3, 2)], by decide, by decide⟩
  | i + 4, hi => omega
theorem gd_5_1313 : Gd 5 [1, 3, 1, 3] 1 0 1 := by
  intro i hi
  match i, hi with
  | 0, _ => exact ⟨[(0, 1, 1), (2, 0, 1), (1, 2, 1)], by decide, by decide⟩
  | 1, _ => exact ⟨[(2, 1, 1), (3, 1, 2), (3, 2, 1), (1, 3, 3)], by decide, by decide⟩
  | 2, _ => exact ⟨[(3, 1, 2), (1, 3, 1), (3, 1, 2), (1, 3, 3)], by decide, by decide⟩
  | 3, _ => exact ⟨[(3, 1, 1), (3, 1, 1), (1, 3, 2)], by decide, by decide⟩
  | i + 4, hi => omega
theorem gd_5_1331 : Gd 5 [1, 3, 3, 1] 0 2 2 := by
  intro i hi
  match i, hi with
  | 0, _ => exact ⟨[(1, 0, 1), (1, 2, 1), (0, 1, 1), (2, 1, 1)], by decide, by decide⟩
  | 1, _ => exact ⟨[(1, 0, 1), (2, 1, 2), (0, 2, 1), (1, 2, 1)], by decide, by decide⟩
  | 2, _ => exact ⟨[(2, 0, 1), (2, 1, 1), (0, 2, 1), (1, 2, 1)], by decide, by decide⟩
  | 3, _ => exact ⟨[(2, 0, 1), (3, 2, 1), (0, 3, 1)], by decide, by decide⟩
  | i + 4, hi => omega
theorem gd_5_3113 : Gd 5 [3, 1, 1, 3] 2 1 1 := by
  intro i hi
  match i, hi with
  | 0, _ => exact ⟨[(0, 3, 1), (0, 3, 1), (3, 0, 2)], by decide, by decide⟩
  | 1, _ => exact ⟨[(0, 3, 1), (1, 0, 1), (3, 1, 1)], by decide, by decide⟩
  | 2, _ => exact ⟨[(1, 0, 1), (2, 1, 1), (0, 2, 1)], by decide, by decide⟩
  | 3, _ => exact ⟨[(2, 0, 1), (3, 2, 1), (0, 3, 1)], by decide, by decide⟩
  | i + 4, hi => omega
theorem gd_5_3131 : Gd 5 [3, 1, 3, 1] 2 1 1 := by
  intro i hi
  match i, hi with
  | 0, _ => exact ⟨[(0, 2, 1), (0, 2, 1), (2, 0, 2)], by decide, by decide⟩
  | 1, _ => exact ⟨[(0, 2, 1), (1, 0, 1), (2, 1, 1)], by decide, by decide⟩
  | 2, _ => exact ⟨[(1, 0, 1), (2, 1, 1), (0, 2, 1)], by decide, by decide⟩
  | 3, _ => exact ⟨[(2, 0, 1), (3, 2, 1), (0, 3, 1)], by decide, by decide⟩
  | i + 4, hi => omega
theorem gd_5_3311 : Gd 5 [3, 3, 1, 1] 2 1 1 := by
  intro i hi
  match i, hi with
  | 0, _ => exact ⟨[(0, 1, 1), (0, 1, 1), (1, 0, 2)], by decide, by decide⟩
  | 1, _ => exact ⟨[(0, 1, 1), (1, 0, 2), (0, 1, 1)], by decide, by decide⟩
  | 2, _ => exact ⟨[(1, 0, 1), (2, 1, 1), (0, 2, 1)], by decide, by decide⟩
  | 3, _ => exact ⟨[(2, 0, 1), (3, 2, 1), (0, 3, 1)], by decide, by decide⟩
  | i + 4, hi => omega
