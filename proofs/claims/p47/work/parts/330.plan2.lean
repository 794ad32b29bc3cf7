/-! ===== STACKS as lists: MOVES, and how far one row of STACKS is from another ===== -/
abbrev Cf : Type := Nat → List Nat
def mvd (a b n : Nat) (X : Cf) : Cf := fun s => if s = a then (X a).take ((X a).length - n) else if s = b then X b ++ (X a).drop ((X a).length - n) else X s
def Mv (R : Nat → Nat) (X Z : Cf) : Prop := ∃ a b n : Nat, a < 4 ∧ b < 4 ∧ a ≠ b ∧ 1 ≤ n ∧ n ≤ (X a).length ∧ (X b).length + n ≤ R b ∧ Z = mvd a b n X
/-- at most k MOVES lead there -/
def Rc (R : Nat → Nat) : Nat → Cf → Cf → Prop
  | 0, X, Y => X = Y
  | k + 1, X, Y => X = Y ∨ ∃ Z, Mv R X Z ∧ Rc R k Z Y
def Fit (R : Nat → Nat) (X : Cf) : Prop := ∀ s, s < 4 → (X s).length ≤ R s
def tot (X : Cf) : Nat := (X 0).length + (X 1).length + (X 2).length + (X 3).length
theorem mvd_len {a b n : Nat} {X : Cf} (hab : a ≠ b) (hn : n ≤ (X a).length) (s : Nat) : (mvd a b n X s).length = if s = a then (X a).length - n else if s = b then (X b).length + n else (X s).length := by
  unfold mvd
  by_cases h1 : s = a
  · rw [if_pos h1, if_pos h1, List.length_take]; omega
  · rw [if_neg h1, if_neg h1]
    by_cases h2 : s = b
    · rw [if_pos h2, if_pos h2, List.length_append, List.length_drop]; omega
    · rw [if_neg h2, if_neg h2]
theorem Mv.fit {R : Nat → Nat} {X Z : Cf} (hf : Fit R X) (h : Mv R X Z) : Fit R Z := by
  obtain ⟨a, b, n, ha, hb, hab, h1, h2, h3, rfl⟩ := h
  intro s hs
  rw [mvd_len hab h2]
  have := hf s hs
  by_cases c1 : s = a
  · subst c1; rw [if_pos rfl]; omega
  · rw [if_neg c1]
    by_cases c2 : s = b
    · subst c2; rw [if_pos rfl]; omega
    · rw [if_neg c2]; exact this
theorem mv_tot {R : Nat → Nat} {X Z : Cf} (h : Mv R X Z) : tot Z = tot X := by
  obtain ⟨a, b, n, ha, hb, hab, h1, h2, h3, rfl⟩ := h
  unfold tot
  rw [mvd_len hab h2, mvd_len hab h2, mvd_len hab h2, mvd_len hab h2]
  rcases (show a = 0 ∨ a = 1 ∨ a = 2 ∨ a = 3 by omega) with rfl | rfl | rfl | rfl <;> rcases (show b = 0 ∨ b = 1 ∨ b = 2 ∨ b = 3 by omega) with rfl | rfl | rfl | rfl <;> simp at hab h2 ⊢ <;> omega
theorem mvd_rev {a b n : Nat} {X : Cf} (hab : a ≠ b) (hn : n ≤ (X a).length) : mvd b a n (mvd a b n X) = X := by
  have e1 : mvd a b n X b = X b ++ (X a).drop ((X a).length - n) := by
    unfold mvd; rw [if_neg (Ne.symm hab), if_pos rfl]
  have e2 : mvd a b n X a = (X a).take ((X a).length - n) := by
    unfold mvd; rw [if_pos rfl]
  have l1 : (mvd a b n X b).length - n = (X b).length := by
    rw [e1, List.length_append, List.length_drop]; omega
  funext s
  show (if s = b then (mvd a b n X b).take ((mvd a b n X b).length - n) else if s = a then mvd a b n X a ++ (mvd a b n X b).drop ((mvd a b n X b).length - n) else mvd a b n X s) = X s
  rw [l1]
  by_cases c1 : s = b
  · subst c1
    rw [if_pos rfl, e1, List.take_left]
  · rw [if_neg c1]
    by_cases c2 : s = a
    · subst c2
      rw [if_pos rfl, e1, e2, List.drop_left, List.take_append_drop]
    · rw [if_neg c2]
      unfold mvd
      rw [if_neg c2, if_neg c1]
theorem Mv.rev {R : Nat → Nat} {X Z : Cf} (hf : Fit R X) (h : Mv R X Z) : Mv R Z X := by
  obtain ⟨a, b, n, ha, hb, hab, h1, h2, h3, rfl⟩ := h
  refine ⟨b, a, n, hb, ha, Ne.symm hab, h1, ?_, ?_, (mvd_rev hab h2).symm⟩
  · rw [mvd_len hab h2, if_neg (Ne.symm hab), if_pos rfl]; omega
  · rw [mvd_len hab h2, if_pos rfl]
    have := hf a ha
    omega
theorem Rc.refl (R : Nat → Nat) (k : Nat) (X : Cf) : Rc R k X X := by
  cases k with
  | zero => rfl
  | succ k => exact Or.inl rfl
theorem Rc.mono {R : Nat → Nat} : ∀ {k l : Nat} {X Y : Cf}, k ≤ l → Rc R k X Y → Rc R l X Y
  | 0, l, X, Y, _, h => by
    have h : X = Y := h
    subst h; exact Rc.refl R l X
  | k + 1, 0, X, Y, hl, h => by omega
  | k + 1, l + 1, X, Y, hl, h => by
    rcases h with h | ⟨Z, h1, h2⟩
    · exact Or.inl h
    · exact Or.inr ⟨Z, h1, Rc.mono (by omega) h2⟩
theorem Rc.trans {R : Nat → Nat} : ∀ {k l : Nat} {X Y Z : Cf}, Rc R k X Y → Rc R l Y Z → Rc R (k + l) X Z
  | 0, l, X, Y, Z, h1, h2 => by
    have h1 : X = Y := h1
    subst h1; rw [Nat.zero_add]; exact h2
  | k + 1, l, X, Y, Z, h1, h2 => by
    rcases h1 with h1 | ⟨V, h1, h3⟩
    · subst h1; exact Rc.mono (by omega) h2
    · rw [show k + 1 + l = (k + l) + 1 by omega]
      exact Or.inr ⟨V, h1, Rc.trans h3 h2⟩
theorem Rc.one {R : Nat → Nat} {X Y : Cf} (h : Mv R X Y) : Rc R 1 X Y := Or.inr ⟨Y, h, rfl⟩
theorem Rc.fit {R : Nat → Nat} : ∀ {k : Nat} {X Y : Cf}, Fit R X → Rc R k X Y → Fit R Y
  | 0, X, Y, hf, h => by
    have h : X = Y := h
    subst h; exact hf
  | k + 1, X, Y, hf, h => by
    rcases h with h | ⟨Z, h1, h2⟩
    · subst h; exact hf
    · exact Rc.fit (h1.fit hf) h2
theorem rc_tot {R : Nat → Nat} : ∀ {k : Nat} {X Y : Cf}, Rc R k X Y → tot Y = tot X
  | 0, X, Y, h => by
    have h : X = Y := h
    subst h; rfl
  | k + 1, X, Y, h => by
    rcases h with h | ⟨Z, h1, h2⟩
    · subst h; rfl
    · rw [rc_tot h2, mv_tot h1]
theorem Rc.rev {R : Nat → Nat} : ∀ {k : Nat} {X Y : Cf}, Fit R X → Rc R k X Y → Rc R k Y X
  | 0, X, Y, hf, h => by
    have h : X = Y := h
    exact h.symm
  | k + 1, X, Y, hf, h => by
    rcases h with h | ⟨Z, h1, h2⟩
    · subst h; exact Rc.refl R _ X
    · exact Rc.trans (Rc.rev (h1.fit hf) h2) (Rc.one (h1.rev hf))
theorem Mv.le {R R' : Nat → Nat} (hR : ∀ s, s < 4 → R s ≤ R' s) {X Z : Cf} (h : Mv R X Z) : Mv R' X Z := by
  obtain ⟨a, b, n, ha, hb, hab, h1, h2, h3, rfl⟩ := h
  exact ⟨a, b, n, ha, hb, hab, h1, h2, Nat.le_trans h3 (hR b hb), rfl⟩
theorem Rc.le {R R' : Nat → Nat} (hR : ∀ s, s < 4 → R s ≤ R' s) : ∀ {k : Nat} {X Y : Cf}, Rc R k X Y → Rc R' k X Y
  | 0, X, Y, h => h
  | k + 1, X, Y, h => by
    rcases h with h | ⟨Z, h1, h2⟩
    · exact Or.inl h
    · exact Or.inr ⟨Z, h1.le hR, Rc.le hR h2⟩
def mpc (f : Nat → Nat) (X : Cf) : Cf := fun s => (X s).map f
theorem mvd_map (f : Nat → Nat) (a b n : Nat) (X : Cf) : mvd a b n (mpc f X) = mpc f (mvd a b n X) := by
  funext s
  show (if s = a then ((X a).map f).take (((X a).map f).length - n) else if s = b then (X b).map f ++ ((X a).map f).drop (((X a).map f).length - n) else (X s).map f) = (if s = a then (X a).take ((X a).length - n) else if s = b then X b ++ (X a).drop ((X a).length - n) else X s).map f
  rw [List.length_map]
  by_cases c1 : s = a
  · rw [if_pos c1, if_pos c1, List.map_take]
  · rw [if_neg c1, if_neg c1]
    by_cases c2 : s = b
    · rw [if_pos c2, if_pos c2, List.map_append, List.map_drop]
    · rw [if_neg c2, if_neg c2]
theorem Mv.map {R : Nat → Nat} (f : Nat → Nat) {X Z : Cf} (h : Mv R X Z) : Mv R (mpc f X) (mpc f Z) := by
  obtain ⟨a, b, n, ha, hb, hab, h1, h2, h3, rfl⟩ := h
  refine ⟨a, b, n, ha, hb, hab, h1, ?_, ?_, (mvd_map f a b n X).symm⟩
  · show n ≤ ((X a).map f).length
    rw [List.length_map]; exact h2
  · show ((X b).map f).length + n ≤ R b
    rw [List.length_map]; exact h3
theorem Rc.map {R : Nat → Nat} (f : Nat → Nat) : ∀ {k : Nat} {X Y : Cf}, Rc R k X Y → Rc R k (mpc f X) (mpc f Y)
  | 0, X, Y, h => by
    have h : X = Y := h
    subst h; rfl
  | k + 1, X, Y, h => by
    rcases h with h | ⟨Z, h1, h2⟩
    · subst h; exact Or.inl rfl
    · exact Or.inr ⟨_, h1.map f, Rc.map f h2⟩
/-! a lowest WAGON that never moves -/
def csC (s b : Nat) (X : Cf) : Cf := fun t => if t = s then b :: X s else X t
def Rd (s : Nat) (R : Nat → Nat) : Nat → Nat := fun t => if t = s then R s - 1 else R t
theorem csC_self (s b : Nat) (X : Cf) : csC s b X s = b :: X s := by unfold csC; rw [if_pos rfl]
theorem csC_ne {s t : Nat} (b : Nat) (X : Cf) (h : t ≠ s) : csC s b X t = X t := by unfold csC; rw [if_neg h]
theorem mvd_cs {s w a b n : Nat} {X : Cf} (hab : a ≠ b) (hn : n ≤ (X a).length) : mvd a b n (csC s w X) = csC s w (mvd a b n X) := by
  funext t
  by_cases ca : a = s
  · subst ca
    have l : (csC a w X a).length - n = ((X a).length - n) + 1 := by rw [csC_self, List.length_cons]; omega
    by_cases c1 : t = a
    · subst c1
      rw [csC_self]
      unfold mvd
      rw [if_pos rfl, if_pos rfl, l, csC_self, List.take_succ_cons]
    · rw [csC_ne _ _ c1]
      unfold mvd
      rw [if_neg c1, if_neg c1]
      by_cases c2 : t = b
      · subst c2
        rw [if_pos rfl, if_pos rfl, l, csC_self, List.drop_succ_cons, csC_ne _ _ c1]
      · rw [if_neg c2, if_neg c2, csC_ne _ _ c1]
  · have ea : csC s w X a = X a := csC_ne _ _ ca
    by_cases c1 : t = a
    · subst c1
      rw [csC_ne _ _ ca]
      unfold mvd
      rw [if_pos rfl, if_pos rfl, ea]
    · by_cases c2 : t = b
      · subst c2
        by_cases cs : t = s
        · subst cs
          rw [csC_self]
          unfold mvd
          rw [if_neg c1, if_pos rfl, if_neg c1, if_pos rfl, ea, csC_self, List.cons_append]
        · rw [csC_ne _ _ cs]
          unfold mvd
          rw [if_neg c1, if_pos rfl, if_neg c1, if_pos rfl, ea, csC_ne _ _ cs]
      · by_cases cs : t = s
        · subst cs
          rw [csC_self]
          unfold mvd
          rw [if_neg c1, if_neg c2, if_neg c1, if_neg c2, csC_self]
        · rw [csC_ne _ _ cs]
          unfold mvd
          rw [if_neg c1, if_neg c2, if_neg c1, if_neg c2, csC_ne _ _ cs]
theorem Mv.cs {R : Nat → Nat} {s w : Nat} (hR : 1 ≤ R s) {X Z : Cf} (h : Mv (Rd s R) X Z) : Mv R (csC s w X) (csC s w Z) := by
  obtain ⟨a, b, n, ha, hb, hab, h1, h2, h3, rfl⟩ := h
  refine ⟨a, b, n, ha, hb, hab, h1, ?_, ?_, (mvd_cs hab h2).symm⟩
  · by_cases c : a = s
    · subst c; rw [csC_self, List.length_cons]; omega
    · rw [csC_ne _ _ c]; exact h2
  · unfold Rd at h3
    by_cases c : b = s
    · subst c; rw [csC_self, List.length_cons]; rw [if_pos rfl] at h3; omega
    · rw [csC_ne _ _ c]; rw [if_neg c] at h3; exact h3
theorem Rc.cs {R : Nat → Nat} {s w : Nat} (hR : 1 ≤ R s) : ∀ {k : Nat} {X Y : Cf}, Rc (Rd s R) k X Y → Rc R k (csC s w X) (csC s w Y)
  | 0, X, Y, h => by
    have h : X = Y := h
    subst h; rfl
  | k + 1, X, Y, h => by
    rcases h with h | ⟨Z, h1, h2⟩
    · subst h; exact Or.inl rfl
    · exact Or.inr ⟨_, h1.cs hR, Rc.cs hR h2⟩
/-- the ROOM of the other STACKS -/
def oth (s : Nat) (R : Nat → Nat) : Nat := (if s = 0 then 0 else R 0) + (if s = 1 then 0 else R 1) + (if s = 2 then 0 else R 2) + (if s = 3 then 0 else R 3)
theorem oth_ne {s : Nat} {R : Nat → Nat} {X : Cf} (hs : s < 4) (hf : Fit R X) (h : oth s R < tot X) : ∃ w xs, X s = w :: xs := by
  have h0 := hf 0 (by omega); have h1 := hf 1 (by omega); have h2 := hf 2 (by omega); have h3 := hf 3 (by omega)
  cases e : X s with
  | cons w xs => exact ⟨w, xs, rfl⟩
  | nil =>
    have l : (X s).length = 0 := by rw [e]; rfl
    unfold oth tot at h
    rcases (show s = 0 ∨ s = 1 ∨ s = 2 ∨ s = 3 by omega) with rfl | rfl | rfl | rfl <;> simp at h <;> omega
theorem csC_inj {s w w' : Nat} {X Y : Cf} (h : csC s w X = csC s w' Y) : w = w' ∧ X = Y := by
  have hs : w :: X s = w' :: Y s := by
    have := congrFun h s
    rw [csC_self, csC_self] at this
    exact this
  injection hs with h1 h2
  refine ⟨h1, funext fun t => ?_⟩
  by_cases c : t = s
  · subst c; exact h2
  · have := congrFun h t
    rw [csC_ne _ _ c, csC_ne _ _ c] at this
    exact this
theorem csC_of {s w : Nat} {xs : List Nat} {X : Cf} (h : X s = w :: xs) : X = csC s w (fun t => if t = s then xs else X t) := by
  funext t
  by_cases c : t = s
  · subst c; rw [csC_self, if_pos rfl]; exact h
  · rw [csC_ne _ _ c, if_neg c]
theorem tot_cs {s w : Nat} {X : Cf} (hs : s < 4) : tot (csC s w X) = tot X + 1 := by
  unfold tot csC
  rcases (show s = 0 ∨ s = 1 ∨ s = 2 ∨ s = 3 by omega) with rfl | rfl | rfl | rfl <;> simp <;> omega
theorem Fit.un {R : Nat → Nat} {s w : Nat} {X : Cf} (hs : s < 4) (h : Fit R (csC s w X)) : Fit (Rd s R) X := by
  intro t ht
  have := h t ht
  unfold Rd
  by_cases c : t = s
  · subst c; rw [if_pos rfl]; rw [csC_self, List.length_cons] at this; omega
  · rw [if_neg c]; rw [csC_ne _ _ c] at this; exact this
theorem Mv.un {R : Nat → Nat} {s w : Nat} {X Z : Cf} (hs : s < 4) (hf : Fit R (csC s w X)) (hO : oth s R < tot (csC s w X)) (h : Mv R (csC s w X) Z) : ∃ Z', Z = csC s w Z' ∧ Mv (Rd s R) X Z' := by
  have hZf := h.fit hf
  have hZt := mv_tot h
  obtain ⟨w', zs, hz⟩ := oth_ne hs hZf (by rw [hZt]; exact hO)
  obtain ⟨a, b, n, ha, hb, hab, h1, h2, h3, rfl⟩ := h
  have hn : n ≤ (X a).length := by
    by_cases c : a = s
    · subst c
      rw [csC_self, List.length_cons] at h2
      have l := mvd_len hab (X := csC a w X) (n := n) (by rw [csC_self, List.length_cons]; exact h2) a
      rw [hz, if_pos rfl, csC_self, List.length_cons, List.length_cons] at l
      omega
    · rw [csC_ne _ _ c] at h2; exact h2
  refine ⟨mvd a b n X, mvd_cs hab hn, a, b, n, ha, hb, hab, h1, hn, ?_, rfl⟩
  unfold Rd
  by_cases c : b = s
  · subst c; rw [if_pos rfl]; rw [csC_self, List.length_cons] at h3; omega
  · rw [if_neg c]; rw [csC_ne _ _ c] at h3; exact h3
theorem Rc.un {R : Nat → Nat} {s w : Nat} (hs : s < 4) : ∀ {k : Nat} {X Y : Cf}, Fit R (csC s w X) → oth s R < tot (csC s w X) → Rc R k (csC s w X) Y → ∃ Y', Y = csC s w Y' ∧ Rc (Rd s R) k X Y'
  | 0, X, Y, hf, hO, h => ⟨X, (show csC s w X = Y from h).symm, rfl⟩
  | k + 1, X, Y, hf, hO, h => by
    rcases h with h | ⟨Z, h1, h2⟩
    · exact ⟨X, h.symm, Or.inl rfl⟩
    · have hZt := mv_tot h1
      have hZf := h1.fit hf
      obtain ⟨Z', rfl, h3⟩ := h1.un hs hf hO
      obtain ⟨Y', rfl, h4⟩ := Rc.un hs hZf (by rw [hZt]; exact hO) h2
      exact ⟨Y', rfl, Or.inr ⟨Z', h3, h4⟩⟩
def Flat (X : Cf) : List Nat := X 0 ++ X 1 ++ X 2 ++ X 3
theorem ct_split (l : List Nat) (n w : Nat) : (l.take n).count w + (l.drop n).count w = l.count w := by
  rw [← List.count_append, List.take_append_drop]
theorem mv_count {R : Nat → Nat} {X Z : Cf} (h : Mv R X Z) (w : Nat) : (Flat Z).count w = (Flat X).count w := by
  obtain ⟨a, b, n, ha, hb, hab, h1, h2, h3, rfl⟩ := h
  have hc := ct_split (X a) ((X a).length - n) w
  have key : ∀ s, (mvd a b n X s).count w = if s = a then ((X a).take ((X a).length - n)).count w else if s = b then (X b).count w + ((X a).drop ((X a).length - n)).count w else (X s).count w := fun s => by
    unfold mvd
    by_cases c1 : s = a
    · rw [if_pos c1, if_pos c1]
    · rw [if_neg c1, if_neg c1]
      by_cases c2 : s = b
      · rw [if_pos c2, if_pos c2, List.count_append]
      · rw [if_neg c2, if_neg c2]
  unfold Flat
  rw [List.count_append, List.count_append, List.count_append, List.count_append, List.count_append, List.count_append, key, key, key, key]
  rcases (show a = 0 ∨ a = 1 ∨ a = 2 ∨ a = 3 by omega) with rfl | rfl | rfl | rfl <;> rcases (show b = 0 ∨ b = 1 ∨ b = 2 ∨ b = 3 by omega) with rfl | rfl | rfl | rfl <;> simp at hab hc ⊢ <;> omega
theorem rc_count {R : Nat → Nat} : ∀ {k : Nat} {X Y : Cf}, Rc R k X Y → ∀ w, (Flat Y).count w = (Flat X).count w
  | 0, X, Y, h, w => by
    have h : X = Y := h
    subst h; rfl
  | k + 1, X, Y, h, w => by
    rcases h with h | ⟨Z, h1, h2⟩
    · subst h; rfl
    · rw [rc_count h2 w, mv_count h1 w]
theorem mv_far {R : Nat → Nat} {X Z : Cf} (h : Mv R X Z) {s : Nat} (hs : 4 ≤ s) : Z s = X s := by
  obtain ⟨a, b, n, ha, hb, hab, h1, h2, h3, rfl⟩ := h
  unfold mvd
  rw [if_neg (by omega), if_neg (by omega)]
theorem rc_far {R : Nat → Nat} : ∀ {k : Nat} {X Y : Cf}, Rc R k X Y → ∀ {s : Nat}, 4 ≤ s → Y s = X s
  | 0, X, Y, h, s, hs => by
    have h : X = Y := h
    subst h; rfl
  | k + 1, X, Y, h, s, hs => by
    rcases h with h | ⟨Z, h1, h2⟩
    · subst h; rfl
    · rw [rc_far h2 hs, mv_far h1 hs]
/-- how much stands above the ROOM R0 -/
def exc (R0 : Nat → Nat) (X : Cf) : Nat := ((X 0).length - R0 0) + ((X 1).length - R0 1) + ((X 2).length - R0 2) + ((X 3).length - R0 3)
theorem to_base {R R0 : Nat → Nat} (hR : ∀ s, s < 4 → R0 s ≤ R s) : ∀ (e : Nat) (X : Cf), tot X ≤ R0 0 + R0 1 + R0 2 + R0 3 → exc R0 X ≤ e → ∃ X1, Rc R e X X1 ∧ Fit R0 X1
  | 0, X, ht, he => ⟨X, rfl, fun s hs => by
      unfold exc at he
      rcases (show s = 0 ∨ s = 1 ∨ s = 2 ∨ s = 3 by omega) with rfl | rfl | rfl | rfl <;> omega⟩
  | e + 1, X, ht, he => by
    by_cases h0 : exc R0 X = 0
    · obtain ⟨X1, h1, h2⟩ := to_base hR e X ht (by omega)
      exact ⟨X1, Rc.mono (by omega) h1, h2⟩
    · have hs : ∃ s, s < 4 ∧ R0 s < (X s).length := by
        unfold exc at h0
        by_cases c0 : R0 0 < (X 0).length
        · exact ⟨0, by omega, c0⟩
        · by_cases c1 : R0 1 < (X 1).length
          · exact ⟨1, by omega, c1⟩
          · by_cases c2 : R0 2 < (X 2).length
            · exact ⟨2, by omega, c2⟩
            · exact ⟨3, by omega, by omega⟩
      have htt : ∃ t, t < 4 ∧ (X t).length < R0 t := by
        obtain ⟨s, hs1, hs2⟩ := hs
        unfold tot at ht
        by_cases c0 : (X 0).length < R0 0
        · exact ⟨0, by omega, c0⟩
        · by_cases c1 : (X 1).length < R0 1
          · exact ⟨1, by omega, c1⟩
          · by_cases c2 : (X 2).length < R0 2
            · exact ⟨2, by omega, c2⟩
            · refine ⟨3, by omega, ?_⟩
              rcases (show s = 0 ∨ s = 1 ∨ s = 2 ∨ s = 3 by omega) with rfl | rfl | rfl | rfl <;> omega
      obtain ⟨s, hs1, hs2⟩ := hs
      obtain ⟨t, ht1, ht2⟩ := htt
      have hst : s ≠ t := fun k => by subst k; omega
      have hm : Mv R X (mvd s t 1 X) := ⟨s, t, 1, hs1, ht1, hst, by omega, by omega, by have := hR t ht1; omega, rfl⟩
      have l := fun q => mvd_len hst (X := X) (n := 1) (by omega) q
      obtain ⟨X1, h1, h2⟩ := to_base hR e (mvd s t 1 X) (by rw [mv_tot hm]; exact ht) (by
        unfold exc at he ⊢
        rw [l, l, l, l]
        rcases (show s = 0 ∨ s = 1 ∨ s = 2 ∨ s = 3 by omega) with rfl | rfl | rfl | rfl <;> rcases (show t = 0 ∨ t = 1 ∨ t = 2 ∨ t = 3 by omega) with rfl | rfl | rfl | rfl <;> simp at hst hs2 ht2 ⊢ <;> omega)
      exact ⟨X1, Or.inr ⟨_, hm, h1⟩, h2⟩
