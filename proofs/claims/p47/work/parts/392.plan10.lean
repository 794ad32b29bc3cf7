/-! ===== decode after code, code after decode ===== -/
theorem lss_cg {f g : Nat → Nat} {n i : Nat} (hi : f i = g i) (h : ∀ j, j < n → f j = g j) : ∀ d j, j + d ≤ n → lss f i d j = lss g i d j
  | 0, j, _ => rfl
  | d + 1, j, hj => by
    show (if f j < f i then 1 else 0) + lss f i d (j + 1) = (if g j < g i then 1 else 0) + lss g i d (j + 1)
    rw [lss_cg hi h d (j + 1) (by omega), hi, h j (by omega)]
theorem leh_cg {f g : Nat → Nat} {n : Nat} (h : ∀ j, j < n → f j = g j) : ∀ d i c, i + d = n → leh f n d i c = leh g n d i c
  | 0, i, c, _ => rfl
  | d + 1, i, c, hi => by
    show leh f n d (i + 1) (c * (n - i) + lss f i (n - (i + 1)) (i + 1)) = leh g n d (i + 1) (c * (n - i) + lss g i (n - (i + 1)) (i + 1))
    rw [lss_cg (h i (by omega)) h _ _ (by omega)]
    exact leh_cg h d (i + 1) _ (by omega)
def tup (a b c d e i : Nat) : Nat := if i = 0 then a else if i = 1 then b else if i = 2 then c else if i = 3 then d else e
def ordOk (n : Nat) (f : Nat → Nat) : Bool := (List.range n).all (fun i => decide (f i < n) && (List.range n).all (fun j => i == j || !(f i == f j)))
def lhOk (n : Nat) (f : Nat → Nat) : Bool := bif ordOk n f then (decide (leh f n n 0 0 < fcN n) && (List.range n).all (fun i => decide (chP n (leh f n n 0 0) i = f i))) else true
theorem lhOk_all : ((List.range 6).all (fun n => (List.range 5).all (fun a => (List.range 5).all (fun b => (List.range 5).all (fun c => (List.range 5).all (fun d => (List.range 5).all (fun e => lhOk n (tup a b c d e)))))))) = true := by decide +kernel
theorem lhI {n : Nat} {f : Nat → Nat} (hn : n ≤ 5) (hf : ∀ i, i < n → f i < n) (inj : ∀ i j, i < n → j < n → f i = f j → i = j) : leh f n n 0 0 < fcN n ∧ ∀ i, i < n → chP n (leh f n n 0 0) i = f i := by
  let g : Nat → Nat := fun i => if i < n then f i else 0
  have gl : ∀ i, g i < 5 := fun i => by
    show (if i < n then f i else 0) < 5
    by_cases c : i < n
    · rw [if_pos c]; have := hf i c; omega
    · rw [if_neg c]; omega
  let t := tup (g 0) (g 1) (g 2) (g 3) (g 4)
  have et : ∀ j, j < n → t j = f j := fun j hj => by
    have e : g j = f j := if_pos hj
    rw [← e]
    rcases (show j = 0 ∨ j = 1 ∨ j = 2 ∨ j = 3 ∨ j = 4 by omega) with rfl | rfl | rfl | rfl | rfl <;> rfl
  have q := List.all_eq_true.mp lhOk_all n (List.mem_range.mpr (by omega))
  have q := List.all_eq_true.mp q (g 0) (List.mem_range.mpr (gl 0))
  have q := List.all_eq_true.mp q (g 1) (List.mem_range.mpr (gl 1))
  have q := List.all_eq_true.mp q (g 2) (List.mem_range.mpr (gl 2))
  have q := List.all_eq_true.mp q (g 3) (List.mem_range.mpr (gl 3))
  have q : lhOk n t = true := List.all_eq_true.mp q (g 4) (List.mem_range.mpr (gl 4))
  have o : ordOk n t = true := by
    unfold ordOk
    refine List.all_eq_true.mpr (fun i hi => ?_)
    have hi := List.mem_range.mp hi
    rw [Bool.and_eq_true]
    refine ⟨decide_eq_true (by rw [et i hi]; exact hf i hi), List.all_eq_true.mpr (fun j hj => ?_)⟩
    have hj := List.mem_range.mp hj
    rw [et i hi, et j hj]
    by_cases c : i = j
    · simp [c]
    · have : ¬ f i = f j := fun e => c (inj i j hi hj e)
      simp [c, this]
  unfold lhOk at q
  rw [o] at q
  have q : (decide (leh t n n 0 0 < fcN n) && (List.range n).all (fun i => decide (chP n (leh t n n 0 0) i = t i))) = true := q
  rw [Bool.and_eq_true, leh_cg et n 0 0 (by omega)] at q
  refine ⟨of_decide_eq_true q.1, fun i hi => ?_⟩
  have := of_decide_eq_true (List.all_eq_true.mp q.2 i (List.mem_range.mpr hi))
  rw [this, et i hi]
/-- decode after code: the same STACKS -/
theorem dco {S T : SS} {n : Nat} {f : Nat → Nat} (hp : PWd S n) (hf : Rk S n f) (hoff : off S 4 = n) (inj : ∀ i j, i < n → j < n → f i = f j → i = j) (hr : ∀ i, i < n → f i < n) (hW : WR T) (h81 : T.1 0 81 = S.1 0 81) (h54 : ∀ j, T.1 54 j = S.1 54 j) : Ew (f_M_decode (nI (cdN S n f)) T) (fun U => WR U ∧ Fr [57, 58, 59] [] T U ∧ (∀ s, s < 4 → mN U s = mN S s) ∧ (∀ s j, s < 4 → j < mN S s → U.1 57 (10 * s + j) = S.1 57 (10 * s + j)) ∧ cfS U = cfS S) := by
  obtain ⟨l1, l2⟩ := lhI hp.2.1 hr inj
  have o4 : 0 + mN S 0 + mN S 1 + mN S 2 + mN S 3 = n := hoff
  have r := dex (S := T) (n := n) (L := leh f n n 0 0) (m0 := mN S 0) (m1 := mN S 1) (m2 := mN S 2) (c := cdN S n f) hW (by rw [h81]; exact hp.1) hp.2.1 l1 (by omega) rfl
  refine v_mono r (fun U hU => ?_)
  obtain ⟨u1, u2, u3, u4, u5, u6, u7⟩ := hU
  have um : ∀ s, s < 4 → mN U s = mN S s := fun s hs => by
    rcases (show s = 0 ∨ s = 1 ∨ s = 2 ∨ s = 3 by omega) with rfl | rfl | rfl | rfl
    · exact u3
    · exact u4
    · exact u5
    · rw [u6]; omega
  have uo : ∀ s, s < 4 → off U s = off S s := fun s hs => by
    rcases (show s = 0 ∨ s = 1 ∨ s = 2 ∨ s = 3 by omega) with rfl | rfl | rfl | rfl
    · rfl
    · show 0 + mN U 0 = 0 + mN S 0
      rw [u3]
    · show 0 + mN U 0 + mN U 1 = 0 + mN S 0 + mN S 1
      rw [u3, u4]
    · show 0 + mN U 0 + mN U 1 + mN U 2 = 0 + mN S 0 + mN S 1 + mN S 2
      rw [u3, u4, u5]
  have uv : ∀ s j, s < 4 → j < mN S s → U.1 57 (10 * s + j) = S.1 57 (10 * s + j) := fun s j hs hj => by
    have hl := off_le S hs
    rw [u7 s j hs (by rw [um s hs]; exact hj), uo s hs, l2 _ (by omega), h54, (hf s j hs hj).2]
  refine ⟨u1, u2, um, uv, funext (fun s => ?_)⟩
  by_cases c : s < 4
  · unfold cfS
    rw [if_pos c, if_pos c, um s c]
    refine List.map_congr_left (fun j hj => ?_)
    unfold wN
    rw [uv s j c (List.mem_range.mp hj)]
  · rw [cfS_far U (by omega), cfS_far S (by omega)]
/-- code after decode: the same number -/
theorem cod {S : SS} {n L m0 m1 m2 c : Nat} (hW : WR S) (hp : PWd S n) (hL : L < fcN n) (hm : m0 + m1 + m2 ≤ n) (hc : c = L * 216 + m0 * 36 + m1 * 6 + m2) : Ew (f_M_decode (nI c) S) (fun U => WR U ∧ Fr [57, 58, 59] [] S U ∧ PWd U n ∧ Rk U n (chP n L) ∧ off U 4 = n ∧ cdN U n (chP n L) = c) := by
  obtain ⟨g1, g2, g3⟩ := ch_i hp.2.1 hL
  refine v_mono (dex hW hp.1 hp.2.1 hL hm hc) (fun U hU => ?_)
  obtain ⟨u1, u2, u3, u4, u5, u6, u7⟩ := hU
  have o4 : off U 4 = n := by
    show 0 + mN U 0 + mN U 1 + mN U 2 + mN U 3 = n
    omega
  have e54 : ∀ j, U.1 54 j = S.1 54 j := fun j => u2.1 54 j rfl
  refine ⟨u1, u2, ⟨by rw [u2.1 0 81 rfl]; exact hp.1, hp.2.1, fun i j h1 h2 h3 => hp.2.2 i j h1 h2 (by rw [← e54, ← e54]; exact h3)⟩, fun s i hs hi => ?_, o4, ?_⟩
  · have hl := off_le U hs
    exact ⟨(g1 _ (by omega)).2.1, by rw [e54, u7 s i hs hi]⟩
  · unfold cdN
    rw [g2, u3, u4, u5, hc]
