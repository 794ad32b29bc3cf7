/-! ===== measure: ahead of the spreading; how many numbers there are ===== -/
theorem me_L56 {S : SS} {P : SS → Prop} (hk : ∀ U N, WR U → Fr [55] [] S U → (∀ i, i < 25920 → U.1 55 i = -1) → Ew (f_M_measure_L56 (N + 1) (nI 25920) U) P) : ∀ (N x : Nat) (T : SS), WR T → Fr [55] [] S T → (∀ i, i < x → T.1 55 i = -1) → x ≤ 25920 → 25920 < N + x → Ew (f_M_measure_L56 N (nI x) T) P
  | 0, x, T, hW, hF, hj, hx, hN => by omega
  | N + 1, x, T, hW, hF, hj, hx, hN => by
    by_cases c : x = 25920
    · subst c
      exact hk T N hW hF hj
    · refine v_eq (f_M_measure_L56.eq_2 _ _ _) ?_
      refine v_f (nI_ge (a := x) (b := 25920) (by omega) (by omega)) ?_
      refine v_grd (inb_nI (by omega) (by omega)) ?_
      rw [nI_clamp (n := x) (by omega)]
      refine v_wrA (fun U eU gU vU => ?_)
      have hW1 := WR.st (k := 55) hW trivial rfl eU
      refine v_nm ?_
      rw [nI_1]
      refine me_L56 hk N (x + 1) U hW1 (hF.tr gU rfl) (fun i hi => ?_) (by omega) (by omega)
      rw [eU, st_at, if_pos rfl]
      by_cases d : i = x
      · rw [if_pos d]
      · rw [if_neg d]; exact hj i (by omega)
/-- the numbers of the ways to stand -/
def vm (n m : Nat) : Bool := decide (m / 36 + m / 6 % 6 + m % 6 ≤ n)
def vW (n : Nat) : List Nat := (List.range 216).filter (vm n)
def vC (n : Nat) : List Nat := (List.range (fcN n)).flatMap (fun L => (vW n).map (fun m => L * 216 + m))
theorem sum_k (k : Nat) : ∀ l : List Nat, (l.map (fun _ => k)).sum = l.length * k
  | [] => by simp
  | a :: l => by
    rw [List.map_cons, List.sum_cons, sum_k k l, List.length_cons, Nat.succ_mul]
    omega
theorem vC_len {n : Nat} (hn : n ≤ 5) : (vC n).length ≤ 6720 := by
  have e : (vC n).length = fcN n * (vW n).length := by
    unfold vC
    rw [List.length_flatMap, List.map_congr_left (g := fun _ => (vW n).length) (fun a _ => List.length_map _), sum_k, List.length_range]
  rw [e]
  rcases (show n = 0 ∨ n = 1 ∨ n = 2 ∨ n = 3 ∨ n = 4 ∨ n = 5 by omega) with rfl | rfl | rfl | rfl | rfl | rfl <;> decide +kernel
theorem vC_mem {n L m0 m1 m2 : Nat} (hn : n ≤ 5) (hL : L < fcN n) (hm : m0 + m1 + m2 ≤ n) : L * 216 + m0 * 36 + m1 * 6 + m2 ∈ vC n := by
  refine List.mem_flatMap.mpr ⟨L, List.mem_range.mpr hL, List.mem_map.mpr ⟨m0 * 36 + m1 * 6 + m2, List.mem_filter.mpr ⟨List.mem_range.mpr (by omega), decide_eq_true ?_⟩, by omega⟩⟩
  have a0 : (m0 * 36 + m1 * 6 + m2) / 36 = m0 := by omega
  have a1 : (m0 * 36 + m1 * 6 + m2) / 6 = m0 * 6 + m1 := by omega
  have a2 : (m0 * 36 + m1 * 6 + m2) % 6 = m2 := by omega
  have a3 : (m0 * 6 + m1) % 6 = m1 := by omega
  rw [a0, a1, a2, a3]
  exact hm
theorem vC_out {n c : Nat} (h : c ∈ vC n) : ∃ L m0 m1 m2, L < fcN n ∧ m0 + m1 + m2 ≤ n ∧ c = L * 216 + m0 * 36 + m1 * 6 + m2 := by
  obtain ⟨L, h1, h2⟩ := List.mem_flatMap.mp h
  obtain ⟨m, h3, h4⟩ := List.mem_map.mp h2
  obtain ⟨h5, h6⟩ := List.mem_filter.mp h3
  have h5 := List.mem_range.mp h5
  have h6 : m / 36 + m / 6 % 6 + m % 6 ≤ n := of_decide_eq_true h6
  exact ⟨L, m / 36, m / 6 % 6, m % 6, List.mem_range.mp h1, h6, by omega⟩
/-- no more different ones than there are -/
theorem php : ∀ (V : List Nat) (k : Nat) (q : Nat → Nat), (∀ i, i < k → q i ∈ V) → (∀ i j, i < k → j < k → q i = q j → i = j) → k ≤ V.length
  | [], k, q, h, _ => by
    rcases Nat.eq_zero_or_pos k with c | c
    · rw [c]; exact Nat.le_refl _
    · exact absurd (h 0 c) List.not_mem_nil
  | v :: V, k, q, h, hi => by
    by_cases c : ∃ a, a < k ∧ q a = v
    · obtain ⟨a, ha, ea⟩ := c
      have r := php V (k - 1) (fun i => if i < a then q i else q (i + 1)) (fun i h1 => ?_) (fun i j h1 h2 e => ?_)
      · rw [List.length_cons]; omega
      · show (if i < a then q i else q (i + 1)) ∈ V
        by_cases d : i < a
        · rw [if_pos d]
          rcases List.mem_cons.mp (h i (by omega)) with w | w
          · exact absurd (hi i a (by omega) ha (w.trans ea.symm)) (by omega)
          · exact w
        · rw [if_neg d]
          rcases List.mem_cons.mp (h (i + 1) (by omega)) with w | w
          · exact absurd (hi (i + 1) a (by omega) ha (w.trans ea.symm)) (by omega)
          · exact w
      · have e : (if i < a then q i else q (i + 1)) = (if j < a then q j else q (j + 1)) := e
        by_cases d1 : i < a <;> by_cases d2 : j < a
        · rw [if_pos d1, if_pos d2] at e; exact hi i j (by omega) (by omega) e
        · rw [if_pos d1, if_neg d2] at e
          have := hi i (j + 1) (by omega) (by omega) e
          omega
        · rw [if_neg d1, if_pos d2] at e
          have := hi (i + 1) j (by omega) (by omega) e
          omega
        · rw [if_neg d1, if_neg d2] at e
          have := hi (i + 1) (j + 1) (by omega) (by omega) e
          omega
    · have r := php V k q (fun i h1 => by
        rcases List.mem_cons.mp (h i h1) with w | w
        · exact absurd ⟨i, h1, w⟩ c
        · exact w) hi
      rw [List.length_cons]; omega
