section
/-! ===== THINGS and POINTS: the class's cells ===== -/
theorem sg {S : SS} {n x f : Nat} (a : Int32) (ha : a = nI f) (hn : S.1 63 1 = nI n) (h72 : n ≤ 72) (hx : x < n) (hf : f < 11) : f_State_get (nI x) a S = some (S.1 79 (154 + 11 * x + f), S) := by
  subst ha
  rw [f_State_get.eq_1, if_neg (nI_nn (by omega)), hn, if_neg (nI_ge hx (by omega))]
  have e : (154 : Int32) + 11 * nI x + nI f = nI (154 + 11 * x + f) := by
    rw [show (11 : Int32) * nI x = nI (11 * x) from nI_mul 11 x, show (154 : Int32) + nI (11 * x) = nI (154 + 11 * x) from nI_add 154 (11 * x), nI_add]
  rw [e, inb_nI (by omega) (by omega), nI_clamp (by omega)]
  rfl
theorem sg_no (a : Int32) (S : SS) : f_State_get (-4) a S = some (-4, S) := by
  rw [f_State_get.eq_1, if_pos (by decide)]
theorem sset {S : SS} {n x f : Nat} (a v : Int32) (ha : a = nI f) (hn : S.1 63 1 = nI n) (h72 : n ≤ 72) (hx : x < n) (hf : f < 11) : f_State_set (nI x) a v S = some (st S 79 (154 + 11 * x + f) v) := by
  subst ha
  rw [f_State_set.eq_1, if_neg (nI_nn (by omega)), hn, if_neg (nI_ge hx (by omega))]
  have e : (154 : Int32) + 11 * nI x + nI f = nI (154 + 11 * x + f) := by
    rw [show (11 : Int32) * nI x = nI (11 * x) from nI_mul 11 x, show (154 : Int32) + nI (11 * x) = nI (154 + 11 * x) from nI_add 154 (11 * x), nI_add]
  rw [e, inb_nI (by omega) (by omega), nI_clamp (by omega)]
  rfl
/-- how a world of the reference (its numbers as they are kept) and the class's row of cells go together: n THINGS, np POINTS, PLACES pl of nt TRACKS, B the latest kick -/
def Th (nt : Nat) (pl kf : Nat → Int32) (K c : Nat → Int32) (x : Nat) : Prop := ((K (15 * x) = 0 ∧ c (154 + 11 * x) = -1) ∨ (K (15 * x) = 1 ∧ ∃ t p q : Nat, t < nt ∧ pl t = nI q ∧ q ≤ 24 ∧ p < q ∧ K (15 * x + 1) = nI t ∧ K (15 * x + 2) = nI p ∧ c (154 + 11 * x) = nI (24 * t + p))) ∧ (c (154 + 11 * x + 1) = K (15 * x + 3)) ∧ (c (154 + 11 * x + 2) = K (15 * x + 4)) ∧ (c (154 + 11 * x + 3) = K (15 * x + 5)) ∧ (c (154 + 11 * x + 4) = K (15 * x + 6)) ∧ (c (154 + 11 * x + 5) = K (15 * x + 7)) ∧ (c (154 + 11 * x + 6) = K (15 * x + 8)) ∧ (c (154 + 11 * x + 7) = K (15 * x + 9)) ∧ (c (154 + 11 * x + 8) = K (15 * x + 10)) ∧ (c (154 + 11 * x + 9) = K (15 * x + 12)) ∧ (c (154 + 11 * x + 10) = K (15 * x + 14)) ∧ (K (15 * x + 14) = 0 ∨ K (15 * x + 14) = 1) ∧ ((K (15 * x + 11) = 0 ∧ K (15 * x + 10) = 0) ∨ (K (15 * x + 11) = 1 ∧ 0 < (K (15 * x + 10)).toInt ∧ K (15 * x) = 1 ∧ K (15 * x + 4) = -4 ∧ K (15 * x + 5) = -4 ∧ (∃ s, s < 2 ∧ K (15 * x + 12) = nI s) ∧ ∃ k, k ≤ 4 ∧ kf x = nI k))
theorem Th.at_ {nt : Nat} {pl kf : Nat → Int32} {K c : Nat → Int32} {x : Nat} (h_ : Th nt pl kf K c x) : (K (15 * x) = 0 ∧ c (154 + 11 * x) = -1) ∨ (K (15 * x) = 1 ∧ ∃ t p q : Nat, t < nt ∧ pl t = nI q ∧ q ≤ 24 ∧ p < q ∧ K (15 * x + 1) = nI t ∧ K (15 * x + 2) = nI p ∧ c (154 + 11 * x) = nI (24 * t + p)) := h_.1
theorem Th.look {nt : Nat} {pl kf : Nat → Int32} {K c : Nat → Int32} {x : Nat} (h_ : Th nt pl kf K c x) : c (154 + 11 * x + 1) = K (15 * x + 3) := h_.2.1
theorem Th.m0 {nt : Nat} {pl kf : Nat → Int32} {K c : Nat → Int32} {x : Nat} (h_ : Th nt pl kf K c x) : c (154 + 11 * x + 2) = K (15 * x + 4) := h_.2.2.1
theorem Th.m1 {nt : Nat} {pl kf : Nat → Int32} {K c : Nat → Int32} {x : Nat} (h_ : Th nt pl kf K c x) : c (154 + 11 * x + 3) = K (15 * x + 5) := h_.2.2.2.1
theorem Th.ser {nt : Nat} {pl kf : Nat → Int32} {K c : Nat → Int32} {x : Nat} (h_ : Th nt pl kf K c x) : c (154 + 11 * x + 4) = K (15 * x + 6) := h_.2.2.2.2.1
theorem Th.flt {nt : Nat} {pl kf : Nat → Int32} {K c : Nat → Int32} {x : Nat} (h_ : Th nt pl kf K c x) : c (154 + 11 * x + 5) = K (15 * x + 7) := h_.2.2.2.2.2.1
theorem Th.jam {nt : Nat} {pl kf : Nat → Int32} {K c : Nat → Int32} {x : Nat} (h_ : Th nt pl kf K c x) : c (154 + 11 * x + 6) = K (15 * x + 8) := h_.2.2.2.2.2.2.1
theorem Th.dgr {nt : Nat} {pl kf : Nat → Int32} {K c : Nat → Int32} {x : Nat} (h_ : Th nt pl kf K c x) : c (154 + 11 * x + 7) = K (15 * x + 9) := h_.2.2.2.2.2.2.2.1
theorem Th.run {nt : Nat} {pl kf : Nat → Int32} {K c : Nat → Int32} {x : Nat} (h_ : Th nt pl kf K c x) : c (154 + 11 * x + 8) = K (15 * x + 10) := h_.2.2.2.2.2.2.2.2.1
theorem Th.rsd {nt : Nat} {pl kf : Nat → Int32} {K c : Nat → Int32} {x : Nat} (h_ : Th nt pl kf K c x) : c (154 + 11 * x + 9) = K (15 * x + 12) := h_.2.2.2.2.2.2.2.2.2.1
theorem Th.tst {nt : Nat} {pl kf : Nat → Int32} {K c : Nat → Int32} {x : Nat} (h_ : Th nt pl kf K c x) : c (154 + 11 * x + 10) = K (15 * x + 14) := h_.2.2.2.2.2.2.2.2.2.2.1
theorem Th.tb {nt : Nat} {pl kf : Nat → Int32} {K c : Nat → Int32} {x : Nat} (h_ : Th nt pl kf K c x) : K (15 * x + 14) = 0 ∨ K (15 * x + 14) = 1 := h_.2.2.2.2.2.2.2.2.2.2.2.1
theorem Th.run0 {nt : Nat} {pl kf : Nat → Int32} {K c : Nat → Int32} {x : Nat} (h_ : Th nt pl kf K c x) : (K (15 * x + 11) = 0 ∧ K (15 * x + 10) = 0) ∨ (K (15 * x + 11) = 1 ∧ 0 < (K (15 * x + 10)).toInt ∧ K (15 * x) = 1 ∧ K (15 * x + 4) = -4 ∧ K (15 * x + 5) = -4 ∧ (∃ s, s < 2 ∧ K (15 * x + 12) = nI s) ∧ ∃ k, k ≤ 4 ∧ kf x = nI k) := h_.2.2.2.2.2.2.2.2.2.2.2.2
theorem Th.mk_ {nt : Nat} {pl kf : Nat → Int32} {K c : Nat → Int32} {x : Nat} (at__ : (K (15 * x) = 0 ∧ c (154 + 11 * x) = -1) ∨ (K (15 * x) = 1 ∧ ∃ t p q : Nat, t < nt ∧ pl t = nI q ∧ q ≤ 24 ∧ p < q ∧ K (15 * x + 1) = nI t ∧ K (15 * x + 2) = nI p ∧ c (154 + 11 * x) = nI (24 * t + p))) (look_ : c (154 + 11 * x + 1) = K (15 * x + 3)) (m0_ : c (154 + 11 * x + 2) = K (15 * x + 4)) (m1_ : c (154 + 11 * x + 3) = K (15 * x + 5)) (ser_ : c (154 + 11 * x + 4) = K (15 * x + 6)) (flt_ : c (154 + 11 * x + 5) = K (15 * x + 7)) (jam_ : c (154 + 11 * x + 6) = K (15 * x + 8)) (dgr_ : c (154 + 11 * x + 7) = K (15 * x + 9)) (run_ : c (154 + 11 * x + 8) = K (15 * x + 10)) (rsd_ : c (154 + 11 * x + 9) = K (15 * x + 12)) (tst_ : c (154 + 11 * x + 10) = K (15 * x + 14)) (tb_ : K (15 * x + 14) = 0 ∨ K (15 * x + 14) = 1) (run0_ : (K (15 * x + 11) = 0 ∧ K (15 * x + 10) = 0) ∨ (K (15 * x + 11) = 1 ∧ 0 < (K (15 * x + 10)).toInt ∧ K (15 * x) = 1 ∧ K (15 * x + 4) = -4 ∧ K (15 * x + 5) = -4 ∧ (∃ s, s < 2 ∧ K (15 * x + 12) = nI s) ∧ ∃ k, k ≤ 4 ∧ kf x = nI k)) : Th nt pl kf K c x := ⟨at__, look_, m0_, m1_, ser_, flt_, jam_, dgr_, run_, rsd_, tst_, tb_, run0_⟩
/-- the WAGONS that RUN, in the order of their kicks -/
def Rn (n : Nat) (B : Int) (K c : Nat → Int32) (l : List Nat) : Prop := (c 1 = nI l.length) ∧ (∀ i, ∀ h : i < l.length, c (2 + i) = nI l[i]) ∧ (∀ x, x ∈ l ↔ x < n ∧ K (15 * x + 11) = 1) ∧ (l.Pairwise (fun a b => (K (15 * a + 13)).toInt < (K (15 * b + 13)).toInt)) ∧ (∀ x, x ∈ l → 0 < (K (15 * x + 13)).toInt ∧ (K (15 * x + 13)).toInt ≤ B)
theorem Rn.len {n : Nat} {B : Int} {K c : Nat → Int32} {l : List Nat} (h_ : Rn n B K c l) : c 1 = nI l.length := h_.1
theorem Rn.cell {n : Nat} {B : Int} {K c : Nat → Int32} {l : List Nat} (h_ : Rn n B K c l) : ∀ i, ∀ h : i < l.length, c (2 + i) = nI l[i] := h_.2.1
theorem Rn.mem {n : Nat} {B : Int} {K c : Nat → Int32} {l : List Nat} (h_ : Rn n B K c l) : ∀ x, x ∈ l ↔ x < n ∧ K (15 * x + 11) = 1 := h_.2.2.1
theorem Rn.srt {n : Nat} {B : Int} {K c : Nat → Int32} {l : List Nat} (h_ : Rn n B K c l) : l.Pairwise (fun a b => (K (15 * a + 13)).toInt < (K (15 * b + 13)).toInt) := h_.2.2.2.1
theorem Rn.pos {n : Nat} {B : Int} {K c : Nat → Int32} {l : List Nat} (h_ : Rn n B K c l) : ∀ x, x ∈ l → 0 < (K (15 * x + 13)).toInt ∧ (K (15 * x + 13)).toInt ≤ B := h_.2.2.2.2
theorem Rn.mk_ {n : Nat} {B : Int} {K c : Nat → Int32} {l : List Nat} (len_ : c 1 = nI l.length) (cell_ : ∀ i, ∀ h : i < l.length, c (2 + i) = nI l[i]) (mem_ : ∀ x, x ∈ l ↔ x < n ∧ K (15 * x + 11) = 1) (srt_ : l.Pairwise (fun a b => (K (15 * a + 13)).toInt < (K (15 * b + 13)).toInt)) (pos_ : ∀ x, x ∈ l → 0 < (K (15 * x + 13)).toInt ∧ (K (15 * x + 13)).toInt ≤ B) : Rn n B K c l := ⟨len_, cell_, mem_, srt_, pos_⟩
def Rw (n np nt : Nat) (pl kf : Nat → Int32) (B : Int) (K c : Nat → Int32) : Prop := (∀ x, x < n → Th nt pl kf K c x) ∧ (∀ p, p < np → c (74 + p) = K (1080 + 2 * p) ∧ c (114 + p) = K (1080 + 2 * p + 1)) ∧ (c 0 = K 1160) ∧ (∃ l, Rn n B K c l) ∧ (∀ x s o, x < n → s < 2 → o < n → K (15 * x + 4 + s) = nI o → K (15 * o) = K (15 * x)) ∧ (∀ x d, n ≤ x → x < 72 → (d = 0 ∨ (8 ≤ d ∧ d ≤ 12) ∨ d = 14) → K (15 * x + d) = 0)
theorem Rw.th {n np nt : Nat} {pl kf : Nat → Int32} {B : Int} {K c : Nat → Int32} (h_ : Rw n np nt pl kf B K c) : ∀ x, x < n → Th nt pl kf K c x := h_.1
theorem Rw.pt {n np nt : Nat} {pl kf : Nat → Int32} {B : Int} {K c : Nat → Int32} (h_ : Rw n np nt pl kf B K c) : ∀ p, p < np → c (74 + p) = K (1080 + 2 * p) ∧ c (114 + p) = K (1080 + 2 * p + 1) := h_.2.1
theorem Rw.dmp {n np nt : Nat} {pl kf : Nat → Int32} {B : Int} {K c : Nat → Int32} (h_ : Rw n np nt pl kf B K c) : c 0 = K 1160 := h_.2.2.1
theorem Rw.rns {n np nt : Nat} {pl kf : Nat → Int32} {B : Int} {K c : Nat → Int32} (h_ : Rw n np nt pl kf B K c) : ∃ l, Rn n B K c l := h_.2.2.2.1
theorem Rw.mt {n np nt : Nat} {pl kf : Nat → Int32} {B : Int} {K c : Nat → Int32} (h_ : Rw n np nt pl kf B K c) : ∀ x s o, x < n → s < 2 → o < n → K (15 * x + 4 + s) = nI o → K (15 * o) = K (15 * x) := h_.2.2.2.2.1
theorem Rw.nw {n np nt : Nat} {pl kf : Nat → Int32} {B : Int} {K c : Nat → Int32} (h_ : Rw n np nt pl kf B K c) : ∀ x d, n ≤ x → x < 72 → (d = 0 ∨ (8 ≤ d ∧ d ≤ 12) ∨ d = 14) → K (15 * x + d) = 0 := h_.2.2.2.2.2
theorem Rw.mk_ {n np nt : Nat} {pl kf : Nat → Int32} {B : Int} {K c : Nat → Int32} (th_ : ∀ x, x < n → Th nt pl kf K c x) (pt_ : ∀ p, p < np → c (74 + p) = K (1080 + 2 * p) ∧ c (114 + p) = K (1080 + 2 * p + 1)) (dmp_ : c 0 = K 1160) (rns_ : ∃ l, Rn n B K c l) (mt_ : ∀ x s o, x < n → s < 2 → o < n → K (15 * x + 4 + s) = nI o → K (15 * o) = K (15 * x)) (nw_ : ∀ x d, n ≤ x → x < 72 → (d = 0 ∨ (8 ≤ d ∧ d ≤ 12) ∨ d = 14) → K (15 * x + d) = 0) : Rw n np nt pl kf B K c := ⟨th_, pt_, dmp_, rns_, mt_, nw_⟩
theorem Rn.nd {n : Nat} {B : Int} {K c : Nat → Int32} {l : List Nat} (h : Rn n B K c l) : l.Nodup := h.srt.imp (fun q e => by subst e; omega)
theorem Rn.le {n : Nat} {B : Int} {K c : Nat → Int32} {l : List Nat} (h : Rn n B K c l) : l.length ≤ n := by
  have h1 : l ⊆ List.range n := fun x hx => List.mem_range.mpr ((h.mem x).mp hx).1
  have := List.Nodup.length_le_of_subset h.nd h1
  simpa using this
/-- only cells of used THINGS and POINTS are looked at -/
theorem Rw.congr {n np nt : Nat} {pl kf : Nat → Int32} {B B' : Int} {K c K' c' : Nat → Int32} (h : Rw n np nt pl kf B K c) (hn : n ≤ 72) (hp : np ≤ 40) (hB : B ≤ B') (eT : ∀ x d, x < 72 → d < 15 → K' (15 * x + d) = K (15 * x + d)) (eK : ∀ j, 1080 ≤ j → j < 1161 → K' j = K j) (ec : ∀ j, j < 154 + 11 * n → c' j = c j) : Rw n np nt pl kf B' K' c' := by
  refine ⟨fun x hx => ?_, fun p hp' => ?_, ?_, ?_, fun x s o hx hs ho q => ?_, fun x d hx h72 hd => by rw [eT x d h72 (by omega)]; exact h.nw x d hx h72 hd⟩
  · have t := h.th x hx
    have k : ∀ j, j < 15 → K' (15 * x + j) = K (15 * x + j) := fun j hj => eT x j (by omega) hj
    have d : ∀ j, j < 11 → c' (154 + 11 * x + j) = c (154 + 11 * x + j) := fun j hj => ec _ (by omega)
    have k0 := k 0 (by omega)
    have d0 := d 0 (by omega)
    rw [Nat.add_zero] at k0 d0
    refine ⟨?_, ?_, ?_, ?_, ?_, ?_, ?_, ?_, ?_, ?_, ?_, ?_, ?_⟩
    · rw [k0, d0, k 1 (by omega), k 2 (by omega)]; exact t.at_
    · rw [d 1 (by omega), k 3 (by omega)]; exact t.look
    · rw [d 2 (by omega), k 4 (by omega)]; exact t.m0
    · rw [d 3 (by omega), k 5 (by omega)]; exact t.m1
    · rw [d 4 (by omega), k 6 (by omega)]; exact t.ser
    · rw [d 5 (by omega), k 7 (by omega)]; exact t.flt
    · rw [d 6 (by omega), k 8 (by omega)]; exact t.jam
    · rw [d 7 (by omega), k 9 (by omega)]; exact t.dgr
    · rw [d 8 (by omega), k 10 (by omega)]; exact t.run
    · rw [d 9 (by omega), k 12 (by omega)]; exact t.rsd
    · rw [d 10 (by omega), k 14 (by omega)]; exact t.tst
    · rw [k 14 (by omega)]; exact t.tb
    · rw [k0, k 11 (by omega), k 10 (by omega), k 4 (by omega), k 5 (by omega), k 12 (by omega)]; exact t.run0
  · rw [ec _ (by omega), ec _ (by omega), eK _ (by omega) (by omega), eK _ (by omega) (by omega)]; exact h.pt p hp'
  · rw [ec _ (by omega), eK _ (by omega) (by omega)]; exact h.dmp
  · obtain ⟨l, r⟩ := h.rns
    have hl := r.le
    refine ⟨l, by rw [ec _ (by omega)]; exact r.len, fun i hi => by rw [ec _ (by omega)]; exact r.cell i hi, fun x => ?_, ?_, fun x hx => ?_⟩
    · by_cases hx : x < n
      · rw [eT x 11 (by omega) (by omega)]; exact r.mem x
      · rw [r.mem x]; exact ⟨fun q => absurd q.1 hx, fun q => absurd q.1 hx⟩
    · refine r.srt.imp_of_mem (fun ha hb q => ?_)
      have ma := ((r.mem _).mp ha).1
      have mb := ((r.mem _).mp hb).1
      rw [eT _ 13 (by omega) (by omega), eT _ 13 (by omega) (by omega)]; exact q
    · have mx := ((r.mem _).mp hx).1
      rw [eT _ 13 (by omega) (by omega)]
      have := r.pos x hx
      omega
  · have k0 := eT x 0 (by omega) (by omega)
    have k1 := eT o 0 (by omega) (by omega)
    rw [Nat.add_zero] at k0 k1
    rw [Nat.add_assoc, eT x (4 + s) (by omega) (by omega), ← Nat.add_assoc] at q
    rw [k0, k1]; exact h.mt x s o hx hs ho q
/-! ===== the reference gives a kept world back: all of it ===== -/
def rsR (T : SS) (b k i : Nat) : Int32 := match k with
  | 19 => if T.1 40 (b + 15 * i + 0) = 1 then 1 else 0
  | 20 => T.1 40 (b + 15 * i + 1)
  | 21 => T.1 40 (b + 15 * i + 2)
  | 22 => T.1 40 (b + 15 * i + 3)
  | 24 => T.1 40 (b + 15 * i + 6)
  | 25 => T.1 40 (b + 15 * i + 7)
  | 26 => T.1 40 (b + 15 * i + 8)
  | 27 => T.1 40 (b + 15 * i + 9)
  | 30 => T.1 40 (b + 15 * i + 10)
  | 31 => if T.1 40 (b + 15 * i + 11) = 1 then 1 else 0
  | 32 => T.1 40 (b + 15 * i + 12)
  | 33 => T.1 40 (b + 15 * i + 13)
  | 34 => if T.1 40 (b + 15 * i + 14) = 1 then 1 else 0
  | 23 => T.1 40 (b + 15 * (i / 2) + (4 + i % 2))
  | 10 => T.1 40 (b + 1080 + 2 * i)
  | 11 => T.1 40 (b + 1080 + 2 * i + 1)
  | _ => T.1 40 (b + 1160)
/-- rows as far as m tells are those of the kept world -/
def RX (T : SS) (b : Nat) (m : Nat → Nat) (U : SS) : Prop := (∀ k i, i < m k → U.1 k i = rsR T b k i) ∧ (∀ i, U.1 40 i = T.1 40 i) ∧ ∀ i, i ≠ 48 → U.1 0 i = T.1 0 i
theorem RX.w {T U : SS} {b k i : Nat} {m : Nat → Nat} {v : Int32} (h : RX T b m U) (hk : k ≠ 40 ∧ k ≠ 0) (hi : i = m k) (hv : v = rsR T b k i) : RX T b (fun a => if a = k then i + 1 else m a) (st U k i v) := by
  refine ⟨fun a j hj => ?_, fun j => by rw [st_row _ _ _ _ (Ne.symm hk.1)]; exact h.2.1 j, fun j hj => by rw [st_row _ _ _ _ (Ne.symm hk.2)]; exact h.2.2 j hj⟩
  rw [st_at]
  by_cases ha : a = k
  · subst ha
    change j < (if a = a then i + 1 else m a) at hj
    rw [if_pos rfl] at hj ⊢
    by_cases e : j = i
    · rw [if_pos e, e, hv]
    · rw [if_neg e]; exact h.1 a j (by omega)
  · change j < (if a = k then i + 1 else m a) at hj
    rw [if_neg ha] at hj ⊢
    exact h.1 a j hj
theorem rx_w {T U : SS} {b k i : Nat} {m : Nat → Nat} {v : Int32} {f : SS → Option SS} {V : SS → Prop} (h : RX T b m U) (hk : k ≠ 40 ∧ k ≠ 0) (hi : i = m k) (hv : v = rsR T b k i) (kk : ∀ U', RX T b (fun a => if a = k then i + 1 else m a) U' → Ew (f U') V) : Ew (wr U k i v f) V := kk _ (h.w hk hi hv)
theorem RX.mono {T U : SS} {b : Nat} {m m' : Nat → Nat} (h : RX T b m U) (hm : ∀ k, m' k ≤ m k) : RX T b m' U := ⟨fun k i hi => h.1 k i (Nat.lt_of_lt_of_le hi (hm k)), h.2⟩
def mJ (j k : Nat) : Nat := if k = 23 then 2 * j else if (19 ≤ k ∧ k ≤ 27) ∨ (30 ≤ k ∧ k ≤ 34) then j else 0
section RXL
variable {T : SS} {K8 : Int32 → Int32 → SS → Option SS} {b z j : Nat} {V : SS → Prop}
theorem rx_j263 {U : SS} {y0 : Int32} {m : Nat → Nat} (h : RX T b m U) (hm : m 34 = j) (hm2 : ∀ k, mJ (j + 1) k ≤ if k = 34 then j + 1 else m k) (hv : vp_nar .boolean y0 = rsR T b 34 j) (hj : j < 72) (hz : z = b + 15 * j) (hb : z + 15 ≤ 18576) (kk : ∀ U, RX T b (mJ (j + 1)) U → Ew (K8 (nI (z + 15)) (nI (j + 1)) U) V) : Ew (f_M_restore_j263 K8 (nI z) (nI j) y0 (nI j) U) V := by
  refine v_eq (f_M_restore_j263.eq_1 _ _ _ _ _ _) ?_
  refine v_grd (inb_nI hj (by omega)) ?_
  rw [nI_clamp (n := j) (by omega)]
  refine rx_w (k := 34) h (by decide) hm.symm hv (fun U h => ?_)
  refine v_nm ?_
  refine v_nm ?_
  rw [show nI z + 15 = nI (z + 15) from nI_add z 15, show nI j + 1 = nI (j + 1) from nI_add j 1]
  exact kk U (h.mono hm2)
theorem rx_j209 {U : SS} {y0 : Int32} {m : Nat → Nat} (h : RX T b m U) (hm : m 31 = j ∧ m 32 = j ∧ m 33 = j ∧ m 34 = j) (hm2 : ∀ k, mJ (j + 1) k ≤ if k = 31 ∨ k = 32 ∨ k = 33 ∨ k = 34 then j + 1 else m k) (hv : vp_nar .boolean y0 = rsR T b 31 j) (hj : j < 72) (hz : z = b + 15 * j) (hb : z + 15 ≤ 18576) (kk : ∀ U, RX T b (mJ (j + 1)) U → Ew (K8 (nI (z + 15)) (nI (j + 1)) U) V) : Ew (f_M_restore_j209 K8 (nI z) (nI j) y0 (nI j) U) V := by
  obtain ⟨m1, m2, m3, m4⟩ := hm
  refine v_eq (f_M_restore_j209.eq_1 _ _ _ _ _ _) ?_
  refine v_grd (inb_nI hj (by omega)) ?_
  rw [nI_clamp (n := j) (by omega)]
  refine rx_w (k := 31) h (by decide) m1.symm hv (fun U h => ?_)
  refine v_grd (inb_of (nI_add z 12) (by omega) (by omega)) ?_
  refine v_grd (inb_nI hj (by omega)) ?_
  refine rx_w (k := 32) h (by decide) (by rw [if_neg (by decide), m2]) (by rw [show (nI z + 12).toNatClampNeg = z + 12 from clz z 12 (by omega), h.2.1, hz]; rfl) (fun U h => ?_)
  refine v_grd (inb_of (nI_add z 13) (by omega) (by omega)) ?_
  refine v_grd (inb_nI hj (by omega)) ?_
  refine rx_w (k := 33) h (by decide) (by rw [if_neg (by decide), if_neg (by decide), m3]) (by rw [show (nI z + 13).toNatClampNeg = z + 13 from clz z 13 (by omega), h.2.1, hz]; rfl) (fun U h => ?_)
  refine v_grd (inb_of (nI_add z 14) (by omega) (by omega)) ?_
  rw [show (nI z + 14).toNatClampNeg = z + 14 from clz z 14 (by omega), h.2.1, hz]
  have e34 : (fun a => if a = 33 then j + 1 else if a = 32 then j + 1 else if a = 31 then j + 1 else m a) 34 = j := by
    show (if 34 = 33 then j + 1 else if 34 = 32 then j + 1 else if 34 = 31 then j + 1 else m 34) = j
    rw [if_neg (by decide), if_neg (by decide), if_neg (by decide), m4]
  have e2 : ∀ k, mJ (j + 1) k ≤ if k = 34 then j + 1 else (fun a => if a = 33 then j + 1 else if a = 32 then j + 1 else if a = 31 then j + 1 else m a) k := fun k => by
    have := hm2 k
    show _ ≤ if k = 34 then j + 1 else if k = 33 then j + 1 else if k = 32 then j + 1 else if k = 31 then j + 1 else m k
    by_cases c4 : k = 34
    · rw [if_pos c4]; rw [if_pos (by omega)] at this; exact this
    · rw [if_neg c4]
      by_cases c3 : k = 33
      · rw [if_pos c3]; rw [if_pos (by omega)] at this; exact this
      · rw [if_neg c3]
        by_cases c2 : k = 32
        · rw [if_pos c2]; rw [if_pos (by omega)] at this; exact this
        · rw [if_neg c2]
          by_cases c1 : k = 31
          · rw [if_pos c1]; rw [if_pos (by omega)] at this; exact this
          · rw [if_neg c1]; rw [if_neg (by omega)] at this; exact this
  rw [← hz]
  refine v_i (fun q => ?_) (fun q => ?_)
  · exact rx_j263 h e34 e2 (by rw [show rsR T b 34 j = if T.1 40 (b + 15 * j + 14) = 1 then 1 else 0 from rfl, ← hz, if_pos q]; rfl) hj hz hb kk
  · exact rx_j263 h e34 e2 (by rw [show rsR T b 34 j = if T.1 40 (b + 15 * j + 14) = 1 then 1 else 0 from rfl, ← hz, if_neg q]; rfl) hj hz hb kk
set_option maxHeartbeats 4000000 in
theorem rx_j34 {U : SS} {y0 : Int32} (h : RX T b (mJ j) U) (hv : vp_nar .boolean y0 = rsR T b 19 j) (hj : j < 72) (hz : z = b + 15 * j) (hb : z + 15 ≤ 18576) (kk : ∀ U, RX T b (mJ (j + 1)) U → Ew (K8 (nI (z + 15)) (nI (j + 1)) U) V) : Ew (f_M_restore_j34 K8 (nI z) (nI j) y0 (nI j) U) V := by
  refine v_eq (f_M_restore_j34.eq_1 _ _ _ _ _ _) ?_
  refine v_grd (inb_nI hj (by omega)) ?_
  rw [nI_clamp (n := j) (by omega)]
  refine rx_w (k := 19) h (by decide) rfl hv (fun U h => ?_)
  refine v_grd (inb_of (nI_add z 1) (by omega) (by omega)) ?_
  refine v_grd (inb_nI hj (by omega)) ?_
  refine rx_w (k := 20) h (by decide) rfl (by rw [show (nI z + 1).toNatClampNeg = z + 1 from clz z 1 (by omega), h.2.1, hz]; rfl) (fun U h => ?_)
  refine v_grd (inb_of (nI_add z 2) (by omega) (by omega)) ?_
  refine v_grd (inb_nI hj (by omega)) ?_
  refine rx_w (k := 21) h (by decide) rfl (by rw [show (nI z + 2).toNatClampNeg = z + 2 from clz z 2 (by omega), h.2.1, hz]; rfl) (fun U h => ?_)
  refine v_grd (inb_of (nI_add z 3) (by omega) (by omega)) ?_
  refine v_grd (inb_nI hj (by omega)) ?_
  refine rx_w (k := 22) h (by decide) rfl (by rw [show (nI z + 3).toNatClampNeg = z + 3 from clz z 3 (by omega), h.2.1, hz]; rfl) (fun U h => ?_)
  have e2j : (2 : Int32) * nI j = nI (2 * j) := nI_mul 2 j
  have e2k : nI (2 * j) + 1 = nI (2 * j + 1) := nI_add (2 * j) 1
  have d1 : 2 * j / 2 = j := by omega
  have d2 : 2 * j % 2 = 0 := by omega
  have d3 : (2 * j + 1) / 2 = j := by omega
  have d4 : (2 * j + 1) % 2 = 1 := by omega
  refine v_grd (inb_of (nI_add z 4) (by omega) (by omega)) ?_
  refine v_grd (by rw [e2j]; exact inb_nI (by omega) (by omega)) ?_
  rw [e2j, nI_clamp (n := 2 * j) (by omega)]
  refine rx_w (k := 23) h (by decide) rfl (by rw [show (nI z + 4).toNatClampNeg = z + 4 from clz z 4 (by omega), h.2.1, hz, show rsR T b 23 (2 * j) = T.1 40 (b + 15 * (2 * j / 2) + (4 + 2 * j % 2)) from rfl, d1, d2]) (fun U h => ?_)
  refine v_grd (inb_of (nI_add z 5) (by omega) (by omega)) ?_
  refine v_grd (by rw [e2k]; exact inb_nI (by omega) (by omega)) ?_
  rw [e2k, nI_clamp (n := 2 * j + 1) (by omega)]
  refine rx_w (k := 23) h (by decide) rfl (by rw [show (nI z + 5).toNatClampNeg = z + 5 from clz z 5 (by omega), h.2.1, hz, show rsR T b 23 (2 * j + 1) = T.1 40 (b + 15 * ((2 * j + 1) / 2) + (4 + (2 * j + 1) % 2)) from rfl, d3, d4]) (fun U h => ?_)
  refine v_grd (inb_of (nI_add z 6) (by omega) (by omega)) ?_
  refine v_grd (inb_nI hj (by omega)) ?_
  refine rx_w (k := 24) h (by decide) rfl (by rw [show (nI z + 6).toNatClampNeg = z + 6 from clz z 6 (by omega), h.2.1, hz]; rfl) (fun U h => ?_)
  refine v_grd (inb_of (nI_add z 7) (by omega) (by omega)) ?_
  refine v_grd (inb_nI hj (by omega)) ?_
  refine rx_w (k := 25) h (by decide) rfl (by rw [show (nI z + 7).toNatClampNeg = z + 7 from clz z 7 (by omega), h.2.1, hz]; rfl) (fun U h => ?_)
  refine v_grd (inb_of (nI_add z 8) (by omega) (by omega)) ?_
  refine v_grd (inb_nI hj (by omega)) ?_
  refine rx_w (k := 26) h (by decide) rfl (by rw [show (nI z + 8).toNatClampNeg = z + 8 from clz z 8 (by omega), h.2.1, hz]; rfl) (fun U h => ?_)
  refine v_grd (inb_of (nI_add z 9) (by omega) (by omega)) ?_
  refine v_grd (inb_nI hj (by omega)) ?_
  refine rx_w (k := 27) h (by decide) rfl (by rw [show (nI z + 9).toNatClampNeg = z + 9 from clz z 9 (by omega), h.2.1, hz]; rfl) (fun U h => ?_)
  refine v_grd (inb_of (nI_add z 10) (by omega) (by omega)) ?_
  refine v_grd (inb_nI hj (by omega)) ?_
  refine rx_w (k := 30) h (by decide) rfl (by rw [show (nI z + 10).toNatClampNeg = z + 10 from clz z 10 (by omega), h.2.1, hz]; rfl) (fun U h => ?_)
  refine v_grd (inb_of (nI_add z 11) (by omega) (by omega)) ?_
  rw [show (nI z + 11).toNatClampNeg = z + 11 from clz z 11 (by omega), h.2.1]
  have em : ∀ k, mJ (j + 1) k ≤ if k = 31 ∨ k = 32 ∨ k = 33 ∨ k = 34 then j + 1 else (if k = 30 then j + 1 else if k = 27 then j + 1 else if k = 26 then j + 1 else if k = 25 then j + 1 else if k = 24 then j + 1 else if k = 23 then 2 * j + 1 + 1 else if k = 23 then 2 * j + 1 else if k = 22 then j + 1 else if k = 21 then j + 1 else if k = 20 then j + 1 else if k = 19 then j + 1 else mJ j k) := fun k => by
    by_cases c : (19 ≤ k ∧ k ≤ 27) ∨ (30 ≤ k ∧ k ≤ 34)
    · rcases (show k = 19 ∨ k = 20 ∨ k = 21 ∨ k = 22 ∨ k = 23 ∨ k = 24 ∨ k = 25 ∨ k = 26 ∨ k = 27 ∨ k = 30 ∨ k = 31 ∨ k = 32 ∨ k = 33 ∨ k = 34 by omega) with rfl | rfl | rfl | rfl | rfl | rfl | rfl | rfl | rfl | rfl | rfl | rfl | rfl | rfl <;> (simp [mJ] <;> omega)
    · have : mJ (j + 1) k = 0 := by unfold mJ; rw [if_neg (by omega), if_neg c]
      rw [this]; exact Nat.zero_le _
  refine v_i (fun q => ?_) (fun q => ?_)
  · exact rx_j209 h ⟨rfl, rfl, rfl, rfl⟩ em (by rw [show rsR T b 31 j = if T.1 40 (b + 15 * j + 11) = 1 then 1 else 0 from rfl, ← hz, if_pos q]; rfl) hj hz hb kk
  · exact rx_j209 h ⟨rfl, rfl, rfl, rfl⟩ em (by rw [show rsR T b 31 j = if T.1 40 (b + 15 * j + 11) = 1 then 1 else 0 from rfl, ← hz, if_neg q]; rfl) hj hz hb kk
end RXL
def mP (p k : Nat) : Nat := if k = 10 ∨ k = 11 then p else mJ 72 k
theorem rx_L275 {T : SS} {b : Nat} (hb : b + 1161 ≤ 18576) : ∀ (N p z : Nat) (U : SS), RX T b (mP p) U → 40 < N + p → p ≤ 40 → z = b + 1080 + 2 * p → Ew (f_M_restore_L275 N (nI z) (nI p) U) (fun U => RX T b (mP 40) U ∧ U.1 0 48 = T.1 40 (b + 1160))
  | 0, p, z, U, h, h1, h2, h3 => by omega
  | N + 1, p, z, U, h, h1, h2, h3 => by
    refine v_eq (f_M_restore_L275.eq_2 _ _ _ _) ?_
    refine v_i (fun q => ?_) (fun q => ?_)
    · have hp : p = 40 := by
        rcases Nat.lt_or_ge p 40 with e | e
        · exact absurd q (nI_ge (b := 40) e (by omega))
        · omega
      subst hp
      refine v_grd (inb_nI (by omega) (by omega)) ?_
      refine v_wr ?_
      refine v_some ⟨⟨fun k i hi => ?_, fun i => by rw [st_row _ _ _ _ (by decide)]; exact h.2.1 i, fun i hi => by rw [st_no (by omega)]; exact h.2.2 i hi⟩, ?_⟩
      · have hk : k ≠ 0 := fun e => by subst e; exact absurd hi (Nat.not_lt_zero i)
        rw [st_row _ _ _ _ hk]
        exact h.1 k i hi
      · rw [st_here, nI_clamp (by omega), h.2.1, h3]
    · have hp : p < 40 := by
        rcases Nat.lt_or_ge p 40 with e | e
        · exact e
        · exact absurd (nI_le (a := 40) e (by omega)) q
      refine v_grd (inb_nI (by omega) (by omega)) ?_
      refine v_grd (inb_nI hp (by omega)) ?_
      rw [nI_clamp (n := p) (by omega)]
      refine rx_w (k := 10) h (by decide) rfl (by rw [nI_clamp (by omega), h.2.1, h3]; rfl) (fun U h => ?_)
      refine v_grd (inb_of (nI_add z 1) (by omega) (by omega)) ?_
      refine v_grd (inb_nI hp (by omega)) ?_
      refine rx_w (k := 11) h (by decide) rfl (by rw [show (nI z + 1).toNatClampNeg = z + 1 from clz z 1 (by omega), h.2.1, h3]; rfl) (fun U h => ?_)
      refine v_nm ?_
      refine v_nm ?_
      rw [show nI z + 2 = nI (z + 2) from nI_add z 2, show nI p + 1 = nI (p + 1) from nI_add p 1]
      refine rx_L275 hb N (p + 1) (z + 2) U (h.mono (fun k => ?_)) (by omega) (by omega) (by omega)
      show mP (p + 1) k ≤ if k = 11 then p + 1 else if k = 10 then p + 1 else mP p k
      unfold mP
      by_cases c1 : k = 11
      · rw [if_pos c1, if_pos (by omega)]; exact Nat.le_refl _
      · by_cases c2 : k = 10
        · rw [if_neg c1, if_pos c2, if_pos (by omega)]; exact Nat.le_refl _
        · rw [if_neg c1, if_neg c2, if_neg (by omega), if_neg (by omega)]; exact Nat.le_refl _
theorem rx_L8 {T : SS} {b : Nat} (hb : b + 1161 ≤ 18576) : ∀ (N j z : Nat) (U : SS), RX T b (mJ j) U → 72 < N + j → j ≤ 72 → z = b + 15 * j → Ew (f_M_restore_L8 N (nI z) (nI j) U) (fun U => RX T b (mP 40) U ∧ U.1 0 48 = T.1 40 (b + 1160))
  | 0, j, z, U, h, h1, h2, h3 => by omega
  | N + 1, j, z, U, h, h1, h2, h3 => by
    refine v_eq (f_M_restore_L8.eq_2 _ _ _ _) ?_
    refine v_i (fun q => ?_) (fun q => ?_)
    · have hj : j = 72 := by
        rcases Nat.lt_or_ge j 72 with e | e
        · exact absurd q (nI_ge (b := 72) e (by omega))
        · omega
      subst hj
      refine rx_L275 hb NF 0 z U (h.mono (fun k => ?_)) (by have : NF = 100000 := rfl; omega) (by omega) (by omega)
      unfold mP
      by_cases c : k = 10 ∨ k = 11
      · rw [if_pos c]; exact Nat.zero_le _
      · rw [if_neg c]; exact Nat.le_refl _
    · have hj : j < 72 := by
        rcases Nat.lt_or_ge j 72 with e | e
        · exact e
        · exact absurd (nI_le (a := 72) e (by omega)) q
      refine v_grd (inb_nI (by omega) (by omega)) ?_
      have kk : ∀ U, RX T b (mJ (j + 1)) U → Ew (f_M_restore_L8 N (nI (z + 15)) (nI (j + 1)) U) (fun U => RX T b (mP 40) U ∧ U.1 0 48 = T.1 40 (b + 1160)) := fun U h => rx_L8 hb N (j + 1) (z + 15) U h (by omega) (by omega) (by omega)
      rw [nI_clamp (n := z) (by omega), h.2.1]
      refine v_i (fun q => ?_) (fun q => ?_)
      · exact rx_j34 (K8 := fun v0 v1 S => f_M_restore_L8 N v0 v1 S) h (by rw [show rsR T b 19 j = if T.1 40 (b + 15 * j + 0) = 1 then 1 else 0 from rfl, Nat.add_zero, ← h3, if_pos q]; rfl) hj h3 (by omega) kk
      · exact rx_j34 (K8 := fun v0 v1 S => f_M_restore_L8 N v0 v1 S) h (by rw [show rsR T b 19 j = if T.1 40 (b + 15 * j + 0) = 1 then 1 else 0 from rfl, Nat.add_zero, ← h3, if_neg q]; rfl) hj h3 (by omega) kk
theorem rx_restore (T : SS) {k : Nat} (hk : k < 16) : Ew (f_M_restore (nI k) T) (fun U => RX T (1161 * k) (mP 40) U ∧ U.1 0 48 = T.1 40 (1161 * k + 1160)) := by
  refine v_eq (f_M_restore.eq_1 _ _) ?_
  refine v_nm ?_
  rw [show (1161 : Int32) * nI k = nI (1161 * k) from nI_mul 1161 k]
  refine rx_L8 (by omega) NF 0 (1161 * k) T ⟨fun a i hi => ?_, fun _ => rfl, fun _ _ => rfl⟩ (by have : NF = 100000 := rfl; omega) (by omega) (by omega)
  have : mJ 0 a = 0 := by
    unfold mJ
    by_cases c : a = 23
    · rw [if_pos c]
    · rw [if_neg c]
      by_cases d : (19 ≤ a ∧ a ≤ 27) ∨ (30 ≤ a ∧ a ≤ 34)
      · rw [if_pos d]
      · rw [if_neg d]
  omega
/-- behind it: the world's numbers are the kept ones, as far as booleans are kept as 0 and 1 -/
theorem rx_sv {T U : SS} {b n : Nat} (h : RX T b (mP 40) U) (hd : U.1 0 48 = T.1 40 (b + 1160)) (hn : n ≤ 72) (hz : ∀ x, x < n → (∀ d, d = 0 ∨ d = 11 ∨ d = 14 → T.1 40 (b + 15 * x + d) = 0 ∨ T.1 40 (b + 15 * x + d) = 1)) : (∀ x d, x < n → d < 15 → sv U (15 * x + d) = T.1 40 (b + 15 * x + d)) ∧ (∀ j, 1080 ≤ j → j < 1161 → sv U j = T.1 40 (b + j)) := by
  have bo : ∀ x d, x < n → d = 0 ∨ d = 11 ∨ d = 14 → (if (if T.1 40 (b + 15 * x + d) = 1 then (1 : Int32) else 0) = 0 then (0 : Int32) else 1) = T.1 40 (b + 15 * x + d) := fun x d hx hd => by
    rcases hz x hx d hd with e | e
    · rw [e]; rfl
    · rw [e]; rfl
  refine ⟨fun x d hx hd => ?_, fun j h1 h2 => ?_⟩
  · have hx2 : x < 72 := by omega
    rcases (show d = 0 ∨ d = 1 ∨ d = 2 ∨ d = 3 ∨ d = 4 ∨ d = 5 ∨ d = 6 ∨ d = 7 ∨ d = 8 ∨ d = 9 ∨ d = 10 ∨ d = 11 ∨ d = 12 ∨ d = 13 ∨ d = 14 by omega) with rfl | rfl | rfl | rfl | rfl | rfl | rfl | rfl | rfl | rfl | rfl | rfl | rfl | rfl | rfl
    · rw [sv_0 U hx2, h.1 19 x (show x < 72 by omega)]; exact bo x 0 hx (by omega)
    · rw [sv_1 U hx2, h.1 20 x (show x < 72 by omega)]; rfl
    · rw [sv_2 U hx2, h.1 21 x (show x < 72 by omega)]; rfl
    · rw [sv_3 U hx2, h.1 22 x (show x < 72 by omega)]; rfl
    · rw [sv_4 U hx2, h.1 23 (2 * x) (show 2 * x < 144 by omega), show rsR T b 23 (2 * x) = T.1 40 (b + 15 * (2 * x / 2) + (4 + 2 * x % 2)) from rfl, show 2 * x / 2 = x by omega, show 2 * x % 2 = 0 by omega]
    · rw [sv_5 U hx2, h.1 23 (2 * x + 1) (show 2 * x + 1 < 144 by omega), show rsR T b 23 (2 * x + 1) = T.1 40 (b + 15 * ((2 * x + 1) / 2) + (4 + (2 * x + 1) % 2)) from rfl, show (2 * x + 1) / 2 = x by omega, show (2 * x + 1) % 2 = 1 by omega]
    · rw [sv_6 U hx2, h.1 24 x (show x < 72 by omega)]; rfl
    · rw [sv_7 U hx2, h.1 25 x (show x < 72 by omega)]; rfl
    · rw [sv_8 U hx2, h.1 26 x (show x < 72 by omega)]; rfl
    · rw [sv_9 U hx2, h.1 27 x (show x < 72 by omega)]; rfl
    · rw [sv_10 U hx2, h.1 30 x (show x < 72 by omega)]; rfl
    · rw [sv_11 U hx2, h.1 31 x (show x < 72 by omega)]; exact bo x 11 hx (by omega)
    · rw [sv_12 U hx2, h.1 32 x (show x < 72 by omega)]; rfl
    · rw [sv_13 U hx2, h.1 33 x (show x < 72 by omega)]; rfl
    · rw [sv_14 U hx2, h.1 34 x (show x < 72 by omega)]; exact bo x 14 hx (by omega)
  · by_cases e : j = 1160
    · subst e; rw [sv_d, hd]
    · obtain ⟨p, hp, hj⟩ : ∃ p, p < 40 ∧ (j = 1080 + 2 * p ∨ j = 1080 + 2 * p + 1) := ⟨(j - 1080) / 2, by omega, by omega⟩
      rcases hj with rfl | rfl
      · rw [sv_s U hp, h.1 10 p (show p < 40 from hp)]; exact congrArg (T.1 40) (by omega)
      · rw [sv_l U hp, h.1 11 p (show p < 40 from hp)]; exact congrArg (T.1 40) (by omega)
/-! ===== kept worlds ===== -/
def Kp (n np nt : Nat) (pl kf : Nat → Int32) (B : Int) (u b o : Nat) (k : Nat → Int32) (w : Nat → Nat → Int32) : Prop := (u + b ≤ 8) ∧ (o < 8) ∧ (∀ s, s < u → Rw n np nt pl kf B (fun j => k (1161 * s + j)) (w ((o + s) % 8))) ∧ (∀ s, s < b → Rw n np nt pl kf B (fun j => k (1161 * (8 + s) + j)) (w ((o + u + (b - 1 - s)) % 8)))
theorem Kp.ub {n np nt : Nat} {pl kf : Nat → Int32} {B : Int} {u b o : Nat} {k : Nat → Int32} {w : Nat → Nat → Int32} (h_ : Kp n np nt pl kf B u b o k w) : u + b ≤ 8 := h_.1
theorem Kp.o8 {n np nt : Nat} {pl kf : Nat → Int32} {B : Int} {u b o : Nat} {k : Nat → Int32} {w : Nat → Nat → Int32} (h_ : Kp n np nt pl kf B u b o k w) : o < 8 := h_.2.1
theorem Kp.un {n np nt : Nat} {pl kf : Nat → Int32} {B : Int} {u b o : Nat} {k : Nat → Int32} {w : Nat → Nat → Int32} (h_ : Kp n np nt pl kf B u b o k w) : ∀ s, s < u → Rw n np nt pl kf B (fun j => k (1161 * s + j)) (w ((o + s) % 8)) := h_.2.2.1
theorem Kp.bk {n np nt : Nat} {pl kf : Nat → Int32} {B : Int} {u b o : Nat} {k : Nat → Int32} {w : Nat → Nat → Int32} (h_ : Kp n np nt pl kf B u b o k w) : ∀ s, s < b → Rw n np nt pl kf B (fun j => k (1161 * (8 + s) + j)) (w ((o + u + (b - 1 - s)) % 8)) := h_.2.2.2
theorem Kp.mk_ {n np nt : Nat} {pl kf : Nat → Int32} {B : Int} {u b o : Nat} {k : Nat → Int32} {w : Nat → Nat → Int32} (ub_ : u + b ≤ 8) (o8_ : o < 8) (un_ : ∀ s, s < u → Rw n np nt pl kf B (fun j => k (1161 * s + j)) (w ((o + s) % 8))) (bk_ : ∀ s, s < b → Rw n np nt pl kf B (fun j => k (1161 * (8 + s) + j)) (w ((o + u + (b - 1 - s)) % 8))) : Kp n np nt pl kf B u b o k w := ⟨ub_, o8_, un_, bk_⟩
/-- which of the kept worlds go when there are eight -/
def kd (u : Nat) : Nat := if u = 8 then 1 else 0
section KP
variable {n np nt : Nat} {pl kf : Nat → Int32} {B : Int} {u b o : Nat} {k k' : Nat → Int32} {w w' : Nat → Nat → Int32} {K c : Nat → Int32}
theorem Rw.same {K' : Nat → Int32} {c' : Nat → Int32} (h : Rw n np nt pl kf B K c) (hn : n ≤ 72) (hp : np ≤ 40) (eK : ∀ j, j < 1161 → K' j = K j) (ec : ∀ j, j < 154 + 11 * n → c' j = c j) : Rw n np nt pl kf B K' c' := h.congr hn hp (Int.le_refl _) (fun x d hx hd => eK _ (by omega)) (fun j _ hj => eK _ hj) ec
theorem Kp.keep (h : Kp n np nt pl kf B u b o k w) (hn : n ≤ 72) (hp : np ≤ 40) (hw : Rw n np nt pl kf B K c) (e1 : ∀ s, s < u - kd u → ∀ j, j < 1161 → k' (1161 * s + j) = k (1161 * (s + kd u) + j)) (e2 : ∀ j, j < 1161 → k' (1161 * (u - kd u) + j) = K j) (f1 : ∀ i, i < 8 → i ≠ (o + u) % 8 → w' i = w i) (f2 : ∀ j, j < 154 + 11 * n → w' ((o + u) % 8) j = c j) : Kp n np nt pl kf B (u - kd u + 1) 0 ((o + kd u) % 8) k' w' := by
  have hub := h.ub
  have ho := h.o8
  have hd : (u = 8 ∧ kd u = 1) ∨ (u < 8 ∧ kd u = 0) := by
    unfold kd
    by_cases e : u = 8
    · left; rw [if_pos e]; exact ⟨e, rfl⟩
    · right; rw [if_neg e]; exact ⟨by omega, rfl⟩
  refine ⟨by omega, by omega, fun s hs => ?_, fun s hs => by omega⟩
  by_cases e : s = u - kd u
  · subst e
    rw [show ((o + kd u) % 8 + (u - kd u)) % 8 = (o + u) % 8 by omega]
    exact hw.same hn hp e2 f2
  · have := h.un (s + kd u) (by omega)
    rw [show (o + (s + kd u)) % 8 = ((o + kd u) % 8 + s) % 8 by omega] at this
    refine this.same hn hp (fun j hj => e1 s (by omega) j hj) (fun j hj => ?_)
    rw [f1 _ (by omega) (by omega)]
theorem Kp.undo (h : Kp n np nt pl kf B (u + 1) b o k w) (hn : n ≤ 72) (hp : np ≤ 40) (hw : Rw n np nt pl kf B K c) (e1 : ∀ s, s ≠ 8 + b → ∀ j, j < 1161 → k' (1161 * s + j) = k (1161 * s + j)) (e2 : ∀ j, j < 1161 → k' (1161 * (8 + b) + j) = K j) (f1 : ∀ i, i < 8 → i ≠ (o + u) % 8 → w' i = w i) (f2 : w' ((o + u) % 8) = c) : Kp n np nt pl kf B u (b + 1) o k' w' ∧ Rw n np nt pl kf B (fun j => k (1161 * u + j)) (w ((o + u) % 8)) := by
  have hub := h.ub
  have ho := h.o8
  refine ⟨⟨by omega, by omega, fun s hs => ?_, fun s hs => ?_⟩, h.un u (by omega)⟩
  · refine (h.un s (by omega)).same hn hp (fun j hj => e1 s (by omega) j hj) (fun j hj => ?_)
    rw [f1 _ (by omega) (by omega)]
  · by_cases e : s = b
    · subst e
      rw [show (o + u + (s + 1 - 1 - s)) % 8 = (o + u) % 8 by omega, f2]
      exact hw.same hn hp e2 (fun j _ => rfl)
    · have := h.bk s (by omega)
      rw [show (o + (u + 1) + (b - 1 - s)) % 8 = (o + u + (b + 1 - 1 - s)) % 8 by omega] at this
      refine this.same hn hp (fun j hj => e1 (8 + s) (by omega) j hj) (fun j hj => ?_)
      rw [f1 _ (by omega) (by omega)]
theorem Kp.back (h : Kp n np nt pl kf B u (b + 1) o k w) (hn : n ≤ 72) (hp : np ≤ 40) (hw : Rw n np nt pl kf B K c) (e1 : ∀ s, s ≠ u → ∀ j, j < 1161 → k' (1161 * s + j) = k (1161 * s + j)) (e2 : ∀ j, j < 1161 → k' (1161 * u + j) = K j) (f1 : ∀ i, i < 8 → i ≠ (o + u) % 8 → w' i = w i) (f2 : w' ((o + u) % 8) = c) : Kp n np nt pl kf B (u + 1) b o k' w' ∧ Rw n np nt pl kf B (fun j => k (1161 * (8 + b) + j)) (w ((o + u) % 8)) := by
  have hub := h.ub
  have ho := h.o8
  refine ⟨⟨by omega, by omega, fun s hs => ?_, fun s hs => ?_⟩, ?_⟩
  · by_cases e : s = u
    · subst e
      rw [f2]
      exact hw.same hn hp e2 (fun j _ => rfl)
    · refine (h.un s (by omega)).same hn hp (fun j hj => e1 s e j hj) (fun j hj => ?_)
      rw [f1 _ (by omega) (by omega)]
  · have := h.bk s (by omega)
    rw [show (o + u + (b + 1 - 1 - s)) % 8 = (o + (u + 1) + (b - 1 - s)) % 8 by omega] at this
    refine this.same hn hp (fun j hj => e1 (8 + s) (by omega) j hj) (fun j hj => ?_)
    rw [f1 _ (by omega) (by omega)]
  · have := h.bk b (by omega)
    rw [show (o + u + (b + 1 - 1 - b)) % 8 = (o + u) % 8 by omega] at this
    exact this
theorem Kp.none_ (h : o < 8) : Kp n np nt pl kf B 0 0 o k w := ⟨by omega, h, fun s hs => by omega, fun s hs => by omega⟩
theorem Kp.grow {B' : Int} (h : Kp n np nt pl kf B u b o k w) (hn : n ≤ 72) (hp : np ≤ 40) (hB : B ≤ B') : Kp n np nt pl kf B' u b o k w := ⟨h.ub, h.o8, fun s hs => (h.un s hs).congr hn hp hB (fun _ _ _ _ => rfl) (fun _ _ _ => rfl) (fun _ _ => rfl), fun s hs => (h.bk s hs).congr hn hp hB (fun _ _ _ _ => rfl) (fun _ _ _ => rfl) (fun _ _ => rfl)⟩
end KP
/-! ===== keep, both sides, exactly ===== -/
theorem kd_cases {u : Nat} (h : u ≤ 8) : (u = 8 ∧ kd u = 1) ∨ (u < 8 ∧ kd u = 0) := by
  unfold kd
  by_cases e : u = 8
  · left; rw [if_pos e]; exact ⟨e, rfl⟩
  · right; rw [if_neg e]; exact ⟨by omega, rfl⟩
/-- the class keeps its row -/
def CK (S : SS) (n u o : Nat) (U : SS) : Prop := (U.1 64 6 = nI (u - kd u + 1)) ∧ (U.1 64 7 = nI 0) ∧ (U.1 64 3 = nI ((o + kd u) % 8)) ∧ (∀ i, i < 8 → i ≠ (o + u) % 8 → U.1 (81 + i) = S.1 (81 + i)) ∧ (∀ j, j < 154 + 11 * n → U.1 (81 + (o + u) % 8) j = S.1 79 j) ∧ (∀ k, k ≠ 62 → k ≠ 64 → (k < 81 ∨ 88 < k) → U.1 k = S.1 k) ∧ (U.1 62 2 = S.1 62 2) ∧ (∀ i, i ≠ 3 → i ≠ 6 → i ≠ 7 → U.1 64 i = S.1 64 i)
theorem CK.c6 {S : SS} {n u o : Nat} {U : SS} (h_ : CK S n u o U) : U.1 64 6 = nI (u - kd u + 1) := h_.1
theorem CK.c7 {S : SS} {n u o : Nat} {U : SS} (h_ : CK S n u o U) : U.1 64 7 = nI 0 := h_.2.1
theorem CK.c3 {S : SS} {n u o : Nat} {U : SS} (h_ : CK S n u o U) : U.1 64 3 = nI ((o + kd u) % 8) := h_.2.2.1
theorem CK.no {S : SS} {n u o : Nat} {U : SS} (h_ : CK S n u o U) : ∀ i, i < 8 → i ≠ (o + u) % 8 → U.1 (81 + i) = S.1 (81 + i) := h_.2.2.2.1
theorem CK.ye {S : SS} {n u o : Nat} {U : SS} (h_ : CK S n u o U) : ∀ j, j < 154 + 11 * n → U.1 (81 + (o + u) % 8) j = S.1 79 j := h_.2.2.2.2.1
theorem CK.fr {S : SS} {n u o : Nat} {U : SS} (h_ : CK S n u o U) : ∀ k, k ≠ 62 → k ≠ 64 → (k < 81 ∨ 88 < k) → U.1 k = S.1 k := h_.2.2.2.2.2.1
theorem CK.f62 {S : SS} {n u o : Nat} {U : SS} (h_ : CK S n u o U) : U.1 62 2 = S.1 62 2 := h_.2.2.2.2.2.2.1
theorem CK.f4 {S : SS} {n u o : Nat} {U : SS} (h_ : CK S n u o U) : ∀ i, i ≠ 3 → i ≠ 6 → i ≠ 7 → U.1 64 i = S.1 64 i := h_.2.2.2.2.2.2.2
theorem CK.mk_ {S : SS} {n u o : Nat} {U : SS} (c6_ : U.1 64 6 = nI (u - kd u + 1)) (c7_ : U.1 64 7 = nI 0) (c3_ : U.1 64 3 = nI ((o + kd u) % 8)) (no_ : ∀ i, i < 8 → i ≠ (o + u) % 8 → U.1 (81 + i) = S.1 (81 + i)) (ye_ : ∀ j, j < 154 + 11 * n → U.1 (81 + (o + u) % 8) j = S.1 79 j) (fr_ : ∀ k, k ≠ 62 → k ≠ 64 → (k < 81 ∨ 88 < k) → U.1 k = S.1 k) (f62_ : U.1 62 2 = S.1 62 2) (f4_ : ∀ i, i ≠ 3 → i ≠ 6 → i ≠ 7 → U.1 64 i = S.1 64 i) : CK S n u o U := ⟨c6_, c7_, c3_, no_, ye_, fr_, f62_, f4_⟩
theorem ck_j33 {S T : SS} {n u o : Nat} (hn : S.1 63 1 = nI n) (h72 : n ≤ 72) (hu : u ≤ 8) (ho : o < 8) (e6 : T.1 64 6 = nI (u - kd u)) (e3 : T.1 64 3 = nI ((o + kd u) % 8)) (e7 : T.1 64 7 = nI 0) (er : ∀ k, k ≠ 64 → T.1 k = S.1 k) (e4 : ∀ i, i ≠ 3 → i ≠ 6 → i ≠ 7 → T.1 64 i = S.1 64 i) : Ew (f_History_keep_j33 T) (CK S n u o) := by
  have hd := kd_cases hu
  refine v_eq (f_History_keep_j33.eq_1 _) ?_
  rw [show f_History_border T = some (((T.1 64 3) + (T.1 64 6)) - ((T.1 64 3) + (T.1 64 6)) / (8 : Int32) * (8 : Int32), T) from rfl, bnd_r, e3, e6, nI_add, show nI ((o + kd u) % 8 + (u - kd u)) - nI ((o + kd u) % 8 + (u - kd u)) / (8 : Int32) * (8 : Int32) = nI (((o + kd u) % 8 + (u - kd u)) % 8) from nI_rem (b := 8) (by omega) (by omega) (by omega), show ((o + kd u) % 8 + (u - kd u)) % 8 = (o + u) % 8 by omega]
  refine v_grd (inb_nI (by omega) (by omega)) ?_
  rw [show f_State_usedCells T = some ((154 : Int32) + ((11 : Int32) * (T.1 63 1)), T) from rfl, bnd_r, er 63 (by decide), hn, show (11 : Int32) * nI n = nI (11 * n) from nI_mul 11 n, show (154 : Int32) + nI (11 * n) = nI (154 + 11 * n) from nI_add 154 (11 * n)]
  refine v_grd (cpok_n (a := 0) (d := 0) (by omega) (by omega) (by omega) (by omega)) ?_
  rw [nI_clamp (n := (o + u) % 8) (by omega), nI_clamp (n := 154 + 11 * n) (by omega)]
  refine v_cpw ?_
  refine v_wr ?_
  have kb81 : kb + (o + u) % 8 = 81 + (o + u) % 8 := rfl
  rw [kb81, cp_row _ _ _ _ _ _ (by omega), e6]
  refine v_some ⟨?_, ?_, ?_, fun i hi hne => ?_, fun j hj => ?_, fun k h0 h1 h2 => ?_, ?_, fun i i1 i2 i3 => ?_⟩
  · rw [st_here, nI_1]
  · rw [st_no (by omega), cp_row _ _ _ _ _ _ (by omega), e7]
  · rw [st_no (by omega), cp_row _ _ _ _ _ _ (by omega), e3]
  · rw [st_row _ _ _ _ (by omega), cp_row _ _ _ _ _ _ (by omega), er _ (by omega)]
  · rw [st_row _ _ _ _ (by omega), cp_v rfl, show (0 : Int32).toNatClampNeg = 0 from rfl, if_pos (by omega), er 79 (by decide), show 0 + (j - 0) = j by omega]
  · rw [st_row _ _ _ _ (by omega), cp_row _ _ _ _ _ _ (by omega), er _ (by omega)]
  · rw [st_row _ _ _ _ (by omega), cp_row _ _ _ _ _ _ (by omega), er _ (by omega)]
  · rw [st_no (by omega), cp_row _ _ _ _ _ _ (by omega), e4 i i1 i2 i3]
theorem ck_keep {S : SS} {n u o : Nat} (hn : S.1 63 1 = nI n) (h72 : n ≤ 72) (hu : u ≤ 8) (ho : o < 8) (e6 : S.1 64 6 = nI u) (e3 : S.1 64 3 = nI o) : Ew (f_History_keep S) (CK S n u o) := by
  refine v_eq (f_History_keep.eq_1 _) ?_
  refine v_wr ?_
  rw [st_no (by omega), e6]
  refine v_i (fun q => ?_) (fun q => ?_)
  · have hu8 : u < 8 := (nI_ltJ (b := 8) (by omega) (by omega)).mp q
    have hd : kd u = 0 := by unfold kd; rw [if_neg (by omega)]
    refine ck_j33 hn h72 hu ho ?_ ?_ ?_ (fun k hk => st_row _ _ _ _ hk) (fun i i1 i2 i3 => st_no (by omega))
    · rw [st_no (by omega), e6, hd]; rfl
    · rw [st_no (by omega), e3, hd, Nat.add_zero, Nat.mod_eq_of_lt ho]
    · rw [st_here]; rfl
  · have hu8 : u = 8 := by
      rcases Nat.lt_or_ge u 8 with e | e
      · exact absurd ((nI_ltJ (b := 8) (by omega) (by omega)).mpr e) q
      · omega
    have hd : kd u = 1 := by unfold kd; rw [if_pos hu8]
    refine v_wr ?_
    refine v_wr ?_
    have eo : (st S 64 7 0).1 64 3 + 1 = nI (o + 1) := by rw [st_no (by omega), e3, nI_1]
    rw [eo, show nI (o + 1) - nI (o + 1) / (8 : Int32) * (8 : Int32) = nI ((o + 1) % 8) from nI_rem (b := 8) (by omega) (by omega) (by omega)]
    refine ck_j33 hn h72 hu ho ?_ ?_ ?_ (fun k hk => by rw [st_row _ _ _ _ hk, st_row _ _ _ _ hk, st_row _ _ _ _ hk]) (fun i i1 i2 i3 => by rw [st_no (by omega), st_no (by omega), st_no (by omega)])
    · rw [st_here, hu8]; rfl
    · rw [st_no (by omega), st_here, hd]
    · rw [st_no (by omega), st_no (by omega), st_here]; rfl
/-- the reference keeps its world -/
def MK_ (S : SS) (u : Nat) (U : SS) : Prop := (U.1 0 60 = nI (u - kd u + 1)) ∧ (U.1 0 61 = nI 0) ∧ (∀ s, s < u - kd u → ∀ j, j < 1161 → U.1 40 (1161 * s + j) = S.1 40 (1161 * (s + kd u) + j)) ∧ (∀ j, j < 1161 → U.1 40 (1161 * (u - kd u) + j) = sv S j)
theorem MK_.m0 {S : SS} {u : Nat} {U : SS} (h_ : MK_ S u U) : U.1 0 60 = nI (u - kd u + 1) := h_.1
theorem MK_.m1 {S : SS} {u : Nat} {U : SS} (h_ : MK_ S u U) : U.1 0 61 = nI 0 := h_.2.1
theorem MK_.sh {S : SS} {u : Nat} {U : SS} (h_ : MK_ S u U) : ∀ s, s < u - kd u → ∀ j, j < 1161 → U.1 40 (1161 * s + j) = S.1 40 (1161 * (s + kd u) + j) := h_.2.2.1
theorem MK_.nw {S : SS} {u : Nat} {U : SS} (h_ : MK_ S u U) : ∀ j, j < 1161 → U.1 40 (1161 * (u - kd u) + j) = sv S j := h_.2.2.2
theorem MK_.mk_ {S : SS} {u : Nat} {U : SS} (m0_ : U.1 0 60 = nI (u - kd u + 1)) (m1_ : U.1 0 61 = nI 0) (sh_ : ∀ s, s < u - kd u → ∀ j, j < 1161 → U.1 40 (1161 * s + j) = S.1 40 (1161 * (s + kd u) + j)) (nw_ : ∀ j, j < 1161 → U.1 40 (1161 * (u - kd u) + j) = sv S j) : MK_ S u U := ⟨m0_, m1_, sh_, nw_⟩
theorem sv_of {S T : SS} (h : ∀ k, k ≠ 40 → k ≠ 0 → T.1 k = S.1 k) (h0 : T.1 0 48 = S.1 0 48) (j : Nat) : sv T j = sv S j := by
  unfold sv
  rw [h 19 (by decide) (by decide), h 20 (by decide) (by decide), h 21 (by decide) (by decide), h 22 (by decide) (by decide), h 23 (by decide) (by decide), h 24 (by decide) (by decide), h 25 (by decide) (by decide), h 26 (by decide) (by decide), h 27 (by decide) (by decide), h 30 (by decide) (by decide), h 31 (by decide) (by decide), h 32 (by decide) (by decide), h 33 (by decide) (by decide), h 34 (by decide) (by decide), h 10 (by decide) (by decide), h 11 (by decide) (by decide), h0]
theorem mk_j50 {S T : SS} {u : Nat} (hu : u ≤ 8) (h60 : T.1 0 60 = nI (u - kd u)) (hs : ∀ s, s < u - kd u → ∀ j, j < 1161 → T.1 40 (1161 * s + j) = S.1 40 (1161 * (s + kd u) + j)) (hv : ∀ j, sv T j = sv S j) : Ew (f_M_keep_j50 T) (MK_ S u) := by
  have hd := kd_cases hu
  refine v_eq (f_M_keep_j50.eq_1 _) ?_
  rw [h60]
  refine v_cV (sw_save T (k := u - kd u) (by omega)) (fun V hV => ?_)
  refine v_wr ?_
  refine v_wr ?_
  rw [hV.1 0 (by decide), h60]
  refine v_some ⟨?_, ?_, fun s h1 j hj => ?_, fun j hj => ?_⟩
  · rw [st_no (by omega), st_here, nI_1]
  · rw [st_here]; rfl
  · rw [st_row _ _ _ _ (by decide), st_row _ _ _ _ (by decide), hV.2.2, if_neg (by omega)]; exact hs s h1 j hj
  · rw [st_row _ _ _ _ (by decide), st_row _ _ _ _ (by decide), hV.2.2, if_pos (by omega), hv]; exact congrArg (sv S) (by omega)
theorem mk_L11 {S : SS} (h60 : S.1 0 60 = nI 8) : ∀ (N m : Nat) (T : SS), (∀ a, a ≠ 40 → T.1 a = S.1 a) → (∀ i, T.1 40 i = if i < m then S.1 40 (i + 1161) else S.1 40 i) → m ≤ 8127 → 8127 < N + m → Ew (f_M_keep_L11 N (nI m) T) (MK_ S 8)
  | 0, m, T, e1, e3, hm, hN => by omega
  | N + 1, m, T, e1, e3, hm, hN => by
    refine v_eq (f_M_keep_L11.eq_2 _ _ _) ?_
    refine v_i (fun q => ?_) (fun q => ?_)
    · have hm : m = 8127 := by
        rcases Nat.lt_or_ge m 8127 with e | e
        · exact absurd q (nI_ge (b := 8127) e (by omega))
        · omega
      subst hm
      refine v_wr ?_
      rw [e1 0 (by decide), h60]
      refine mk_j50 (u := 8) (by omega) (by rw [st_here]; rfl) (fun s hs j hj => ?_) (fun j => sv_of (fun k h1 h2 => by rw [st_row _ _ _ _ h2, e1 k h1]) (by rw [st_no (by omega), e1 0 (by decide)]) j)
      have hs7 : s < 7 := hs
      rw [st_row _ _ _ _ (by decide), e3, if_pos (by omega), show kd 8 = 1 from rfl]
      exact congrArg (S.1 40) (by omega)
    · have hm : m < 8127 := by
        rcases Nat.lt_or_ge m 8127 with e | e
        · exact e
        · exact absurd (nI_le (a := 8127) e (by omega)) q
      refine v_grd (inb_of (nI_add m 1161) (by omega) (by omega)) ?_
      refine v_grd (inb_nI (by omega) (by omega)) ?_
      refine v_wr ?_
      refine v_nm ?_
      rw [nI_1, nI_clamp (n := m) (by omega), show (nI m + 1161).toNatClampNeg = m + 1161 from clz m 1161 (by omega)]
      refine mk_L11 h60 N (m + 1) _ (fun a ha => by rw [st_row _ _ _ _ ha]; exact e1 a ha) (fun i => ?_) (by omega) (by omega)
      rw [st_at, if_pos rfl]
      by_cases e : i = m
      · rw [if_pos e, e3, if_neg (by omega), if_pos (by omega), e]
      · rw [if_neg e, e3]
        by_cases e' : i < m
        · rw [if_pos e', if_pos (by omega)]
        · rw [if_neg e', if_neg (by omega)]
theorem mk_keep {S : SS} {u : Nat} (hu : u ≤ 8) (h60 : S.1 0 60 = nI u) : Ew (f_M_keep S) (MK_ S u) := by
  refine v_eq (f_M_keep.eq_1 _) ?_
  refine v_i (fun q => ?_) (fun q => ?_)
  · have hu : u = 8 := (nI_eq (b := 8) (by omega) (by omega)).mp (h60.symm.trans q)
    subst hu
    exact mk_L11 h60 NF 0 S (fun _ _ => rfl) (fun i => by rw [if_neg (by omega)]) (by omega) (by have : NF = 100000 := rfl; omega)
  · have hu8 : u ≠ 8 := fun e => q (by rw [h60, e]; rfl)
    have hd : kd u = 0 := by unfold kd; rw [if_neg hu8]
    exact mk_j50 hu (by rw [hd]; exact h60) (fun s hs j hj => by rw [hd]; rfl) (fun _ => rfl)
/-! ===== undo and back ===== -/
def Rst (n np nt : Nat) (S : SS) : Prop := (n ≤ 72) ∧ (np ≤ 40) ∧ (nt ≤ 24) ∧ (S.1 63 1 = nI n) ∧ (S.1 0 29 = nI n) ∧ (S.1 66 8 = nI np) ∧ (S.1 0 15 = nI np) ∧ (S.1 66 7 = nI nt) ∧ (S.1 0 7 = nI nt) ∧ (Rw n np nt (S.1 3) (S.1 18) (S.1 0 47).toInt (sv S) (S.1 79)) ∧ (∃ u b o, S.1 0 60 = nI u ∧ S.1 0 61 = nI b ∧ S.1 64 6 = nI u ∧ S.1 64 7 = nI b ∧ S.1 64 3 = nI o ∧ Kp n np nt (S.1 3) (S.1 18) (S.1 0 47).toInt u b o (S.1 40) (fun i => S.1 (81 + i)))
theorem Rst.n72 {n np nt : Nat} {S : SS} (h_ : Rst n np nt S) : n ≤ 72 := h_.1
theorem Rst.np40 {n np nt : Nat} {S : SS} (h_ : Rst n np nt S) : np ≤ 40 := h_.2.1
theorem Rst.nt24 {n np nt : Nat} {S : SS} (h_ : Rst n np nt S) : nt ≤ 24 := h_.2.2.1
theorem Rst.cn {n np nt : Nat} {S : SS} (h_ : Rst n np nt S) : S.1 63 1 = nI n := h_.2.2.2.1
theorem Rst.mn {n np nt : Nat} {S : SS} (h_ : Rst n np nt S) : S.1 0 29 = nI n := h_.2.2.2.2.1
theorem Rst.cp {n np nt : Nat} {S : SS} (h_ : Rst n np nt S) : S.1 66 8 = nI np := h_.2.2.2.2.2.1
theorem Rst.mp {n np nt : Nat} {S : SS} (h_ : Rst n np nt S) : S.1 0 15 = nI np := h_.2.2.2.2.2.2.1
theorem Rst.ct {n np nt : Nat} {S : SS} (h_ : Rst n np nt S) : S.1 66 7 = nI nt := h_.2.2.2.2.2.2.2.1
theorem Rst.mt {n np nt : Nat} {S : SS} (h_ : Rst n np nt S) : S.1 0 7 = nI nt := h_.2.2.2.2.2.2.2.2.1
theorem Rst.w {n np nt : Nat} {S : SS} (h_ : Rst n np nt S) : Rw n np nt (S.1 3) (S.1 18) (S.1 0 47).toInt (sv S) (S.1 79) := h_.2.2.2.2.2.2.2.2.2.1
theorem Rst.k {n np nt : Nat} {S : SS} (h_ : Rst n np nt S) : ∃ u b o, S.1 0 60 = nI u ∧ S.1 0 61 = nI b ∧ S.1 64 6 = nI u ∧ S.1 64 7 = nI b ∧ S.1 64 3 = nI o ∧ Kp n np nt (S.1 3) (S.1 18) (S.1 0 47).toInt u b o (S.1 40) (fun i => S.1 (81 + i)) := h_.2.2.2.2.2.2.2.2.2.2
theorem Rst.mk_ {n np nt : Nat} {S : SS} (n72_ : n ≤ 72) (np40_ : np ≤ 40) (nt24_ : nt ≤ 24) (cn_ : S.1 63 1 = nI n) (mn_ : S.1 0 29 = nI n) (cp_ : S.1 66 8 = nI np) (mp_ : S.1 0 15 = nI np) (ct_ : S.1 66 7 = nI nt) (mt_ : S.1 0 7 = nI nt) (w_ : Rw n np nt (S.1 3) (S.1 18) (S.1 0 47).toInt (sv S) (S.1 79)) (k_ : ∃ u b o, S.1 0 60 = nI u ∧ S.1 0 61 = nI b ∧ S.1 64 6 = nI u ∧ S.1 64 7 = nI b ∧ S.1 64 3 = nI o ∧ Kp n np nt (S.1 3) (S.1 18) (S.1 0 47).toInt u b o (S.1 40) (fun i => S.1 (81 + i))) : Rst n np nt S := ⟨n72_, np40_, nt24_, cn_, mn_, cp_, mp_, ct_, mt_, w_, k_⟩
theorem Rw.bo {n np nt : Nat} {pl kf : Nat → Int32} {B : Int} {K c : Nat → Int32} (h : Rw n np nt pl kf B K c) {x d : Nat} (hx : x < n) (hd : d = 0 ∨ d = 11 ∨ d = 14) : K (15 * x + d) = 0 ∨ K (15 * x + d) = 1 := by
  have t := h.th x hx
  rcases hd with rfl | rfl | rfl
  · rcases t.at_ with e | e
    · exact Or.inl e.1
    · exact Or.inr e.1
  · rcases t.run0 with e | e
    · exact Or.inl e.1
    · exact Or.inr e.1
  · exact t.tb
theorem Rw.bo72 {n np nt : Nat} {pl kf : Nat → Int32} {B : Int} {K c : Nat → Int32} (h : Rw n np nt pl kf B K c) {x d : Nat} (hx : x < 72) (hd : d = 0 ∨ d = 11 ∨ d = 14) : K (15 * x + d) = 0 ∨ K (15 * x + d) = 1 := by
  rcases Nat.lt_or_ge x n with q | q
  · exact h.bo q hd
  · exact Or.inl (h.nw x d q hx (by omega))
/-- the reference's undo and back: place q of the kept worlds is filled, place p given back -/
def MU (S : SS) (n p q : Nat) (U : SS) : Prop := (∀ s, s ≠ q → ∀ j, j < 1161 → U.1 40 (1161 * s + j) = S.1 40 (1161 * s + j)) ∧ (∀ j, j < 1161 → U.1 40 (1161 * q + j) = sv S j) ∧ (∀ x d, x < n → d < 15 → sv U (15 * x + d) = S.1 40 (1161 * p + 15 * x + d)) ∧ (∀ j, 1080 ≤ j → j < 1161 → sv U j = S.1 40 (1161 * p + j))
theorem MU.no {S : SS} {n p q : Nat} {U : SS} (h_ : MU S n p q U) : ∀ s, s ≠ q → ∀ j, j < 1161 → U.1 40 (1161 * s + j) = S.1 40 (1161 * s + j) := h_.1
theorem MU.ye {S : SS} {n p q : Nat} {U : SS} (h_ : MU S n p q U) : ∀ j, j < 1161 → U.1 40 (1161 * q + j) = sv S j := h_.2.1
theorem MU.th {S : SS} {n p q : Nat} {U : SS} (h_ : MU S n p q U) : ∀ x d, x < n → d < 15 → sv U (15 * x + d) = S.1 40 (1161 * p + 15 * x + d) := h_.2.2.1
theorem MU.pt {S : SS} {n p q : Nat} {U : SS} (h_ : MU S n p q U) : ∀ j, 1080 ≤ j → j < 1161 → sv U j = S.1 40 (1161 * p + j) := h_.2.2.2
theorem MU.mk_ {S : SS} {n p q : Nat} {U : SS} (no_ : ∀ s, s ≠ q → ∀ j, j < 1161 → U.1 40 (1161 * s + j) = S.1 40 (1161 * s + j)) (ye_ : ∀ j, j < 1161 → U.1 40 (1161 * q + j) = sv S j) (th_ : ∀ x d, x < n → d < 15 → sv U (15 * x + d) = S.1 40 (1161 * p + 15 * x + d)) (pt_ : ∀ j, 1080 ≤ j → j < 1161 → sv U j = S.1 40 (1161 * p + j)) : MU S n p q U := ⟨no_, ye_, th_, pt_⟩
theorem mu_rest {S T V : SS} {n p q : Nat} (hn : n ≤ 72) (hp : p < 16) (hpq : p ≠ q) (hT : AG S (1161 * q) (1161 * q + 1161) T) (hV : ∀ i, V.1 40 i = T.1 40 i) (hz : ∀ x, x < n → ∀ d, d = 0 ∨ d = 11 ∨ d = 14 → S.1 40 (1161 * p + 15 * x + d) = 0 ∨ S.1 40 (1161 * p + 15 * x + d) = 1) : Ew (f_M_restore (nI p) V) (fun U => MU S n p q U ∧ ∀ i, i ≠ 48 → U.1 0 i = V.1 0 i) := by
  have e : ∀ j, j < 1161 → V.1 40 (1161 * p + j) = S.1 40 (1161 * p + j) := fun j hj => by rw [hV, hT.2.2, if_neg (by omega)]
  refine v_mono (rx_restore V hp) (fun U hU => ?_)
  obtain ⟨h1, h2⟩ := hU
  have hz' : ∀ x, x < n → (∀ d, d = 0 ∨ d = 11 ∨ d = 14 → V.1 40 (1161 * p + 15 * x + d) = 0 ∨ V.1 40 (1161 * p + 15 * x + d) = 1) := fun x hx d hd => by
    rw [Nat.add_assoc, e _ (by omega), ← Nat.add_assoc]; exact hz x hx d hd
  obtain ⟨g1, g2⟩ := rx_sv h1 h2 hn hz'
  refine ⟨⟨fun s hs j hj => ?_, fun j hj => ?_, fun x d hx hd => ?_, fun j j1 j2 => ?_⟩, h1.2.2⟩
  · rw [h1.2.1, hV, hT.2.2, if_neg (by omega)]
  · rw [h1.2.1, hV, hT.2.2, if_pos (by omega)]; exact congrArg (sv S) (by omega)
  · rw [g1 x d hx hd, Nat.add_assoc, e _ (by omega), ← Nat.add_assoc]
  · rw [g2 j j1 j2, e j j2]
theorem mu_undo {S : SS} {n u b : Nat} (hn : n ≤ 72) (hub : u + 1 + b ≤ 8) (h60 : S.1 0 60 = nI (u + 1)) (h61 : S.1 0 61 = nI b) (hz : ∀ x, x < n → ∀ d, d = 0 ∨ d = 11 ∨ d = 14 → S.1 40 (1161 * u + 15 * x + d) = 0 ∨ S.1 40 (1161 * u + 15 * x + d) = 1) : Ex2 (f_M_undo S) (fun r U => r = 1 ∧ MU S n u (8 + b) U ∧ U.1 0 60 = nI u ∧ U.1 0 61 = nI (b + 1)) := by
  refine e_eq (f_M_undo.eq_1 _) ?_
  refine e_f (by rw [h60]; exact fun q => by have := (nI_eq (a := u + 1) (b := 0) (by omega) (by omega)).mp q; omega) ?_
  rw [h61, show (8 : Int32) + nI b = nI (8 + b) from nI_add 8 b]
  refine e_cV (sw_save S (k := 8 + b) (by omega)) (fun T hT => ?_)
  refine e_wr ?_
  refine e_wr ?_
  rw [st_here, st_no (by omega), hT.1 0 (by decide), h60, nI_pred]
  refine e_cV (mu_rest hn (p := u) (q := 8 + b) (by omega) (by omega) hT (fun i => by rw [st_row _ _ _ _ (by decide), st_row _ _ _ _ (by decide)]) hz) (fun U hU => ?_)
  refine e_some ⟨rfl, hU.1, ?_, ?_⟩
  · rw [hU.2 60 (by decide), st_here]
  · rw [hU.2 61 (by decide), st_no (by omega), st_here, h61, nI_1]
theorem mu_back {S : SS} {n u b : Nat} (hn : n ≤ 72) (hub : u + (b + 1) ≤ 8) (h60 : S.1 0 60 = nI u) (h61 : S.1 0 61 = nI (b + 1)) (hz : ∀ x, x < n → ∀ d, d = 0 ∨ d = 11 ∨ d = 14 → S.1 40 (1161 * (8 + b) + 15 * x + d) = 0 ∨ S.1 40 (1161 * (8 + b) + 15 * x + d) = 1) : Ex2 (f_M_back S) (fun r U => r = 1 ∧ MU S n (8 + b) u U ∧ U.1 0 60 = nI (u + 1) ∧ U.1 0 61 = nI b) := by
  refine e_eq (f_M_back.eq_1 _) ?_
  refine e_f (by rw [h61]; exact fun q => by have := (nI_eq (a := b + 1) (b := 0) (by omega) (by omega)).mp q; omega) ?_
  rw [h60]
  refine e_cV (sw_save S (k := u) (by omega)) (fun T hT => ?_)
  refine e_wr ?_
  refine e_wr ?_
  rw [st_here, st_no (by omega), hT.1 0 (by decide), h61, nI_pred, show (8 : Int32) + nI b = nI (8 + b) from nI_add 8 b]
  refine e_cV (mu_rest hn (p := 8 + b) (q := u) (by omega) (by omega) hT (fun i => by rw [st_row _ _ _ _ (by decide), st_row _ _ _ _ (by decide)]) hz) (fun U hU => ?_)
  refine e_some ⟨rfl, hU.1, ?_, ?_⟩
  · rw [hU.2 60 (by decide), st_no (by omega), st_here, h60, nI_1]
  · rw [hU.2 61 (by decide), st_here]
theorem bndv_r {ρ : Type} (S : SS) (g : SS → Option ρ) : bndv (some S) g = g S := rfl
theorem wr_r {ρ : Type} (S : SS) (k i : Nat) (v : Int32) (g : SS → Option ρ) : wr S k i v g = g (st S k i v) := rfl
theorem sws_a (S : SS) (a b : Nat) : (sws S a b).1 a = S.1 b := by simp [sws]
theorem sws_b (S : SS) {a b : Nat} (h : b ≠ a) : (sws S a b).1 b = S.1 a := by simp [sws, h]
theorem sws_n (S : SS) {a b k : Nat} (h1 : k ≠ a) (h2 : k ≠ b) : (sws S a b).1 k = S.1 k := by simp [sws, h1, h2]
theorem exch {S : SS} {o u : Nat} (ho : o < 8) (hu : u ≤ 8) (e3 : S.1 64 3 = nI o) (e6 : S.1 64 6 = nI u) : f_History_exchange S = some (sws S 79 (81 + (o + u) % 8)) := by
  unfold f_History_exchange
  rw [e3, e6, nI_add, show nI (o + u) - nI (o + u) / (8 : Int32) * (8 : Int32) = nI ((o + u) % 8) from nI_rem (b := 8) (by omega) (by omega) (by omega)]
  show grd (inb (nI ((o + u) % 8)) 8) _ = _
  rw [inb_nI (by omega) (by omega), nI_clamp (by omega)]
  rfl
/-- the class's undo and back: the row of place i is exchanged with the current one -/
def CU (S : SS) (i : Nat) (U : SS) : Prop := (∀ j, j < 8 → j ≠ i → U.1 (81 + j) = S.1 (81 + j)) ∧ (U.1 (81 + i) = S.1 79) ∧ (U.1 79 = S.1 (81 + i)) ∧ (U.1 64 3 = S.1 64 3)
theorem CU.no {S : SS} {i : Nat} {U : SS} (h_ : CU S i U) : ∀ j, j < 8 → j ≠ i → U.1 (81 + j) = S.1 (81 + j) := h_.1
theorem CU.ye {S : SS} {i : Nat} {U : SS} (h_ : CU S i U) : U.1 (81 + i) = S.1 79 := h_.2.1
theorem CU.cu {S : SS} {i : Nat} {U : SS} (h_ : CU S i U) : U.1 79 = S.1 (81 + i) := h_.2.2.1
theorem CU.c3 {S : SS} {i : Nat} {U : SS} (h_ : CU S i U) : U.1 64 3 = S.1 64 3 := h_.2.2.2
theorem CU.mk_ {S : SS} {i : Nat} {U : SS} (no_ : ∀ j, j < 8 → j ≠ i → U.1 (81 + j) = S.1 (81 + j)) (ye_ : U.1 (81 + i) = S.1 79) (cu_ : U.1 79 = S.1 (81 + i)) (c3_ : U.1 64 3 = S.1 64 3) : CU S i U := ⟨no_, ye_, cu_, c3_⟩
theorem cu_undo {S : SS} {u b o : Nat} (ho : o < 8) (hub : u + 1 + b ≤ 8) (e3 : S.1 64 3 = nI o) (e6 : S.1 64 6 = nI (u + 1)) (e7 : S.1 64 7 = nI b) : Ex2 (f_Yard_undo S) (fun r U => r = 1 ∧ CU S ((o + u) % 8) U ∧ U.1 64 6 = nI u ∧ U.1 64 7 = nI (b + 1)) := by
  refine e_eq (f_Yard_undo.eq_1 _) ?_
  have g : f_History_goBack S = some (1, sws (st (st S 64 6 (nI u)) 64 7 (nI (b + 1))) 79 (81 + (o + u) % 8)) := by
    rw [f_History_goBack.eq_1, if_neg (by rw [e6]; exact fun q => by have := (nI_eq (a := u + 1) (b := 0) (by omega) (by omega)).mp q; omega)]
    show wr _ _ _ _ _ = _
    rw [e6, nI_pred]
    show bndv (f_History_exchange (st (st S 64 6 (nI u)) 64 7 ((st S 64 6 (nI u)).1 64 7 + 1))) _ = _
    rw [st_no (by omega), e7, nI_1, exch (u := u) ho (by omega) (by rw [st_no (by omega), st_no (by omega), e3]) (by rw [st_no (by omega), st_here])]
    rfl
  rw [g, bnd_r]
  refine e_f (by decide) ?_
  refine e_some ⟨rfl, ⟨fun j hj hne => ?_, ?_, ?_, ?_⟩, ?_, ?_⟩
  · rw [sws_n _ (by omega) (by omega), st_row _ _ _ _ (by omega), st_row _ _ _ _ (by omega)]
  · rw [sws_b _ (by omega), st_row _ _ _ _ (by omega), st_row _ _ _ _ (by omega)]
  · rw [sws_a, st_row _ _ _ _ (by omega), st_row _ _ _ _ (by omega)]
  · rw [sws_n _ (by omega) (by omega), st_no (by omega), st_no (by omega)]
  · rw [sws_n _ (by omega) (by omega), st_no (by omega), st_here]
  · rw [sws_n _ (by omega) (by omega), st_here]
theorem cu_back {S : SS} {u b o : Nat} (ho : o < 8) (hub : u + (b + 1) ≤ 8) (e3 : S.1 64 3 = nI o) (e6 : S.1 64 6 = nI u) (e7 : S.1 64 7 = nI (b + 1)) : Ex2 (f_Yard_back S) (fun r U => r = 1 ∧ CU S ((o + u) % 8) U ∧ U.1 64 6 = nI (u + 1) ∧ U.1 64 7 = nI b) := by
  refine e_eq (f_Yard_back.eq_1 _) ?_
  have g : f_History_goOn S = some (1, st (st (sws S 79 (81 + (o + u) % 8)) 64 7 (nI b)) 64 6 (nI (u + 1))) := by
    rw [f_History_goOn.eq_1, if_neg (by rw [e7]; exact fun q => by have := (nI_eq (a := b + 1) (b := 0) (by omega) (by omega)).mp q; omega), exch ho (by omega) e3 e6, bndv_r]
    show wr (sws S 79 (81 + (o + u) % 8)) 64 7 ((sws S 79 (81 + (o + u) % 8)).1 64 7 - 1) _ = _
    rw [sws_n _ (by omega) (by omega), e7, nI_pred]
    rw [wr_r]
    rw [st_no (by omega), sws_n _ (by omega) (by omega), e6, nI_1]
    rfl
  rw [g, bnd_r]
  refine e_f (by decide) ?_
  refine e_some ⟨rfl, ⟨fun j hj hne => ?_, ?_, ?_, ?_⟩, ?_, ?_⟩
  · rw [st_row _ _ _ _ (by omega), st_row _ _ _ _ (by omega), sws_n _ (by omega) (by omega)]
  · rw [st_row _ _ _ _ (by omega), st_row _ _ _ _ (by omega), sws_b _ (by omega)]
  · rw [st_row _ _ _ _ (by omega), st_row _ _ _ _ (by omega), sws_a]
  · rw [st_no (by omega), st_no (by omega), sws_n _ (by omega) (by omega)]
  · rw [st_here]
  · rw [st_no (by omega), st_here]
/-! ===== undo and back keep both worlds together ===== -/
def Fz (S S1 S2 : SS) : Prop := (∀ k i, k ≤ 60 → S1.1 k i = S.1 k i) ∧ (∀ k i, 61 ≤ k → S2.1 k i = S1.1 k i) ∧ (S1.1 63 1 = S.1 63 1) ∧ (S1.1 66 8 = S.1 66 8) ∧ (S1.1 66 7 = S.1 66 7) ∧ (S2.1 0 29 = S1.1 0 29) ∧ (S2.1 0 15 = S1.1 0 15) ∧ (S2.1 0 7 = S1.1 0 7) ∧ (∀ i, S2.1 3 i = S1.1 3 i) ∧ (∀ i, S2.1 18 i = S1.1 18 i)
theorem Fz.g1 {S S1 S2 : SS} (h_ : Fz S S1 S2) : ∀ k i, k ≤ 60 → S1.1 k i = S.1 k i := h_.1
theorem Fz.g2 {S S1 S2 : SS} (h_ : Fz S S1 S2) : ∀ k i, 61 ≤ k → S2.1 k i = S1.1 k i := h_.2.1
theorem Fz.c1 {S S1 S2 : SS} (h_ : Fz S S1 S2) : S1.1 63 1 = S.1 63 1 := h_.2.2.1
theorem Fz.c8 {S S1 S2 : SS} (h_ : Fz S S1 S2) : S1.1 66 8 = S.1 66 8 := h_.2.2.2.1
theorem Fz.c7 {S S1 S2 : SS} (h_ : Fz S S1 S2) : S1.1 66 7 = S.1 66 7 := h_.2.2.2.2.1
theorem Fz.m29 {S S1 S2 : SS} (h_ : Fz S S1 S2) : S2.1 0 29 = S1.1 0 29 := h_.2.2.2.2.2.1
theorem Fz.m15 {S S1 S2 : SS} (h_ : Fz S S1 S2) : S2.1 0 15 = S1.1 0 15 := h_.2.2.2.2.2.2.1
theorem Fz.m7 {S S1 S2 : SS} (h_ : Fz S S1 S2) : S2.1 0 7 = S1.1 0 7 := h_.2.2.2.2.2.2.2.1
theorem Fz.m3 {S S1 S2 : SS} (h_ : Fz S S1 S2) : ∀ i, S2.1 3 i = S1.1 3 i := h_.2.2.2.2.2.2.2.2.1
theorem Fz.m18 {S S1 S2 : SS} (h_ : Fz S S1 S2) : ∀ i, S2.1 18 i = S1.1 18 i := h_.2.2.2.2.2.2.2.2.2
theorem Fz.mk_ {S S1 S2 : SS} (g1_ : ∀ k i, k ≤ 60 → S1.1 k i = S.1 k i) (g2_ : ∀ k i, 61 ≤ k → S2.1 k i = S1.1 k i) (c1_ : S1.1 63 1 = S.1 63 1) (c8_ : S1.1 66 8 = S.1 66 8) (c7_ : S1.1 66 7 = S.1 66 7) (m29_ : S2.1 0 29 = S1.1 0 29) (m15_ : S2.1 0 15 = S1.1 0 15) (m7_ : S2.1 0 7 = S1.1 0 7) (m3_ : ∀ i, S2.1 3 i = S1.1 3 i) (m18_ : ∀ i, S2.1 18 i = S1.1 18 i) : Fz S S1 S2 := ⟨g1_, g2_, c1_, c8_, c7_, m29_, m15_, m7_, m3_, m18_⟩
theorem Fz.row1 {S S1 S2 : SS} (z : Fz S S1 S2) {k : Nat} (hk : k ≤ 60) : S1.1 k = S.1 k := funext fun i => z.g1 k i hk
theorem Fz.row2 {S S1 S2 : SS} (z : Fz S S1 S2) {k : Nat} (hk : 61 ≤ k) : S2.1 k = S1.1 k := funext fun i => z.g2 k i hk
theorem Fz.sv1 {S S1 S2 : SS} (z : Fz S S1 S2) : sv S1 = sv S := funext fun j => sv_of' j where
  sv_of' (j : Nat) : sv S1 j = sv S j := by
    unfold sv
    rw [z.row1 (k := 19) (by omega), z.row1 (k := 20) (by omega), z.row1 (k := 21) (by omega), z.row1 (k := 22) (by omega), z.row1 (k := 23) (by omega), z.row1 (k := 24) (by omega), z.row1 (k := 25) (by omega), z.row1 (k := 26) (by omega), z.row1 (k := 27) (by omega), z.row1 (k := 30) (by omega), z.row1 (k := 31) (by omega), z.row1 (k := 32) (by omega), z.row1 (k := 33) (by omega), z.row1 (k := 34) (by omega), z.row1 (k := 10) (by omega), z.row1 (k := 11) (by omega), z.row1 (k := 0) (by omega)]
theorem Rst.mk' {n np nt : Nat} {S S1 S2 : SS} (h : Rst n np nt S) (z : Fz S S1 S2) (w : Rw n np nt (S.1 3) (S.1 18) (S2.1 0 47).toInt (sv S2) (S2.1 79)) (k : ∃ u b o, S2.1 0 60 = nI u ∧ S2.1 0 61 = nI b ∧ S2.1 64 6 = nI u ∧ S2.1 64 7 = nI b ∧ S2.1 64 3 = nI o ∧ Kp n np nt (S.1 3) (S.1 18) (S2.1 0 47).toInt u b o (S2.1 40) (fun i => S2.1 (81 + i))) : Rst n np nt S2 := by
  have e3 : S2.1 3 = S.1 3 := by rw [show S2.1 3 = S1.1 3 from funext z.m3, z.row1 (by omega)]
  have e18 : S2.1 18 = S.1 18 := by rw [show S2.1 18 = S1.1 18 from funext z.m18, z.row1 (by omega)]
  refine ⟨h.n72, h.np40, h.nt24, ?_, ?_, ?_, ?_, ?_, ?_, ?_, ?_⟩
  · rw [z.g2 63 1 (by omega), z.c1]; exact h.cn
  · rw [z.m29, z.g1 0 29 (by omega)]; exact h.mn
  · rw [z.g2 66 8 (by omega), z.c8]; exact h.cp
  · rw [z.m15, z.g1 0 15 (by omega)]; exact h.mp
  · rw [z.g2 66 7 (by omega), z.c7]; exact h.ct
  · rw [z.m7, z.g1 0 7 (by omega)]; exact h.mt
  · rw [e3, e18]; exact w
  · rw [e3, e18]; exact k
theorem nI0 {a : Nat} (ha : a < 2 ^ 31) : nI a = 0 ↔ a = 0 := nI_eq (b := 0) ha (by omega)
theorem undo_st {n np nt : Nat} {S S1 S2 : SS} {r1 r2 : Int32} (h : Rst n np nt S) (e1 : f_Yard_undo S = some (r1, S1)) (e2 : f_M_undo S1 = some (r2, S2)) (z : Fz S S1 S2) (m47 : S2.1 0 47 = S1.1 0 47) : r1 = r2 ∧ Rst n np nt S2 := by
  obtain ⟨u, b, o, h60, h61, h6, h7, h3, kp⟩ := h.k
  have k60 : S1.1 0 60 = nI u := (z.g1 0 60 (by omega)).trans h60
  have k61 : S1.1 0 61 = nI b := (z.g1 0 61 (by omega)).trans h61
  have hub := kp.ub
  have ho := kp.o8
  rcases Nat.eq_zero_or_pos u with hu | hu
  · subst hu
    rw [f_Yard_undo.eq_1, f_History_goBack.eq_1, if_pos (by rw [h6]; rfl), bnd_r, if_pos rfl] at e1
    injection e1 with e1; injection e1 with a1 a2
    rw [f_M_undo.eq_1, if_pos (by rw [k60]; rfl)] at e2
    injection e2 with e2; injection e2 with d1 d2
    subst a2 d2
    exact ⟨a1.symm.trans d1, h⟩
  · obtain ⟨u, rfl⟩ : ∃ v, u = v + 1 := ⟨u - 1, by omega⟩
    obtain ⟨q1, U1, x1, y1, cu, v6, v7⟩ := cu_undo ho hub h3 h6 h7
    rw [x1] at e1
    injection e1 with e1; injection e1 with a1 a2
    subst a2
    have hsl := kp.un u (by omega)
    have e40 : U1.1 40 = S.1 40 := z.row1 (by omega)
    obtain ⟨q2, U2, x2, y2, mu, v60, v61⟩ := mu_undo (S := U1) (n := 72) (Nat.le_refl _) hub k60 k61 (fun x hx d hd => by
      have := hsl.bo72 hx hd
      rw [e40, Nat.add_assoc]; exact this)
    rw [x2] at e2
    injection e2 with e2; injection e2 with d1 d2
    subst d2
    refine ⟨by rw [← a1, ← d1, y1, y2], ?_⟩
    have e47 : (U2.1 0 47).toInt = (S.1 0 47).toInt := by rw [m47, z.g1 0 47 (by omega)]
    obtain ⟨kp', rw'⟩ := kp.undo (k' := U2.1 40) (w' := fun i => U2.1 (81 + i)) h.n72 h.np40 h.w (fun s hs j hj => by rw [mu.no s hs j hj, e40]) (fun j hj => by rw [mu.ye j hj, z.sv1]) (fun i hi hne => by
      show U2.1 (81 + i) = S.1 (81 + i)
      rw [z.row2 (by omega), cu.no i hi hne]) (by
      show U2.1 (81 + (o + u) % 8) = S.1 79
      rw [z.row2 (by omega), cu.ye])
    refine h.mk' z ?_ ⟨u, b + 1, o, v60, v61, by rw [z.g2 64 6 (by omega), v6], by rw [z.g2 64 7 (by omega), v7], by rw [z.g2 64 3 (by omega), cu.c3, h3], by rw [e47]; exact kp'⟩
    rw [e47]
    refine rw'.congr h.n72 h.np40 (Int.le_refl _) (fun x d hx hd => ?_) (fun j j1 j2 => ?_) (fun j hj => ?_)
    · rw [mu.th x d hx hd, e40, Nat.add_assoc]
    · rw [mu.pt j j1 j2, e40]
    · rw [z.row2 (by omega), cu.cu]
theorem back_st {n np nt : Nat} {S S1 S2 : SS} {r1 r2 : Int32} (h : Rst n np nt S) (e1 : f_Yard_back S = some (r1, S1)) (e2 : f_M_back S1 = some (r2, S2)) (z : Fz S S1 S2) (m47 : S2.1 0 47 = S1.1 0 47) : r1 = r2 ∧ Rst n np nt S2 := by
  obtain ⟨u, b, o, h60, h61, h6, h7, h3, kp⟩ := h.k
  have k60 : S1.1 0 60 = nI u := (z.g1 0 60 (by omega)).trans h60
  have k61 : S1.1 0 61 = nI b := (z.g1 0 61 (by omega)).trans h61
  have hub := kp.ub
  have ho := kp.o8
  rcases Nat.eq_zero_or_pos b with hu | hu
  · subst hu
    rw [f_Yard_back.eq_1, f_History_goOn.eq_1, if_pos (by rw [h7]; rfl), bnd_r, if_pos rfl] at e1
    injection e1 with e1; injection e1 with a1 a2
    rw [f_M_back.eq_1, if_pos (by rw [k61]; rfl)] at e2
    injection e2 with e2; injection e2 with d1 d2
    subst a2 d2
    exact ⟨a1.symm.trans d1, h⟩
  · obtain ⟨b, rfl⟩ : ∃ v, b = v + 1 := ⟨b - 1, by omega⟩
    obtain ⟨q1, U1, x1, y1, cu, v6, v7⟩ := cu_back ho hub h3 h6 h7
    rw [x1] at e1
    injection e1 with e1; injection e1 with a1 a2
    subst a2
    have hsl := kp.bk b (by omega)
    have e40 : U1.1 40 = S.1 40 := z.row1 (by omega)
    obtain ⟨q2, U2, x2, y2, mu, v60, v61⟩ := mu_back (S := U1) (n := 72) (Nat.le_refl _) hub k60 k61 (fun x hx d hd => by
      have := hsl.bo72 hx hd
      rw [e40, Nat.add_assoc]; exact this)
    rw [x2] at e2
    injection e2 with e2; injection e2 with d1 d2
    subst d2
    refine ⟨by rw [← a1, ← d1, y1, y2], ?_⟩
    have e47 : (U2.1 0 47).toInt = (S.1 0 47).toInt := by rw [m47, z.g1 0 47 (by omega)]
    obtain ⟨kp', rw'⟩ := kp.back (k' := U2.1 40) (w' := fun i => U2.1 (81 + i)) h.n72 h.np40 h.w (fun s hs j hj => by rw [mu.no s hs j hj, e40]) (fun j hj => by rw [mu.ye j hj, z.sv1]) (fun i hi hne => by
      show U2.1 (81 + i) = S.1 (81 + i)
      rw [z.row2 (by omega), cu.no i hi hne]) (by
      show U2.1 (81 + (o + u) % 8) = S.1 79
      rw [z.row2 (by omega), cu.ye])
    refine h.mk' z ?_ ⟨u + 1, b, o, v60, v61, by rw [z.g2 64 6 (by omega), v6], by rw [z.g2 64 7 (by omega), v7], by rw [z.g2 64 3 (by omega), cu.c3, h3], by rw [e47]; exact kp'⟩
    rw [e47]
    refine rw'.congr h.n72 h.np40 (Int.le_refl _) (fun x d hx hd => ?_) (fun j j1 j2 => ?_) (fun j hj => ?_)
    · rw [mu.th x d hx hd, e40, Nat.add_assoc]
    · rw [mu.pt j j1 j2, e40]
    · rw [z.row2 (by omega), cu.cu]
/-! ===== who is named ===== -/
def okw (w : Int32) (k : Nat) : Bool := decide ((w >>> (nI k &&& 31)) &&& 1 = 1)
def oks (v : Int32) (z : Int32) : Bool := if v = 1 then !decide ((4 : Int32) < z) else if v = 2 then !decide (z < (5 : Int32)) else if v = 3 then !decide ((3 : Int32) < z) else if v = 4 then decide (z = (2 : Int32)) else true
def wpr : List (Int32 × Int32) := [(127, 0), (31, 1), (96, 2), (15, 3), (4, 4)]
theorem wpr_ok {w v : Int32} (h : (w, v) ∈ wpr) {k : Nat} (hk : k ≤ 6) : oks v (nI k) = okw w k := by
  have : ∀ q ∈ wpr, ∀ k, k < 7 → oks q.2 (nI k) = okw q.1 k := by decide
  exact this (w, v) h k (by omega)
/-- the THING a is there, of the n made, and of a KIND that will do -/
def Nmd (P : Nat → Prop) (kf : Nat → Nat) (n : Nat) (a w : Int32) : Prop := ∃ x, x < n ∧ a = nI x ∧ P x ∧ okw w (kf x) = true
theorem stg {S : SS} {x f : Nat} (a : Int32) (ha : a = nI f) (hx : x < 72) (hf : f < 6) : f_Stock_get (nI x) a S = some (S.1 91 (6 * x + f), S) := by
  subst ha
  rw [f_Stock_get.eq_1, if_neg (nI_nn (by omega)), if_neg (show ¬ ((72 : Int32) ≤ nI x) from nI_ge (b := 72) hx (by omega)), show (6 : Int32) * nI x = nI (6 * x) from nI_mul 6 x, nI_add, inb_nI (by omega) (by omega), nI_clamp (by omega)]
  rfl
theorem isAs_c {T : SS} {x k : Nat} (w : Int32) (hx : x < 72) (h2 : T.1 91 (6 * x) = nI k) (hk : k ≤ 6) : f_Stock_isAs (nI x) w T = some (if okw w k = true then 1 else 0, T) := by
  rw [f_Stock_isAs.eq_1, stg (f := 0) 0 rfl hx (by omega), bnd_r, Nat.add_zero, h2, if_neg (nI_nn (by omega))]
  unfold okw
  by_cases c : (w >>> (nI k &&& 31)) &&& 1 = 1
  · rw [if_pos c, if_pos (decide_eq_true c)]
  · rw [if_neg c, if_neg (fun q => c (of_decide_eq_true q))]
theorem in71 {a : Int32} : inV a 0 71 = 0 ↔ ∃ x, x < 72 ∧ a = nI x := by
  constructor
  · intro q
    obtain ⟨x, -, h, rfl⟩ := in_n (l := 0) (h := 71) rfl rfl (by omega) (by omega) q
    exact ⟨x, by omega, rfl⟩
  · rintro ⟨x, hx, rfl⟩
    refine inV0.mpr ⟨nI_nn (by omega), ?_⟩
    rw [Int32.le_iff_toInt_le, nI_ti (by omega)]
    show (x : Int) ≤ 71
    omega
theorem named_c {T : SS} {n : Nat} {P : Nat → Prop} {kf : Nat → Nat} (a w : Int32) (hn : T.1 63 1 = nI n) (h72 : n ≤ 72) (h1 : ∀ x, x < n → (T.1 79 (154 + 11 * x) < 0 ↔ ¬ P x)) (h2 : ∀ x, x < n → T.1 91 (6 * x) = nI (kf x) ∧ kf x ≤ 6) : (Nmd P kf n a w ∧ f_Yard_named a w T = some (0, T)) ∨ (¬ Nmd P kf n a w ∧ ∃ r, ¬ r = 0 ∧ f_Yard_named a w T = some (r, T)) := by
  rw [f_Yard_named.eq_1, in_v, bnd_r]
  by_cases c : inV a 0 71 = 0
  · rw [if_pos c]
    obtain ⟨x, hx, rfl⟩ := in71.mp c
    by_cases d : x < n
    · rw [hn, if_pos ((nI_ltJ (by omega) (by omega)).mpr d), isAs_c w hx (h2 x d).1 (h2 x d).2, bnd_r]
      by_cases e : okw w (kf x) = true
      · rw [if_pos e, if_neg (by decide), f_State_isThere.eq_1, sg (f := 0) 0 rfl hn h72 d (by omega), bnd_r, Nat.add_zero]
        by_cases g : T.1 79 (154 + 11 * x) < 0
        · rw [if_pos g, bnd_r, if_pos rfl]
          refine Or.inr ⟨?_, 1, by decide, rfl⟩
          rintro ⟨y, hy, ey, py, -⟩
          have := nI_inj (by omega) (by omega) ey
          subst this
          exact (h1 x d).mp g py
        · rw [if_neg g, bnd_r, if_neg (by decide)]
          exact Or.inl ⟨⟨x, d, rfl, Classical.byContradiction (fun q => g ((h1 x d).mpr q)), e⟩, rfl⟩
      · rw [if_neg e, if_pos rfl]
        refine Or.inr ⟨?_, 2, by decide, rfl⟩
        rintro ⟨y, hy, ey, -, ky⟩
        have := nI_inj (by omega) (by omega) ey
        subst this
        exact e ky
    · rw [hn, if_neg (fun q => d ((nI_ltJ (by omega) (by omega)).mp q))]
      refine Or.inr ⟨?_, 1, by decide, rfl⟩
      rintro ⟨y, hy, ey, -⟩
      have := nI_inj (by omega) (by omega) ey
      omega
  · rw [if_neg c]
    refine Or.inr ⟨?_, 3, by decide, rfl⟩
    rintro ⟨y, hy, ey, -⟩
    exact c (in71.mpr ⟨y, by omega, ey⟩)
theorem such_m {T : SS} {x : Nat} (v : Int32) (hx : x < 72) : f_M_isSuch (nI x) v T = some (if oks v (T.1 18 x) = true then 1 else 0, T) := by
  rw [f_M_isSuch.eq_1, inb_nI hx (by omega), nI_clamp (by omega)]
  show (if v = 1 then _ else _) = _
  unfold oks
  by_cases c1 : v = 1
  · rw [if_pos c1, if_pos c1]
    by_cases d : (4 : Int32) < T.1 18 x
    · rw [if_pos d, decide_eq_true d]; rfl
    · rw [if_neg d, decide_eq_false d]; rfl
  · rw [if_neg c1, if_neg c1]
    by_cases c2 : v = 2
    · rw [if_pos c2, if_pos c2]
      by_cases d : T.1 18 x < 5
      · rw [if_pos d, decide_eq_true d]; rfl
      · rw [if_neg d, decide_eq_false d]; rfl
    · rw [if_neg c2, if_neg c2]
      by_cases c3 : v = 3
      · rw [if_pos c3, if_pos c3]
        by_cases d : (3 : Int32) < T.1 18 x
        · rw [if_pos d, decide_eq_true d]; rfl
        · rw [if_neg d, decide_eq_false d]; rfl
      · rw [if_neg c3, if_neg c3]
        by_cases c4 : v = 4
        · rw [if_pos c4, if_pos c4]
          by_cases d : T.1 18 x = 2
          · rw [if_pos d, decide_eq_true d]; rfl
          · rw [if_neg d, decide_eq_false d]; rfl
        · rw [if_neg c4, if_neg c4]; rfl
theorem named_m {T : SS} {n : Nat} {P : Nat → Prop} {kf : Nat → Nat} (a : Int32) {w v : Int32} (hw : (w, v) ∈ wpr) (hn : T.1 0 29 = nI n) (h72 : n ≤ 72) (h1 : ∀ x, x < n → (T.1 19 x = 0 ↔ ¬ P x)) (h2 : ∀ x, x < n → T.1 18 x = nI (kf x) ∧ kf x ≤ 6) : (Nmd P kf n a w ∧ f_M_missThing a v T = some (0, T)) ∨ (¬ Nmd P kf n a w ∧ ∃ r, ¬ r = 0 ∧ inb r 18 = true ∧ f_M_missThing a v T = some (r, T)) := by
  rw [f_M_missThing.eq_1]
  by_cases c : inV a 0 71 = 0
  · obtain ⟨x, hx, rfl⟩ := in71.mp c
    rw [if_neg (nI_nn (by omega)), if_pos (show nI x < (72 : Int32) from (nI_ltJ (b := 72) (by omega) (by omega)).mpr hx), hn]
    by_cases d : x < n
    · rw [if_neg (nI_ge d (by omega)), inb_nI hx (by omega), nI_clamp (by omega)]
      show (_ ∧ (if T.1 19 x = 0 then _ else _) = _) ∨ (_ ∧ ∃ r, _ ∧ _ ∧ (if T.1 19 x = 0 then _ else _) = _)
      by_cases g : T.1 19 x = 0
      · rw [if_pos g]
        refine Or.inr ⟨?_, 1, by decide, by decide, rfl⟩
        rintro ⟨y, hy, ey, py, -⟩
        have := nI_inj (by omega) (by omega) ey
        subst this
        exact (h1 x d).mp g py
      · rw [if_neg g, such_m v hx, bnd_r, (h2 x d).1, wpr_ok hw (h2 x d).2]
        by_cases e : okw w (kf x) = true
        · rw [if_pos e, if_neg (by decide)]
          exact Or.inl ⟨⟨x, d, rfl, Classical.byContradiction (fun q => g ((h1 x d).mpr q)), e⟩, rfl⟩
        · rw [if_neg e, if_pos rfl]
          refine Or.inr ⟨?_, 2, by decide, by decide, rfl⟩
          rintro ⟨y, hy, ey, -, ky⟩
          have := nI_inj (by omega) (by omega) ey
          subst this
          exact e ky
    · rw [if_pos (nI_le (by omega) (by omega))]
      refine Or.inr ⟨?_, 1, by decide, by decide, rfl⟩
      rintro ⟨y, hy, ey, -⟩
      have := nI_inj (by omega) (by omega) ey
      omega
  · have hno : ¬ Nmd P kf n a w := by
      rintro ⟨y, hy, ey, -⟩
      exact c (in71.mpr ⟨y, by omega, ey⟩)
    refine Or.inr ⟨hno, 3, by decide, by decide, ?_⟩
    by_cases d : a < 0
    · rw [if_pos d]
    · rw [if_neg d, if_neg]
      intro q
      apply c
      refine inV0.mpr ⟨d, ?_⟩
      rw [Int32.lt_iff_toInt_lt] at q
      rw [Int32.le_iff_toInt_le]
      have e3 : (72 : Int32).toInt = 72 := by decide
      have e4 : (71 : Int32).toInt = 71 := by decide
      omega
/-! ===== the log ===== -/
def Lg (S : SS) (L : Nat) : Prop := (L ≤ 600) ∧ (S.1 0 62 = nI L) ∧ (S.1 64 4 = nI (L % 40)) ∧ (S.1 64 5 = nI (min L 40)) ∧ (∀ i, i < 40 → S.1 89 ((i + 1) % 40) = S.1 41 i) ∧ (∀ i, i < 40 → S.1 90 ((i + 1) % 40) = S.1 42 i)
theorem Lg.l6 {S : SS} {L : Nat} (h_ : Lg S L) : L ≤ 600 := h_.1
theorem Lg.m {S : SS} {L : Nat} (h_ : Lg S L) : S.1 0 62 = nI L := h_.2.1
theorem Lg.c4 {S : SS} {L : Nat} (h_ : Lg S L) : S.1 64 4 = nI (L % 40) := h_.2.2.1
theorem Lg.c5 {S : SS} {L : Nat} (h_ : Lg S L) : S.1 64 5 = nI (min L 40) := h_.2.2.2.1
theorem Lg.ac {S : SS} {L : Nat} (h_ : Lg S L) : ∀ i, i < 40 → S.1 89 ((i + 1) % 40) = S.1 41 i := h_.2.2.2.2.1
theorem Lg.an {S : SS} {L : Nat} (h_ : Lg S L) : ∀ i, i < 40 → S.1 90 ((i + 1) % 40) = S.1 42 i := h_.2.2.2.2.2
theorem Lg.mk_ {S : SS} {L : Nat} (l6_ : L ≤ 600) (m_ : S.1 0 62 = nI L) (c4_ : S.1 64 4 = nI (L % 40)) (c5_ : S.1 64 5 = nI (min L 40)) (ac_ : ∀ i, i < 40 → S.1 89 ((i + 1) % 40) = S.1 41 i) (an_ : ∀ i, i < 40 → S.1 90 ((i + 1) % 40) = S.1 42 i) : Lg S L := ⟨l6_, m_, c4_, c5_, ac_, an_⟩
/-- the class writes -/
def CW (S : SS) (L : Nat) (act ans : Int32) (U : SS) : Prop := (U.1 64 4 = nI ((L + 1) % 40)) ∧ (U.1 64 5 = nI (min (L + 1) 40)) ∧ (∀ i, U.1 89 i = if i = (L + 1) % 40 then act else S.1 89 i) ∧ (∀ i, U.1 90 i = if i = (L + 1) % 40 then ans else S.1 90 i) ∧ (∀ k, k ≠ 64 → k ≠ 89 → k ≠ 90 → U.1 k = S.1 k) ∧ (∀ i, i ≠ 4 → i ≠ 5 → U.1 64 i = S.1 64 i)
theorem CW.c4 {S : SS} {L : Nat} {act ans : Int32} {U : SS} (h_ : CW S L act ans U) : U.1 64 4 = nI ((L + 1) % 40) := h_.1
theorem CW.c5 {S : SS} {L : Nat} {act ans : Int32} {U : SS} (h_ : CW S L act ans U) : U.1 64 5 = nI (min (L + 1) 40) := h_.2.1
theorem CW.ac {S : SS} {L : Nat} {act ans : Int32} {U : SS} (h_ : CW S L act ans U) : ∀ i, U.1 89 i = if i = (L + 1) % 40 then act else S.1 89 i := h_.2.2.1
theorem CW.an {S : SS} {L : Nat} {act ans : Int32} {U : SS} (h_ : CW S L act ans U) : ∀ i, U.1 90 i = if i = (L + 1) % 40 then ans else S.1 90 i := h_.2.2.2.1
theorem CW.fr {S : SS} {L : Nat} {act ans : Int32} {U : SS} (h_ : CW S L act ans U) : ∀ k, k ≠ 64 → k ≠ 89 → k ≠ 90 → U.1 k = S.1 k := h_.2.2.2.2.1
theorem CW.f4 {S : SS} {L : Nat} {act ans : Int32} {U : SS} (h_ : CW S L act ans U) : ∀ i, i ≠ 4 → i ≠ 5 → U.1 64 i = S.1 64 i := h_.2.2.2.2.2
theorem CW.mk_ {S : SS} {L : Nat} {act ans : Int32} {U : SS} (c4_ : U.1 64 4 = nI ((L + 1) % 40)) (c5_ : U.1 64 5 = nI (min (L + 1) 40)) (ac_ : ∀ i, U.1 89 i = if i = (L + 1) % 40 then act else S.1 89 i) (an_ : ∀ i, U.1 90 i = if i = (L + 1) % 40 then ans else S.1 90 i) (fr_ : ∀ k, k ≠ 64 → k ≠ 89 → k ≠ 90 → U.1 k = S.1 k) (f4_ : ∀ i, i ≠ 4 → i ≠ 5 → U.1 64 i = S.1 64 i) : CW S L act ans U := ⟨c4_, c5_, ac_, an_, fr_, f4_⟩
theorem min_c (a b : Int32) (S : SS) : f_Math_min_7cf53 a b S = some (if b < a then b else a, S) := by
  rw [f_Math_min_7cf53.eq_1]
  first
    | rfl
    | (by_cases c : b < a
       · simp [c]
       · simp [c])
theorem cw_write {S : SS} {L : Nat} (act ans : Int32) (hL : L ≤ 600) (h4 : S.1 64 4 = nI (L % 40)) (h5 : S.1 64 5 = nI (min L 40)) : Ew (f_History_write act ans S) (CW S L act ans) := by
  refine v_eq (f_History_write.eq_1 _ _ _) ?_
  have e : (S.1 64 4 + 1) - (S.1 64 4 + 1) / (40 : Int32) * (40 : Int32) = nI ((L + 1) % 40) := by
    rw [h4, nI_1, show nI (L % 40 + 1) - nI (L % 40 + 1) / (40 : Int32) * (40 : Int32) = nI ((L % 40 + 1) % 40) from nI_rem (b := 40) (by omega) (by omega) (by omega)]
    exact congrArg nI (by omega)
  rw [e]
  refine v_wr ?_
  rw [st_here]
  refine v_grd (inb_nI (by omega) (by omega)) ?_
  refine v_wr ?_
  rw [st_row _ _ _ _ (by decide), st_here]
  refine v_grd (inb_nI (by omega) (by omega)) ?_
  refine v_wr ?_
  rw [min_c, bnd_r, nI_clamp (by omega)]
  refine v_wr ?_
  have e5 : (st (st (st S 64 4 (nI ((L + 1) % 40))) 89 ((L + 1) % 40) act) 90 ((L + 1) % 40) ans).1 64 5 + 1 = nI (min L 40 + 1) := by
    rw [st_row _ _ _ _ (by decide), st_row _ _ _ _ (by decide), st_no (by omega), h5, nI_1]
  rw [e5]
  refine v_some ⟨?_, ?_, fun i => ?_, fun i => ?_, fun k k1 k2 k3 => ?_, fun i i1 i2 => ?_⟩
  · rw [st_no (by omega), st_row _ _ _ _ (by decide), st_row _ _ _ _ (by decide), st_here]
  · rw [st_here]
    by_cases c : (40 : Int32) < nI (min L 40 + 1)
    · have := (nI_ltJ (a := 40) (by omega) (by omega)).mp c
      rw [if_pos c, show min (L + 1) 40 = 40 by omega]; rfl
    · have : ¬ 40 < min L 40 + 1 := fun q => c ((nI_ltJ (a := 40) (by omega) (by omega)).mpr q)
      rw [if_neg c]; exact congrArg nI (by omega)
  · rw [st_row _ _ _ _ (by decide), st_row _ _ _ _ (by decide), st_at, if_pos rfl, st_row _ _ _ _ (by decide)]
  · rw [st_row _ _ _ _ (by decide), st_at, if_pos rfl, st_row _ _ _ _ (by decide), st_row _ _ _ _ (by decide)]
  · rw [st_row _ _ _ _ k1, st_row _ _ _ _ k3, st_row _ _ _ _ k2, st_row _ _ _ _ k1]
  · rw [st_no (by omega), st_row _ _ _ _ (by decide), st_row _ _ _ _ (by decide), st_no (by omega)]
/-- the reference enters -/
def MEn (S : SS) (L : Nat) (act ans : Int32) (U : SS) : Prop := (U.1 0 62 = nI (L + 1)) ∧ (∀ i, U.1 41 i = if i = L % 40 then act else S.1 41 i) ∧ (∀ i, U.1 42 i = if i = L % 40 then ans else S.1 42 i) ∧ (∀ k, k ≠ 0 → k ≠ 41 → k ≠ 42 → U.1 k = S.1 k) ∧ (∀ i, i ≠ 62 → U.1 0 i = S.1 0 i)
theorem MEn.m {S : SS} {L : Nat} {act ans : Int32} {U : SS} (h_ : MEn S L act ans U) : U.1 0 62 = nI (L + 1) := h_.1
theorem MEn.ac {S : SS} {L : Nat} {act ans : Int32} {U : SS} (h_ : MEn S L act ans U) : ∀ i, U.1 41 i = if i = L % 40 then act else S.1 41 i := h_.2.1
theorem MEn.an {S : SS} {L : Nat} {act ans : Int32} {U : SS} (h_ : MEn S L act ans U) : ∀ i, U.1 42 i = if i = L % 40 then ans else S.1 42 i := h_.2.2.1
theorem MEn.fr {S : SS} {L : Nat} {act ans : Int32} {U : SS} (h_ : MEn S L act ans U) : ∀ k, k ≠ 0 → k ≠ 41 → k ≠ 42 → U.1 k = S.1 k := h_.2.2.2.1
theorem MEn.f0 {S : SS} {L : Nat} {act ans : Int32} {U : SS} (h_ : MEn S L act ans U) : ∀ i, i ≠ 62 → U.1 0 i = S.1 0 i := h_.2.2.2.2
theorem MEn.mk_ {S : SS} {L : Nat} {act ans : Int32} {U : SS} (m_ : U.1 0 62 = nI (L + 1)) (ac_ : ∀ i, U.1 41 i = if i = L % 40 then act else S.1 41 i) (an_ : ∀ i, U.1 42 i = if i = L % 40 then ans else S.1 42 i) (fr_ : ∀ k, k ≠ 0 → k ≠ 41 → k ≠ 42 → U.1 k = S.1 k) (f0_ : ∀ i, i ≠ 62 → U.1 0 i = S.1 0 i) : MEn S L act ans U := ⟨m_, ac_, an_, fr_, f0_⟩
theorem me_entered {S : SS} {L : Nat} (act ans : Int32) (hL : L ≤ 600) (h : S.1 0 62 = nI L) : Ex2 (f_M_entered act ans S) (fun r U => r = ans ∧ MEn S L act ans U) := by
  refine e_eq (f_M_entered.eq_1 _ _ _) ?_
  have e : nI L - nI L / (40 : Int32) * (40 : Int32) = nI (L % 40) := nI_rem (b := 40) (by omega) (by omega) (by omega)
  rw [h, e]
  refine e_grd (inb_nI (by omega) (by omega)) ?_
  refine e_wr ?_
  rw [st_row _ _ _ _ (by decide), h, e]
  refine e_grd (inb_nI (by omega) (by omega)) ?_
  refine e_wr ?_
  refine e_wr ?_
  rw [nI_clamp (by omega), st_row _ _ _ _ (by decide), st_row _ _ _ _ (by decide), h, nI_1]
  refine e_some ⟨rfl, ?_, fun i => ?_, fun i => ?_, fun k k1 k2 k3 => ?_, fun i hi => ?_⟩
  · rw [st_here]
  · rw [st_row _ _ _ _ (by decide), st_row _ _ _ _ (by decide), st_at, if_pos rfl]
  · rw [st_row _ _ _ _ (by decide), st_at, if_pos rfl, st_row _ _ _ _ (by decide)]
  · rw [st_row _ _ _ _ k1, st_row _ _ _ _ k3, st_row _ _ _ _ k2]
  · rw [st_no (by omega), st_row _ _ _ _ (by decide), st_row _ _ _ _ (by decide)]
/-- both: what the class wrote at V, what the reference entered at W -/
theorem Lg.act {S V S1 W S2 : SS} {L : Nat} {act ans : Int32} (h : Lg S L) (hL : L < 600) (c : CW V L act ans S1) (m : MEn W L act ans S2) (hV : ∀ k, k = 89 ∨ k = 90 → V.1 k = S.1 k) (hW : ∀ k, k = 41 ∨ k = 42 → W.1 k = S.1 k) (g : ∀ k i, k = 64 ∨ k = 89 ∨ k = 90 → S2.1 k i = S1.1 k i) : Lg S2 (L + 1) := by
  refine ⟨by omega, m.m, by rw [g _ _ (by omega), c.c4], by rw [g _ _ (by omega), c.c5], fun i hi => ?_, fun i hi => ?_⟩
  · rw [g _ _ (by omega), c.ac, m.ac, hV 89 (by omega), hW 41 (by omega)]
    by_cases e : i = L % 40
    · rw [if_pos e, if_pos (by omega)]
    · rw [if_neg e, if_neg (by omega)]; exact h.ac i hi
  · rw [g _ _ (by omega), c.an, m.an, hV 90 (by omega), hW 42 (by omega)]
    by_cases e : i = L % 40
    · rw [if_pos e, if_pos (by omega)]
    · rw [if_neg e, if_neg (by omega)]; exact h.an i hi
/-! ===== the frame of an act ===== -/
/-- behind beginAct -/
def BA (S : SS) (n u o : Nat) (T : SS) : Prop := (T.1 64 6 = nI (u - kd u + 1)) ∧ (T.1 64 7 = nI 0) ∧ (T.1 64 3 = nI ((o + kd u) % 8)) ∧ (∀ i, i < 8 → i ≠ (o + u) % 8 → T.1 (81 + i) = S.1 (81 + i)) ∧ (∀ j, j < 154 + 11 * n → T.1 (81 + (o + u) % 8) j = S.1 79 j) ∧ (∀ i, i ≠ 3 → i ≠ 6 → i ≠ 7 → T.1 64 i = S.1 64 i) ∧ (∀ k, k ≠ 62 → k ≠ 64 → (k < 81 ∨ 88 < k) → T.1 k = S.1 k)
theorem BA.c6 {S : SS} {n u o : Nat} {T : SS} (h_ : BA S n u o T) : T.1 64 6 = nI (u - kd u + 1) := h_.1
theorem BA.c7 {S : SS} {n u o : Nat} {T : SS} (h_ : BA S n u o T) : T.1 64 7 = nI 0 := h_.2.1
theorem BA.c3 {S : SS} {n u o : Nat} {T : SS} (h_ : BA S n u o T) : T.1 64 3 = nI ((o + kd u) % 8) := h_.2.2.1
theorem BA.no {S : SS} {n u o : Nat} {T : SS} (h_ : BA S n u o T) : ∀ i, i < 8 → i ≠ (o + u) % 8 → T.1 (81 + i) = S.1 (81 + i) := h_.2.2.2.1
theorem BA.ye {S : SS} {n u o : Nat} {T : SS} (h_ : BA S n u o T) : ∀ j, j < 154 + 11 * n → T.1 (81 + (o + u) % 8) j = S.1 79 j := h_.2.2.2.2.1
theorem BA.f4 {S : SS} {n u o : Nat} {T : SS} (h_ : BA S n u o T) : ∀ i, i ≠ 3 → i ≠ 6 → i ≠ 7 → T.1 64 i = S.1 64 i := h_.2.2.2.2.2.1
theorem BA.fr {S : SS} {n u o : Nat} {T : SS} (h_ : BA S n u o T) : ∀ k, k ≠ 62 → k ≠ 64 → (k < 81 ∨ 88 < k) → T.1 k = S.1 k := h_.2.2.2.2.2.2
theorem BA.mk_ {S : SS} {n u o : Nat} {T : SS} (c6_ : T.1 64 6 = nI (u - kd u + 1)) (c7_ : T.1 64 7 = nI 0) (c3_ : T.1 64 3 = nI ((o + kd u) % 8)) (no_ : ∀ i, i < 8 → i ≠ (o + u) % 8 → T.1 (81 + i) = S.1 (81 + i)) (ye_ : ∀ j, j < 154 + 11 * n → T.1 (81 + (o + u) % 8) j = S.1 79 j) (f4_ : ∀ i, i ≠ 3 → i ≠ 6 → i ≠ 7 → T.1 64 i = S.1 64 i) (fr_ : ∀ k, k ≠ 62 → k ≠ 64 → (k < 81 ∨ 88 < k) → T.1 k = S.1 k) : BA S n u o T := ⟨c6_, c7_, c3_, no_, ye_, f4_, fr_⟩
theorem ba_begin (S : SS) : ∃ T, f_Report_begin S = some T ∧ T.1 62 2 = 0 ∧ ∀ k, k ≠ 62 → T.1 k = S.1 k := by
  refine ⟨_, rfl, ?_, fun k hk => ?_⟩
  · rw [st_no (by omega), st_no (by omega), st_no (by omega), st_no (by omega), st_here]
  · rw [st_row _ _ _ _ hk, st_row _ _ _ _ hk, st_row _ _ _ _ hk, st_row _ _ _ _ hk, st_row _ _ _ _ hk]
theorem ba_act {S : SS} {n u o : Nat} (hn : S.1 63 1 = nI n) (h72 : n ≤ 72) (hu : u ≤ 8) (ho : o < 8) (e6 : S.1 64 6 = nI u) (e3 : S.1 64 3 = nI o) : Ew (f_Yard_beginAct S) (fun T => BA S n u o T ∧ T.1 62 2 = 0) := by
  refine v_eq (f_Yard_beginAct.eq_1 _) ?_
  obtain ⟨T, eT, t1, t2⟩ := ba_begin S
  rw [eT, bndv_r]
  refine v_cV (ck_keep (S := T) (n := n) (u := u) (o := o) (by rw [t2 63 (by decide)]; exact hn) h72 hu ho (by rw [t2 64 (by decide)]; exact e6) (by rw [t2 64 (by decide)]; exact e3)) (fun U c => ?_)
  exact v_some ⟨⟨c.c6, c.c7, c.c3, fun i hi hne => by rw [c.no i hi hne, t2 _ (by omega)], fun j hj => by rw [c.ye j hj, t2 79 (by decide)], fun i i1 i2 i3 => by rw [c.f4 i i1 i2 i3, t2 64 (by decide)], fun k k1 k2 k3 => by rw [c.fr k k1 k2 k3, t2 k k1]⟩, by rw [c.f62, t1]⟩
/-- step has no begin -/
theorem ba_step {S : SS} {n u o : Nat} (hn : S.1 63 1 = nI n) (h72 : n ≤ 72) (hu : u ≤ 8) (ho : o < 8) (e6 : S.1 64 6 = nI u) (e3 : S.1 64 3 = nI o) : Ew (f_History_keep S) (fun T => BA S n u o T ∧ T.1 62 2 = S.1 62 2) := v_mono (ck_keep hn h72 hu ho e6 e3) (fun U c => ⟨⟨c.c6, c.c7, c.c3, c.no, c.ye, c.f4, c.fr⟩, c.f62⟩)
/-- behind begin and keep -/
def BM (S : SS) (u : Nat) (U : SS) : Prop := (U.1 0 60 = nI (u - kd u + 1)) ∧ (U.1 0 61 = nI 0) ∧ (∀ s, s < u - kd u → ∀ j, j < 1161 → U.1 40 (1161 * s + j) = S.1 40 (1161 * (s + kd u) + j)) ∧ (∀ j, j < 1161 → U.1 40 (1161 * (u - kd u) + j) = sv S j) ∧ (∀ k, k ≠ 0 → k ≠ 40 → U.1 k = S.1 k) ∧ (∀ i, 5 < i → i ≠ 60 → i ≠ 61 → U.1 0 i = S.1 0 i)
theorem BM.m0 {S : SS} {u : Nat} {U : SS} (h_ : BM S u U) : U.1 0 60 = nI (u - kd u + 1) := h_.1
theorem BM.m1 {S : SS} {u : Nat} {U : SS} (h_ : BM S u U) : U.1 0 61 = nI 0 := h_.2.1
theorem BM.sh {S : SS} {u : Nat} {U : SS} (h_ : BM S u U) : ∀ s, s < u - kd u → ∀ j, j < 1161 → U.1 40 (1161 * s + j) = S.1 40 (1161 * (s + kd u) + j) := h_.2.2.1
theorem BM.nw {S : SS} {u : Nat} {U : SS} (h_ : BM S u U) : ∀ j, j < 1161 → U.1 40 (1161 * (u - kd u) + j) = sv S j := h_.2.2.2.1
theorem BM.fr {S : SS} {u : Nat} {U : SS} (h_ : BM S u U) : ∀ k, k ≠ 0 → k ≠ 40 → U.1 k = S.1 k := h_.2.2.2.2.1
theorem BM.f0 {S : SS} {u : Nat} {U : SS} (h_ : BM S u U) : ∀ i, 5 < i → i ≠ 60 → i ≠ 61 → U.1 0 i = S.1 0 i := h_.2.2.2.2.2
theorem BM.mk_ {S : SS} {u : Nat} {U : SS} (m0_ : U.1 0 60 = nI (u - kd u + 1)) (m1_ : U.1 0 61 = nI 0) (sh_ : ∀ s, s < u - kd u → ∀ j, j < 1161 → U.1 40 (1161 * s + j) = S.1 40 (1161 * (s + kd u) + j)) (nw_ : ∀ j, j < 1161 → U.1 40 (1161 * (u - kd u) + j) = sv S j) (fr_ : ∀ k, k ≠ 0 → k ≠ 40 → U.1 k = S.1 k) (f0_ : ∀ i, 5 < i → i ≠ 60 → i ≠ 61 → U.1 0 i = S.1 0 i) : BM S u U := ⟨m0_, m1_, sh_, nw_, fr_, f0_⟩
theorem bm_begin (S : SS) : ∃ T, f_M_begin S = some T ∧ T.1 0 5 = 0 ∧ (∀ k, k ≠ 0 → T.1 k = S.1 k) ∧ ∀ i, 5 < i → T.1 0 i = S.1 0 i := by
  refine ⟨_, rfl, ?_, fun k hk => ?_, fun i hi => ?_⟩
  · rw [st_here]
  · rw [st_row _ _ _ _ hk, st_row _ _ _ _ hk, st_row _ _ _ _ hk, st_row _ _ _ _ hk, st_row _ _ _ _ hk]
  · rw [st_no (by omega), st_no (by omega), st_no (by omega), st_no (by omega), st_no (by omega)]
theorem sv_fr {S T : SS} (h : ∀ k, k ≠ 0 → k ≠ 40 → T.1 k = S.1 k) (h0 : T.1 0 48 = S.1 0 48) : sv T = sv S := funext fun j => sv_of (fun k h1 h2 => h k h2 h1) h0 j
theorem wm_no {L : List Nat} {F : List (Nat × Nat)} {a b : Nat} (h1 : ∀ k ∈ L, k ≠ a) (h2 : ∀ p ∈ F, p.1 = a → p.2 ≠ b) : wm L F a b = false := by
  simp only [wm, Bool.or_eq_false_iff, List.any_eq_false, Bool.and_eq_true, Nat.beq_eq]
  exact ⟨fun k hk => h1 k hk, fun p hp e => h2 p hp e.1 e.2⟩
theorem bm_keep {S : SS} {u : Nat} (hW : WR S) (hu : u ≤ 8) (h60 : S.1 0 60 = nI u) : ∃ T U, f_M_begin S = some T ∧ f_M_keep T = some U ∧ BM S u U ∧ U.1 0 5 = 0 := by
  obtain ⟨T, eT, t1, t2, t3⟩ := bm_begin S
  obtain ⟨T', eT', wT, -⟩ := t_M_begin hW
  rw [eT] at eT'
  injection eT' with eT'
  subst eT'
  obtain ⟨U, eU, m⟩ := mk_keep (S := T) hu (by rw [t3 60 (by omega)]; exact h60)
  obtain ⟨U', eU', -, f⟩ := t_M_keep wT
  rw [eU] at eU'
  injection eU' with eU'
  subst eU'
  have e40 : T.1 40 = S.1 40 := t2 40 (by decide)
  refine ⟨T, U, eT, eU, ⟨m.m0, m.m1, fun s hs j hj => by rw [m.sh s hs j hj, e40], fun j hj => by rw [m.nw j hj, sv_fr (fun k h1 _ => t2 k h1) (t3 48 (by omega))], fun k k1 k2 => ?_, fun i i1 i2 i3 => ?_⟩, by rw [f.1 0 5 rfl, t1]⟩
  · rw [← t2 k k1]
    funext i
    refine f.1 k i (wm_no (fun j hj => ?_) (fun p hp => ?_))
    · simp only [List.mem_cons, List.mem_nil_iff, or_false] at hj; omega
    · simp only [List.mem_cons, List.mem_nil_iff, or_false] at hp
      rcases hp with rfl | rfl <;> (intro e; exact absurd e.symm k1)
  · rw [← t3 i i1]
    refine f.1 0 i (wm_no (fun j hj => ?_) (fun p hp => ?_))
    · simp only [List.mem_cons, List.mem_nil_iff, or_false] at hj; omega
    · simp only [List.mem_cons, List.mem_nil_iff, or_false] at hp
      rcases hp with rfl | rfl
      · intro _; exact fun e => i2 e.symm
      · intro _; exact fun e => i3 e.symm
/-- step keeps without begin -/
theorem bm_step {S : SS} {u : Nat} (hW : WR S) (hu : u ≤ 8) (h60 : S.1 0 60 = nI u) : ∃ U, f_M_keep S = some U ∧ WR U ∧ BM S u U ∧ U.1 0 5 = S.1 0 5 := by
  obtain ⟨U, eU, m⟩ := mk_keep (S := S) hu h60
  obtain ⟨U', eU', wU, f⟩ := t_M_keep hW
  rw [eU] at eU'
  injection eU' with eU'
  subst eU'
  refine ⟨U, eU, wU, ⟨m.m0, m.m1, m.sh, m.nw, fun k k1 k2 => ?_, fun i i1 i2 i3 => ?_⟩, f.1 0 5 rfl⟩
  · funext i
    refine f.1 k i (wm_no (fun j hj => ?_) (fun p hp => ?_))
    · simp only [List.mem_cons, List.mem_nil_iff, or_false] at hj; omega
    · simp only [List.mem_cons, List.mem_nil_iff, or_false] at hp
      rcases hp with rfl | rfl <;> (intro e; exact absurd e.symm k1)
  · refine f.1 0 i (wm_no (fun j hj => ?_) (fun p hp => ?_))
    · simp only [List.mem_cons, List.mem_nil_iff, or_false] at hj; omega
    · simp only [List.mem_cons, List.mem_nil_iff, or_false] at hp
      rcases hp with rfl | rfl
      · intro _; exact fun e => i2 e.symm
      · intro _; exact fun e => i3 e.symm
/-- behind both: the kept worlds and the log -/
theorem act_fin {n np nt u b o L : Nat} {S T V S1 U W S2 : SS} {act r : Int32} (h : Rst n np nt S) (h60 : S.1 0 60 = nI u) (h61 : S.1 0 61 = nI b) (kp : Kp n np nt (S.1 3) (S.1 18) (S.1 0 47).toInt u b o (S.1 40) (fun i => S.1 (81 + i))) (l : Lg S L) (hL : L < 600) (z : Fz S S1 S2) (ba : BA S n u o T) (cw : CW V L act r S1) (hV : ∀ k i, (k = 64 ∨ (81 ≤ k ∧ k ≤ 90)) → V.1 k i = T.1 k i) (bm : BM S1 u U) (me : MEn W L act r S2) (hW : ∀ k i, (k = 40 ∨ k = 41 ∨ k = 42 ∨ (k = 0 ∧ (i = 60 ∨ i = 61))) → W.1 k i = U.1 k i) (hB : (S.1 0 47).toInt ≤ (W.1 0 47).toInt) (w : Rw n np nt (S.1 3) (S.1 18) (W.1 0 47).toInt (sv W) (V.1 79)) : Rst n np nt S2 ∧ Lg S2 (L + 1) := by
  have rV : ∀ k, (k = 64 ∨ (81 ≤ k ∧ k ≤ 90)) → V.1 k = T.1 k := fun k hk => funext fun i => hV k i hk
  have e47 : S2.1 0 47 = W.1 0 47 := me.f0 47 (by decide)
  have r8 : ∀ k, 81 ≤ k → k ≤ 88 → S2.1 k = T.1 k := fun k k1 k2 => by rw [z.row2 (by omega), cw.fr k (by omega) (by omega) (by omega), rV k (by omega)]
  have r64 : ∀ i, i ≠ 4 → i ≠ 5 → S2.1 64 i = T.1 64 i := fun i i1 i2 => by rw [z.g2 64 i (by omega), cw.f4 i i1 i2, rV 64 (by omega)]
  have r40 : S2.1 40 = U.1 40 := by rw [me.fr 40 (by decide) (by decide) (by decide)]; exact funext fun i => hW 40 i (by omega)
  have s40 : S1.1 40 = S.1 40 := z.row1 (by omega)
  refine ⟨h.mk' z ?_ ⟨u - kd u + 1, 0, (o + kd u) % 8, ?_, ?_, ?_, ?_, ?_, ?_⟩, l.act hL cw me (fun k hk => ?_) (fun k hk => ?_) (fun k i hk => z.g2 k i (by omega))⟩
  · rw [e47, sv_of_me me, z.row2 (k := 79) (by omega), cw.fr 79 (by decide) (by decide) (by decide)]; exact w
  · rw [me.f0 60 (by decide), hW 0 60 (by omega), bm.m0]
  · rw [me.f0 61 (by decide), hW 0 61 (by omega), bm.m1]
  · rw [r64 6 (by decide) (by decide), ba.c6]
  · rw [r64 7 (by decide) (by decide), ba.c7]
  · rw [r64 3 (by decide) (by decide), ba.c3]
  · rw [e47]
    refine Kp.grow ?_ h.n72 h.np40 hB
    refine kp.keep h.n72 h.np40 h.w (fun s hs j hj => by rw [r40, bm.sh s hs j hj, s40]) (fun j hj => by rw [r40, bm.nw j hj, z.sv1]) (fun i hi hne => ?_) (fun j hj => ?_)
    · show S2.1 (81 + i) = S.1 (81 + i)
      rw [r8 _ (by omega) (by omega), ba.no i hi hne]
    · show S2.1 (81 + (o + u) % 8) j = S.1 79 j
      rw [r8 _ (by omega) (by omega), ba.ye j hj]
  · rw [rV k (by omega), ba.fr k (by omega) (by omega) (by omega)]
  · rw [show W.1 k = U.1 k from funext fun i => hW k i (by omega), bm.fr k (by omega) (by omega), z.row1 (by omega)]
where
  sv_of_me {S U : SS} {L : Nat} {act ans : Int32} (m : MEn S L act ans U) : sv U = sv S := funext fun j => by
    unfold sv
    rw [m.fr 19 (by decide) (by decide) (by decide), m.fr 20 (by decide) (by decide) (by decide), m.fr 21 (by decide) (by decide) (by decide), m.fr 22 (by decide) (by decide) (by decide), m.fr 23 (by decide) (by decide) (by decide), m.fr 24 (by decide) (by decide) (by decide), m.fr 25 (by decide) (by decide) (by decide), m.fr 26 (by decide) (by decide) (by decide), m.fr 27 (by decide) (by decide) (by decide), m.fr 30 (by decide) (by decide) (by decide), m.fr 31 (by decide) (by decide) (by decide), m.fr 32 (by decide) (by decide) (by decide), m.fr 33 (by decide) (by decide) (by decide), m.fr 34 (by decide) (by decide) (by decide), m.fr 10 (by decide) (by decide) (by decide), m.fr 11 (by decide) (by decide) (by decide), m.f0 48 (by decide)]
/-! ===== findings, plain fields ===== -/
theorem rf_found (r : Int32) (T : SS) : ∃ T', f_Report_found r T = some (-2, T') ∧ (∀ k, k ≠ 62 → k ≠ 77 → T'.1 k = T.1 k) ∧ ∀ i, i ≠ 3 → T'.1 62 i = T.1 62 i := by
  have h1 : (∀ k, k ≠ 62 → k ≠ 77 → (st T 62 3 r).1 k = T.1 k) ∧ ∀ i, i ≠ 3 → (st T 62 3 r).1 62 i = T.1 62 i := ⟨fun k k1 _ => st_row _ _ _ _ k1, fun i hi => st_no (by omega)⟩
  by_cases c1 : r ≤ 0
  · exact ⟨st T 62 3 r, by rw [f_Report_found.eq_1, wr_r, if_pos c1], h1⟩
  · by_cases c2 : (17 : Int32) < r
    · exact ⟨st T 62 3 r, by rw [f_Report_found.eq_1, wr_r, if_neg c1, if_pos c2], h1⟩
    · have hi : inb r 18 = true := inb_i (by rw [Int32.le_iff_toInt_le] at c1; have : (0 : Int32).toInt = 0 := by decide
                                             omega) (by rw [Int32.lt_iff_toInt_lt] at c2; have : (17 : Int32).toInt = 17 := by decide
                                                        omega)
      refine ⟨st (st T 62 3 r) 77 r.toNatClampNeg ((st T 62 3 r).1 77 r.toNatClampNeg + 1), ?_, fun k k1 k2 => ?_, fun i i1 => ?_⟩
      · rw [f_Report_found.eq_1, wr_r, if_neg c1, if_neg c2, hi]; rfl
      · rw [st_row _ _ _ _ k2, st_row _ _ _ _ k1]
      · rw [st_row _ _ _ _ (by decide), st_no (by omega)]
theorem mf_found (r : Int32) (T : SS) (hi : inb r 18 = true) : ∃ T', f_M_found r T = some (-2, T') ∧ (∀ k, k ≠ 0 → k ≠ 1 → T'.1 k = T.1 k) ∧ ∀ i, i ≠ 0 → T'.1 0 i = T.1 0 i := by
  refine ⟨st (st T 0 0 r) 1 r.toNatClampNeg ((st T 0 0 r).1 1 r.toNatClampNeg + 1), ?_, fun k k1 k2 => ?_, fun i i1 => ?_⟩
  · rw [f_M_found.eq_1, wr_r, hi]; rfl
  · rw [st_row _ _ _ _ k2, st_row _ _ _ _ k1]
  · rw [st_row _ _ _ _ (by decide), st_no (by omega)]
theorem ends_0 (T : SS) : f_M_ends 0 T = some (0, T) := by
  rw [f_M_ends.eq_1, if_pos rfl]; rfl
theorem ends_1 {r : Int32} (T : SS) (h : ¬ r = 0) (hi : inb r 18 = true) : ∃ T', f_M_ends r T = some (1, T') ∧ (∀ k, k ≠ 0 → k ≠ 1 → T'.1 k = T.1 k) ∧ ∀ i, i ≠ 0 → T'.1 0 i = T.1 0 i := by
  obtain ⟨T', e, h1, h2⟩ := mf_found r T hi
  refine ⟨T', ?_, h1, h2⟩
  rw [f_M_ends.eq_1, if_neg h, e, bnd_r, f_M_ends_j10.eq_1, if_neg h]
/-- a field of a THING that nothing else looks at -/
def pf (d f : Nat) : Prop := (d = 3 ∧ f = 1) ∨ (d = 6 ∧ f = 4) ∨ (d = 7 ∧ f = 5) ∨ (d = 8 ∧ f = 6) ∨ (d = 9 ∧ f = 7) ∨ (d = 14 ∧ f = 10)
theorem Rw.fld {n np nt : Nat} {pl kf : Nat → Int32} {B : Int} {K c K' c' : Nat → Int32} {x d f : Nat} {v : Int32} (h : Rw n np nt pl kf B K c) (hn : n ≤ 72) (hp : np ≤ 40) (hx : x < n) (hf : pf d f) (hv : d = 14 → v = 0 ∨ v = 1) (eK : ∀ j, j < 1161 → K' j = if j = 15 * x + d then v else K j) (ec : ∀ j, c' j = if j = 154 + 11 * x + f then v else c j) : Rw n np nt pl kf B K' c' := by
  have hd : 3 ≤ d ∧ d < 15 ∧ d ≠ 4 ∧ d ≠ 5 ∧ d ≠ 10 ∧ d ≠ 11 ∧ d ≠ 12 ∧ d ≠ 13 ∧ 1 ≤ f ∧ f < 11 := by unfold pf at hf; omega
  have kk : ∀ y e, y < n → e < 15 → ¬ (y = x ∧ e = d) → K' (15 * y + e) = K (15 * y + e) := fun y e hy he q => by
    rw [eK _ (by omega), if_neg (by omega)]
  have cc : ∀ y g, g < 11 → ¬ (y = x ∧ g = f) → c' (154 + 11 * y + g) = c (154 + 11 * y + g) := fun y g hg q => by
    rw [ec, if_neg (by omega)]
  have lo : ∀ j, j < 154 → c' j = c j := fun j hj => by rw [ec, if_neg (by omega)]
  have hi : ∀ j, 1080 ≤ j → j < 1161 → K' j = K j := fun j h1 h2 => by rw [eK _ h2, if_neg (by omega)]
  have pair : ∀ y e g, y < n → e < 15 → g < 11 → (e = d ↔ g = f) → c (154 + 11 * y + g) = K (15 * y + e) → c' (154 + 11 * y + g) = K' (15 * y + e) := fun y e g hy he hg q t => by
    by_cases r : y = x ∧ e = d
    · rw [eK _ (by omega), if_pos (by omega), ec, if_pos (by omega)]
    · rw [kk y e hy he r, cc y g hg (by omega)]; exact t
  refine ⟨fun y hy => ?_, fun p hp' => ?_, ?_, ?_, fun y s o hy hs ho q => ?_, fun y e hy h72 he => by rw [eK _ (by omega), if_neg (by omega)]; exact h.nw y e hy h72 he⟩
  · have t := h.th y hy
    have k0 := kk y 0 hy (by omega) (by omega)
    have c0 := cc y 0 (by omega) (by omega)
    rw [Nat.add_zero] at k0 c0
    have P := fun e g he hg q t => pair y e g hy he hg q t
    unfold pf at hf
    refine ⟨?_, ?_, ?_, ?_, ?_, ?_, ?_, ?_, ?_, ?_, ?_, ?_, ?_⟩
    · rw [k0, c0, kk y 1 hy (by omega) (by omega), kk y 2 hy (by omega) (by omega)]; exact t.at_
    · exact P 3 1 (by omega) (by omega) (by omega) t.look
    · exact P 4 2 (by omega) (by omega) (by omega) t.m0
    · exact P 5 3 (by omega) (by omega) (by omega) t.m1
    · exact P 6 4 (by omega) (by omega) (by omega) t.ser
    · exact P 7 5 (by omega) (by omega) (by omega) t.flt
    · exact P 8 6 (by omega) (by omega) (by omega) t.jam
    · exact P 9 7 (by omega) (by omega) (by omega) t.dgr
    · exact P 10 8 (by omega) (by omega) (by omega) t.run
    · exact P 12 9 (by omega) (by omega) (by omega) t.rsd
    · exact P 14 10 (by omega) (by omega) (by omega) t.tst
    · by_cases r : y = x ∧ 14 = d
      · rw [eK _ (by omega), if_pos (by omega)]; exact hv r.2.symm
      · rw [kk y 14 hy (by omega) r]; exact t.tb
    · rw [k0, kk y 11 hy (by omega) (by omega), kk y 10 hy (by omega) (by omega), kk y 4 hy (by omega) (by omega), kk y 5 hy (by omega) (by omega), kk y 12 hy (by omega) (by omega)]; exact t.run0
  · rw [lo _ (by omega), lo _ (by omega), hi _ (by omega) (by omega), hi _ (by omega) (by omega)]; exact h.pt p hp'
  · rw [lo _ (by omega), hi _ (by omega) (by omega)]; exact h.dmp
  · obtain ⟨l, r⟩ := h.rns
    have hl := r.le
    refine ⟨l, by rw [lo _ (by omega)]; exact r.len, fun i hi => by rw [lo _ (by omega)]; exact r.cell i hi, fun y => ?_, ?_, fun y hy => ?_⟩
    · by_cases hy : y < n
      · rw [kk y 11 hy (by omega) (by omega)]; exact r.mem y
      · rw [r.mem y]; exact ⟨fun q => absurd q.1 hy, fun q => absurd q.1 hy⟩
    · refine r.srt.imp_of_mem (fun ha hb q => ?_)
      rw [kk _ 13 ((r.mem _).mp ha).1 (by omega) (by omega), kk _ 13 ((r.mem _).mp hb).1 (by omega) (by omega)]; exact q
    · rw [kk _ 13 ((r.mem _).mp hy).1 (by omega) (by omega)]; exact r.pos y hy
  · have k0 := kk y 0 hy (by omega) (by omega)
    have k1 := kk o 0 ho (by omega) (by omega)
    rw [Nat.add_zero] at k0 k1
    rw [Nat.add_assoc, kk y (4 + s) hy (by omega) (by omega), ← Nat.add_assoc] at q
    rw [k0, k1]; exact h.mt y s o hy hs ho q
/-! ===== a cell of the reference is a number of its world ===== -/
theorem sv_split {P : Nat → Prop} (h1 : ∀ q r, q < 72 → r < 15 → P (15 * q + r)) (h2 : ∀ p, p < 40 → P (1080 + 2 * p)) (h3 : ∀ p, p < 40 → P (1080 + 2 * p + 1)) (h4 : P 1160) : ∀ j, j < 1161 → P j := fun j hj => by
  by_cases c : j < 1080
  · have := h1 (j / 15) (j % 15) (by omega) (by omega)
    rwa [show 15 * (j / 15) + j % 15 = j by omega] at this
  · by_cases d : j = 1160
    · subst d; exact h4
    · by_cases e : j % 2 = 0
      · have := h2 ((j - 1080) / 2) (by omega)
        rwa [show 1080 + 2 * ((j - 1080) / 2) = j by omega] at this
      · have := h3 ((j - 1080) / 2) (by omega)
        rwa [show 1080 + 2 * ((j - 1080) / 2) + 1 = j by omega] at this
theorem svw_0 {U : SS} {x : Nat} {v : Int32} (hx : x < 72) : ∀ j, j < 1161 → sv (st U 19 x v) j = if j = 15 * x + 0 then (if v = 0 then 0 else 1) else sv U j := sv_split (fun q r hq hr => by
  rcases (show r = 0 ∨ r = 1 ∨ r = 2 ∨ r = 3 ∨ r = 4 ∨ r = 5 ∨ r = 6 ∨ r = 7 ∨ r = 8 ∨ r = 9 ∨ r = 10 ∨ r = 11 ∨ r = 12 ∨ r = 13 ∨ r = 14 by omega) with rfl | rfl | rfl | rfl | rfl | rfl | rfl | rfl | rfl | rfl | rfl | rfl | rfl | rfl | rfl
  · rw [sv_0 _ hq, sv_0 _ hq, st_at, if_pos rfl]
    by_cases c : q = x
    · subst c; rw [if_pos (rfl : q = q), if_pos (rfl : 15 * q + 0 = 15 * q + 0)]
    · rw [if_neg (show ¬ (q = x) by omega), if_neg (show ¬ (15 * q + 0 = 15 * x + 0) by omega)]
  · rw [sv_1 _ hq, sv_1 _ hq, st_row _ _ _ _ (by decide), if_neg (show ¬ (15 * q + 1 = 15 * x + 0) by omega)]
  · rw [sv_2 _ hq, sv_2 _ hq, st_row _ _ _ _ (by decide), if_neg (show ¬ (15 * q + 2 = 15 * x + 0) by omega)]
  · rw [sv_3 _ hq, sv_3 _ hq, st_row _ _ _ _ (by decide), if_neg (show ¬ (15 * q + 3 = 15 * x + 0) by omega)]
  · rw [sv_4 _ hq, sv_4 _ hq, st_row _ _ _ _ (by decide), if_neg (show ¬ (15 * q + 4 = 15 * x + 0) by omega)]
  · rw [sv_5 _ hq, sv_5 _ hq, st_row _ _ _ _ (by decide), if_neg (show ¬ (15 * q + 5 = 15 * x + 0) by omega)]
  · rw [sv_6 _ hq, sv_6 _ hq, st_row _ _ _ _ (by decide), if_neg (show ¬ (15 * q + 6 = 15 * x + 0) by omega)]
  · rw [sv_7 _ hq, sv_7 _ hq, st_row _ _ _ _ (by decide), if_neg (show ¬ (15 * q + 7 = 15 * x + 0) by omega)]
  · rw [sv_8 _ hq, sv_8 _ hq, st_row _ _ _ _ (by decide), if_neg (show ¬ (15 * q + 8 = 15 * x + 0) by omega)]
  · rw [sv_9 _ hq, sv_9 _ hq, st_row _ _ _ _ (by decide), if_neg (show ¬ (15 * q + 9 = 15 * x + 0) by omega)]
  · rw [sv_10 _ hq, sv_10 _ hq, st_row _ _ _ _ (by decide), if_neg (show ¬ (15 * q + 10 = 15 * x + 0) by omega)]
  · rw [sv_11 _ hq, sv_11 _ hq, st_row _ _ _ _ (by decide), if_neg (show ¬ (15 * q + 11 = 15 * x + 0) by omega)]
  · rw [sv_12 _ hq, sv_12 _ hq, st_row _ _ _ _ (by decide), if_neg (show ¬ (15 * q + 12 = 15 * x + 0) by omega)]
  · rw [sv_13 _ hq, sv_13 _ hq, st_row _ _ _ _ (by decide), if_neg (show ¬ (15 * q + 13 = 15 * x + 0) by omega)]
  · rw [sv_14 _ hq, sv_14 _ hq, st_row _ _ _ _ (by decide), if_neg (show ¬ (15 * q + 14 = 15 * x + 0) by omega)]) (fun p hp => by rw [sv_s _ hp, sv_s _ hp, st_row _ _ _ _ (by decide), if_neg (by omega)]) (fun p hp => by rw [sv_l _ hp, sv_l _ hp, st_row _ _ _ _ (by decide), if_neg (by omega)]) (by rw [sv_d, sv_d, st_row _ _ _ _ (by decide), if_neg (by omega)])
theorem svw_1 {U : SS} {x : Nat} {v : Int32} (hx : x < 72) : ∀ j, j < 1161 → sv (st U 20 x v) j = if j = 15 * x + 1 then v else sv U j := sv_split (fun q r hq hr => by
  rcases (show r = 0 ∨ r = 1 ∨ r = 2 ∨ r = 3 ∨ r = 4 ∨ r = 5 ∨ r = 6 ∨ r = 7 ∨ r = 8 ∨ r = 9 ∨ r = 10 ∨ r = 11 ∨ r = 12 ∨ r = 13 ∨ r = 14 by omega) with rfl | rfl | rfl | rfl | rfl | rfl | rfl | rfl | rfl | rfl | rfl | rfl | rfl | rfl | rfl
  · rw [sv_0 _ hq, sv_0 _ hq, st_row _ _ _ _ (by decide), if_neg (show ¬ (15 * q + 0 = 15 * x + 1) by omega)]
  · rw [sv_1 _ hq, sv_1 _ hq, st_at, if_pos rfl]
    by_cases c : q = x
    · subst c; rw [if_pos (rfl : q = q), if_pos (rfl : 15 * q + 1 = 15 * q + 1)]
    · rw [if_neg (show ¬ (q = x) by omega), if_neg (show ¬ (15 * q + 1 = 15 * x + 1) by omega)]
  · rw [sv_2 _ hq, sv_2 _ hq, st_row _ _ _ _ (by decide), if_neg (show ¬ (15 * q + 2 = 15 * x + 1) by omega)]
  · rw [sv_3 _ hq, sv_3 _ hq, st_row _ _ _ _ (by decide), if_neg (show ¬ (15 * q + 3 = 15 * x + 1) by omega)]
  · rw [sv_4 _ hq, sv_4 _ hq, st_row _ _ _ _ (by decide), if_neg (show ¬ (15 * q + 4 = 15 * x + 1) by omega)]
  · rw [sv_5 _ hq, sv_5 _ hq, st_row _ _ _ _ (by decide), if_neg (show ¬ (15 * q + 5 = 15 * x + 1) by omega)]
  · rw [sv_6 _ hq, sv_6 _ hq, st_row _ _ _ _ (by decide), if_neg (show ¬ (15 * q + 6 = 15 * x + 1) by omega)]
  · rw [sv_7 _ hq, sv_7 _ hq, st_row _ _ _ _ (by decide), if_neg (show ¬ (15 * q + 7 = 15 * x + 1) by omega)]
  · rw [sv_8 _ hq, sv_8 _ hq, st_row _ _ _ _ (by decide), if_neg (show ¬ (15 * q + 8 = 15 * x + 1) by omega)]
  · rw [sv_9 _ hq, sv_9 _ hq, st_row _ _ _ _ (by decide), if_neg (show ¬ (15 * q + 9 = 15 * x + 1) by omega)]
  · rw [sv_10 _ hq, sv_10 _ hq, st_row _ _ _ _ (by decide), if_neg (show ¬ (15 * q + 10 = 15 * x + 1) by omega)]
  · rw [sv_11 _ hq, sv_11 _ hq, st_row _ _ _ _ (by decide), if_neg (show ¬ (15 * q + 11 = 15 * x + 1) by omega)]
  · rw [sv_12 _ hq, sv_12 _ hq, st_row _ _ _ _ (by decide), if_neg (show ¬ (15 * q + 12 = 15 * x + 1) by omega)]
  · rw [sv_13 _ hq, sv_13 _ hq, st_row _ _ _ _ (by decide), if_neg (show ¬ (15 * q + 13 = 15 * x + 1) by omega)]
  · rw [sv_14 _ hq, sv_14 _ hq, st_row _ _ _ _ (by decide), if_neg (show ¬ (15 * q + 14 = 15 * x + 1) by omega)]) (fun p hp => by rw [sv_s _ hp, sv_s _ hp, st_row _ _ _ _ (by decide), if_neg (by omega)]) (fun p hp => by rw [sv_l _ hp, sv_l _ hp, st_row _ _ _ _ (by decide), if_neg (by omega)]) (by rw [sv_d, sv_d, st_row _ _ _ _ (by decide), if_neg (by omega)])
theorem svw_2 {U : SS} {x : Nat} {v : Int32} (hx : x < 72) : ∀ j, j < 1161 → sv (st U 21 x v) j = if j = 15 * x + 2 then v else sv U j := sv_split (fun q r hq hr => by
  rcases (show r = 0 ∨ r = 1 ∨ r = 2 ∨ r = 3 ∨ r = 4 ∨ r = 5 ∨ r = 6 ∨ r = 7 ∨ r = 8 ∨ r = 9 ∨ r = 10 ∨ r = 11 ∨ r = 12 ∨ r = 13 ∨ r = 14 by omega) with rfl | rfl | rfl | rfl | rfl | rfl | rfl | rfl | rfl | rfl | rfl | rfl | rfl | rfl | rfl
  · rw [sv_0 _ hq, sv_0 _ hq, st_row _ _ _ _ (by decide), if_neg (show ¬ (15 * q + 0 = 15 * x + 2) by omega)]
  · rw [sv_1 _ hq, sv_1 _ hq, st_row _ _ _ _ (by decide), if_neg (show ¬ (15 * q + 1 = 15 * x + 2) by omega)]
  · rw [sv_2 _ hq, sv_2 _ hq, st_at, if_pos rfl]
    by_cases c : q = x
    · subst c; rw [if_pos (rfl : q = q), if_pos (rfl : 15 * q + 2 = 15 * q + 2)]
    · rw [if_neg (show ¬ (q = x) by omega), if_neg (show ¬ (15 * q + 2 = 15 * x + 2) by omega)]
  · rw [sv_3 _ hq, sv_3 _ hq, st_row _ _ _ _ (by decide), if_neg (show ¬ (15 * q + 3 = 15 * x + 2) by omega)]
  · rw [sv_4 _ hq, sv_4 _ hq, st_row _ _ _ _ (by decide), if_neg (show ¬ (15 * q + 4 = 15 * x + 2) by omega)]
  · rw [sv_5 _ hq, sv_5 _ hq, st_row _ _ _ _ (by decide), if_neg (show ¬ (15 * q + 5 = 15 * x + 2) by omega)]
  · rw [sv_6 _ hq, sv_6 _ hq, st_row _ _ _ _ (by decide), if_neg (show ¬ (15 * q + 6 = 15 * x + 2) by omega)]
  · rw [sv_7 _ hq, sv_7 _ hq, st_row _ _ _ _ (by decide), if_neg (show ¬ (15 * q + 7 = 15 * x + 2) by omega)]
  · rw [sv_8 _ hq, sv_8 _ hq, st_row _ _ _ _ (by decide), if_neg (show ¬ (15 * q + 8 = 15 * x + 2) by omega)]
  · rw [sv_9 _ hq, sv_9 _ hq, st_row _ _ _ _ (by decide), if_neg (show ¬ (15 * q + 9 = 15 * x + 2) by omega)]
  · rw [sv_10 _ hq, sv_10 _ hq, st_row _ _ _ _ (by decide), if_neg (show ¬ (15 * q + 10 = 15 * x + 2) by omega)]
  · rw [sv_11 _ hq, sv_11 _ hq, st_row _ _ _ _ (by decide), if_neg (show ¬ (15 * q + 11 = 15 * x + 2) by omega)]
  · rw [sv_12 _ hq, sv_12 _ hq, st_row _ _ _ _ (by decide), if_neg (show ¬ (15 * q + 12 = 15 * x + 2) by omega)]
  · rw [sv_13 _ hq, sv_13 _ hq, st_row _ _ _ _ (by decide), if_neg (show ¬ (15 * q + 13 = 15 * x + 2) by omega)]
  · rw [sv_14 _ hq, sv_14 _ hq, st_row _ _ _ _ (by decide), if_neg (show ¬ (15 * q + 14 = 15 * x + 2) by omega)]) (fun p hp => by rw [sv_s _ hp, sv_s _ hp, st_row _ _ _ _ (by decide), if_neg (by omega)]) (fun p hp => by rw [sv_l _ hp, sv_l _ hp, st_row _ _ _ _ (by decide), if_neg (by omega)]) (by rw [sv_d, sv_d, st_row _ _ _ _ (by decide), if_neg (by omega)])
theorem svw_3 {U : SS} {x : Nat} {v : Int32} (hx : x < 72) : ∀ j, j < 1161 → sv (st U 22 x v) j = if j = 15 * x + 3 then v else sv U j := sv_split (fun q r hq hr => by
  rcases (show r = 0 ∨ r = 1 ∨ r = 2 ∨ r = 3 ∨ r = 4 ∨ r = 5 ∨ r = 6 ∨ r = 7 ∨ r = 8 ∨ r = 9 ∨ r = 10 ∨ r = 11 ∨ r = 12 ∨ r = 13 ∨ r = 14 by omega) with rfl | rfl | rfl | rfl | rfl | rfl | rfl | rfl | rfl | rfl | rfl | rfl | rfl | rfl | rfl
  · rw [sv_0 _ hq, sv_0 _ hq, st_row _ _ _ _ (by decide), if_neg (show ¬ (15 * q + 0 = 15 * x + 3) by omega)]
  · rw [sv_1 _ hq, sv_1 _ hq, st_row _ _ _ _ (by decide), if_neg (show ¬ (15 * q + 1 = 15 * x + 3) by omega)]
  · rw [sv_2 _ hq, sv_2 _ hq, st_row _ _ _ _ (by decide), if_neg (show ¬ (15 * q + 2 = 15 * x + 3) by omega)]
  · rw [sv_3 _ hq, sv_3 _ hq, st_at, if_pos rfl]
    by_cases c : q = x
    · subst c; rw [if_pos (rfl : q = q), if_pos (rfl : 15 * q + 3 = 15 * q + 3)]
    · rw [if_neg (show ¬ (q = x) by omega), if_neg (show ¬ (15 * q + 3 = 15 * x + 3) by omega)]
  · rw [sv_4 _ hq, sv_4 _ hq, st_row _ _ _ _ (by decide), if_neg (show ¬ (15 * q + 4 = 15 * x + 3) by omega)]
  · rw [sv_5 _ hq, sv_5 _ hq, st_row _ _ _ _ (by decide), if_neg (show ¬ (15 * q + 5 = 15 * x + 3) by omega)]
  · rw [sv_6 _ hq, sv_6 _ hq, st_row _ _ _ _ (by decide), if_neg (show ¬ (15 * q + 6 = 15 * x + 3) by omega)]
  · rw [sv_7 _ hq, sv_7 _ hq, st_row _ _ _ _ (by decide), if_neg (show ¬ (15 * q + 7 = 15 * x + 3) by omega)]
  · rw [sv_8 _ hq, sv_8 _ hq, st_row _ _ _ _ (by decide), if_neg (show ¬ (15 * q + 8 = 15 * x + 3) by omega)]
  · rw [sv_9 _ hq, sv_9 _ hq, st_row _ _ _ _ (by decide), if_neg (show ¬ (15 * q + 9 = 15 * x + 3) by omega)]
  · rw [sv_10 _ hq, sv_10 _ hq, st_row _ _ _ _ (by decide), if_neg (show ¬ (15 * q + 10 = 15 * x + 3) by omega)]
  · rw [sv_11 _ hq, sv_11 _ hq, st_row _ _ _ _ (by decide), if_neg (show ¬ (15 * q + 11 = 15 * x + 3) by omega)]
  · rw [sv_12 _ hq, sv_12 _ hq, st_row _ _ _ _ (by decide), if_neg (show ¬ (15 * q + 12 = 15 * x + 3) by omega)]
  · rw [sv_13 _ hq, sv_13 _ hq, st_row _ _ _ _ (by decide), if_neg (show ¬ (15 * q + 13 = 15 * x + 3) by omega)]
  · rw [sv_14 _ hq, sv_14 _ hq, st_row _ _ _ _ (by decide), if_neg (show ¬ (15 * q + 14 = 15 * x + 3) by omega)]) (fun p hp => by rw [sv_s _ hp, sv_s _ hp, st_row _ _ _ _ (by decide), if_neg (by omega)]) (fun p hp => by rw [sv_l _ hp, sv_l _ hp, st_row _ _ _ _ (by decide), if_neg (by omega)]) (by rw [sv_d, sv_d, st_row _ _ _ _ (by decide), if_neg (by omega)])
theorem svw_4 {U : SS} {x : Nat} {v : Int32} (hx : x < 72) : ∀ j, j < 1161 → sv (st U 23 (2 * x) v) j = if j = 15 * x + 4 then v else sv U j := sv_split (fun q r hq hr => by
  rcases (show r = 0 ∨ r = 1 ∨ r = 2 ∨ r = 3 ∨ r = 4 ∨ r = 5 ∨ r = 6 ∨ r = 7 ∨ r = 8 ∨ r = 9 ∨ r = 10 ∨ r = 11 ∨ r = 12 ∨ r = 13 ∨ r = 14 by omega) with rfl | rfl | rfl | rfl | rfl | rfl | rfl | rfl | rfl | rfl | rfl | rfl | rfl | rfl | rfl
  · rw [sv_0 _ hq, sv_0 _ hq, st_row _ _ _ _ (by decide), if_neg (show ¬ (15 * q + 0 = 15 * x + 4) by omega)]
  · rw [sv_1 _ hq, sv_1 _ hq, st_row _ _ _ _ (by decide), if_neg (show ¬ (15 * q + 1 = 15 * x + 4) by omega)]
  · rw [sv_2 _ hq, sv_2 _ hq, st_row _ _ _ _ (by decide), if_neg (show ¬ (15 * q + 2 = 15 * x + 4) by omega)]
  · rw [sv_3 _ hq, sv_3 _ hq, st_row _ _ _ _ (by decide), if_neg (show ¬ (15 * q + 3 = 15 * x + 4) by omega)]
  · rw [sv_4 _ hq, sv_4 _ hq, st_at, if_pos rfl]
    by_cases c : q = x
    · subst c; rw [if_pos (rfl : 2 * q = 2 * q), if_pos (rfl : 15 * q + 4 = 15 * q + 4)]
    · rw [if_neg (show ¬ (2 * q = 2 * x) by omega), if_neg (show ¬ (15 * q + 4 = 15 * x + 4) by omega)]
  · rw [sv_5 _ hq, sv_5 _ hq, st_no (by omega), if_neg (show ¬ (15 * q + 5 = 15 * x + 4) by omega)]
  · rw [sv_6 _ hq, sv_6 _ hq, st_row _ _ _ _ (by decide), if_neg (show ¬ (15 * q + 6 = 15 * x + 4) by omega)]
  · rw [sv_7 _ hq, sv_7 _ hq, st_row _ _ _ _ (by decide), if_neg (show ¬ (15 * q + 7 = 15 * x + 4) by omega)]
  · rw [sv_8 _ hq, sv_8 _ hq, st_row _ _ _ _ (by decide), if_neg (show ¬ (15 * q + 8 = 15 * x + 4) by omega)]
  · rw [sv_9 _ hq, sv_9 _ hq, st_row _ _ _ _ (by decide), if_neg (show ¬ (15 * q + 9 = 15 * x + 4) by omega)]
  · rw [sv_10 _ hq, sv_10 _ hq, st_row _ _ _ _ (by decide), if_neg (show ¬ (15 * q + 10 = 15 * x + 4) by omega)]
  · rw [sv_11 _ hq, sv_11 _ hq, st_row _ _ _ _ (by decide), if_neg (show ¬ (15 * q + 11 = 15 * x + 4) by omega)]
  · rw [sv_12 _ hq, sv_12 _ hq, st_row _ _ _ _ (by decide), if_neg (show ¬ (15 * q + 12 = 15 * x + 4) by omega)]
  · rw [sv_13 _ hq, sv_13 _ hq, st_row _ _ _ _ (by decide), if_neg (show ¬ (15 * q + 13 = 15 * x + 4) by omega)]
  · rw [sv_14 _ hq, sv_14 _ hq, st_row _ _ _ _ (by decide), if_neg (show ¬ (15 * q + 14 = 15 * x + 4) by omega)]) (fun p hp => by rw [sv_s _ hp, sv_s _ hp, st_row _ _ _ _ (by decide), if_neg (by omega)]) (fun p hp => by rw [sv_l _ hp, sv_l _ hp, st_row _ _ _ _ (by decide), if_neg (by omega)]) (by rw [sv_d, sv_d, st_row _ _ _ _ (by decide), if_neg (by omega)])
theorem svw_5 {U : SS} {x : Nat} {v : Int32} (hx : x < 72) : ∀ j, j < 1161 → sv (st U 23 (2 * x + 1) v) j = if j = 15 * x + 5 then v else sv U j := sv_split (fun q r hq hr => by
  rcases (show r = 0 ∨ r = 1 ∨ r = 2 ∨ r = 3 ∨ r = 4 ∨ r = 5 ∨ r = 6 ∨ r = 7 ∨ r = 8 ∨ r = 9 ∨ r = 10 ∨ r = 11 ∨ r = 12 ∨ r = 13 ∨ r = 14 by omega) with rfl | rfl | rfl | rfl | rfl | rfl | rfl | rfl | rfl | rfl | rfl | rfl | rfl | rfl | rfl
  · rw [sv_0 _ hq, sv_0 _ hq, st_row _ _ _ _ (by decide), if_neg (show ¬ (15 * q + 0 = 15 * x + 5) by omega)]
  · rw [sv_1 _ hq, sv_1 _ hq, st_row _ _ _ _ (by decide), if_neg (show ¬ (15 * q + 1 = 15 * x + 5) by omega)]
  · rw [sv_2 _ hq, sv_2 _ hq, st_row _ _ _ _ (by decide), if_neg (show ¬ (15 * q + 2 = 15 * x + 5) by omega)]
  · rw [sv_3 _ hq, sv_3 _ hq, st_row _ _ _ _ (by decide), if_neg (show ¬ (15 * q + 3 = 15 * x + 5) by omega)]
  · rw [sv_4 _ hq, sv_4 _ hq, st_no (by omega), if_neg (show ¬ (15 * q + 4 = 15 * x + 5) by omega)]
  · rw [sv_5 _ hq, sv_5 _ hq, st_at, if_pos rfl]
    by_cases c : q = x
    · subst c; rw [if_pos (rfl : 2 * q + 1 = 2 * q + 1), if_pos (rfl : 15 * q + 5 = 15 * q + 5)]
    · rw [if_neg (show ¬ (2 * q + 1 = 2 * x + 1) by omega), if_neg (show ¬ (15 * q + 5 = 15 * x + 5) by omega)]
  · rw [sv_6 _ hq, sv_6 _ hq, st_row _ _ _ _ (by decide), if_neg (show ¬ (15 * q + 6 = 15 * x + 5) by omega)]
  · rw [sv_7 _ hq, sv_7 _ hq, st_row _ _ _ _ (by decide), if_neg (show ¬ (15 * q + 7 = 15 * x + 5) by omega)]
  · rw [sv_8 _ hq, sv_8 _ hq, st_row _ _ _ _ (by decide), if_neg (show ¬ (15 * q + 8 = 15 * x + 5) by omega)]
  · rw [sv_9 _ hq, sv_9 _ hq, st_row _ _ _ _ (by decide), if_neg (show ¬ (15 * q + 9 = 15 * x + 5) by omega)]
  · rw [sv_10 _ hq, sv_10 _ hq, st_row _ _ _ _ (by decide), if_neg (show ¬ (15 * q + 10 = 15 * x + 5) by omega)]
  · rw [sv_11 _ hq, sv_11 _ hq, st_row _ _ _ _ (by decide), if_neg (show ¬ (15 * q + 11 = 15 * x + 5) by omega)]
  · rw [sv_12 _ hq, sv_12 _ hq, st_row _ _ _ _ (by decide), if_neg (show ¬ (15 * q + 12 = 15 * x + 5) by omega)]
  · rw [sv_13 _ hq, sv_13 _ hq, st_row _ _ _ _ (by decide), if_neg (show ¬ (15 * q + 13 = 15 * x + 5) by omega)]
  · rw [sv_14 _ hq, sv_14 _ hq, st_row _ _ _ _ (by decide), if_neg (show ¬ (15 * q + 14 = 15 * x + 5) by omega)]) (fun p hp => by rw [sv_s _ hp, sv_s _ hp, st_row _ _ _ _ (by decide), if_neg (by omega)]) (fun p hp => by rw [sv_l _ hp, sv_l _ hp, st_row _ _ _ _ (by decide), if_neg (by omega)]) (by rw [sv_d, sv_d, st_row _ _ _ _ (by decide), if_neg (by omega)])
theorem svw_6 {U : SS} {x : Nat} {v : Int32} (hx : x < 72) : ∀ j, j < 1161 → sv (st U 24 x v) j = if j = 15 * x + 6 then v else sv U j := sv_split (fun q r hq hr => by
  rcases (show r = 0 ∨ r = 1 ∨ r = 2 ∨ r = 3 ∨ r = 4 ∨ r = 5 ∨ r = 6 ∨ r = 7 ∨ r = 8 ∨ r = 9 ∨ r = 10 ∨ r = 11 ∨ r = 12 ∨ r = 13 ∨ r = 14 by omega) with rfl | rfl | rfl | rfl | rfl | rfl | rfl | rfl | rfl | rfl | rfl | rfl | rfl | rfl | rfl
  · rw [sv_0 _ hq, sv_0 _ hq, st_row _ _ _ _ (by decide), if_neg (show ¬ (15 * q + 0 = 15 * x + 6) by omega)]
  · rw [sv_1 _ hq, sv_1 _ hq, st_row _ _ _ _ (by decide), if_neg (show ¬ (15 * q + 1 = 15 * x + 6) by omega)]
  · rw [sv_2 _ hq, sv_2 _ hq, st_row _ _ _ _ (by decide), if_neg (show ¬ (15 * q + 2 = 15 * x + 6) by omega)]
  · rw [sv_3 _ hq, sv_3 _ hq, st_row _ _ _ _ (by decide), if_neg (show ¬ (15 * q + 3 = 15 * x + 6) by omega)]
  · rw [sv_4 _ hq, sv_4 _ hq, st_row _ _ _ _ (by decide), if_neg (show ¬ (15 * q + 4 = 15 * x + 6) by omega)]
  · rw [sv_5 _ hq, sv_5 _ hq, st_row _ _ _ _ (by decide), if_neg (show ¬ (15 * q + 5 = 15 * x + 6) by omega)]
  · rw [sv_6 _ hq, sv_6 _ hq, st_at, if_pos rfl]
    by_cases c : q = x
    · subst c; rw [if_pos (rfl : q = q), if_pos (rfl : 15 * q + 6 = 15 * q + 6)]
    · rw [if_neg (show ¬ (q = x) by omega), if_neg (show ¬ (15 * q + 6 = 15 * x + 6) by omega)]
  · rw [sv_7 _ hq, sv_7 _ hq, st_row _ _ _ _ (by decide), if_neg (show ¬ (15 * q + 7 = 15 * x + 6) by omega)]
  · rw [sv_8 _ hq, sv_8 _ hq, st_row _ _ _ _ (by decide), if_neg (show ¬ (15 * q + 8 = 15 * x + 6) by omega)]
  · rw [sv_9 _ hq, sv_9 _ hq, st_row _ _ _ _ (by decide), if_neg (show ¬ (15 * q + 9 = 15 * x + 6) by omega)]
  · rw [sv_10 _ hq, sv_10 _ hq, st_row _ _ _ _ (by decide), if_neg (show ¬ (15 * q + 10 = 15 * x + 6) by omega)]
  · rw [sv_11 _ hq, sv_11 _ hq, st_row _ _ _ _ (by decide), if_neg (show ¬ (15 * q + 11 = 15 * x + 6) by omega)]
  · rw [sv_12 _ hq, sv_12 _ hq, st_row _ _ _ _ (by decide), if_neg (show ¬ (15 * q + 12 = 15 * x + 6) by omega)]
  · rw [sv_13 _ hq, sv_13 _ hq, st_row _ _ _ _ (by decide), if_neg (show ¬ (15 * q + 13 = 15 * x + 6) by omega)]
  · rw [sv_14 _ hq, sv_14 _ hq, st_row _ _ _ _ (by decide), if_neg (show ¬ (15 * q + 14 = 15 * x + 6) by omega)]) (fun p hp => by rw [sv_s _ hp, sv_s _ hp, st_row _ _ _ _ (by decide), if_neg (by omega)]) (fun p hp => by rw [sv_l _ hp, sv_l _ hp, st_row _ _ _ _ (by decide), if_neg (by omega)]) (by rw [sv_d, sv_d, st_row _ _ _ _ (by decide), if_neg (by omega)])
theorem svw_7 {U : SS} {x : Nat} {v : Int32} (hx : x < 72) : ∀ j, j < 1161 → sv (st U 25 x v) j = if j = 15 * x + 7 then v else sv U j := sv_split (fun q r hq hr => by
  rcases (show r = 0 ∨ r = 1 ∨ r = 2 ∨ r = 3 ∨ r = 4 ∨ r = 5 ∨ r = 6 ∨ r = 7 ∨ r = 8 ∨ r = 9 ∨ r = 10 ∨ r = 11 ∨ r = 12 ∨ r = 13 ∨ r = 14 by omega) with rfl | rfl | rfl | rfl | rfl | rfl | rfl | rfl | rfl | rfl | rfl | rfl | rfl | rfl | rfl
  · rw [sv_0 _ hq, sv_0 _ hq, st_row _ _ _ _ (by decide), if_neg (show ¬ (15 * q + 0 = 15 * x + 7) by omega)]
  · rw [sv_1 _ hq, sv_1 _ hq, st_row _ _ _ _ (by decide), if_neg (show ¬ (15 * q + 1 = 15 * x + 7) by omega)]
  · rw [sv_2 _ hq, sv_2 _ hq, st_row _ _ _ _ (by decide), if_neg (show ¬ (15 * q + 2 = 15 * x + 7) by omega)]
  · rw [sv_3 _ hq, sv_3 _ hq, st_row _ _ _ _ (by decide), if_neg (show ¬ (15 * q + 3 = 15 * x + 7) by omega)]
  · rw [sv_4 _ hq, sv_4 _ hq, st_row _ _ _ _ (by decide), if_neg (show ¬ (15 * q + 4 = 15 * x + 7) by omega)]
  · rw [sv_5 _ hq, sv_5 _ hq, st_row _ _ _ _ (by decide), if_neg (show ¬ (15 * q + 5 = 15 * x + 7) by omega)]
  · rw [sv_6 _ hq, sv_6 _ hq, st_row _ _ _ _ (by decide), if_neg (show ¬ (15 * q + 6 = 15 * x + 7) by omega)]
  · rw [sv_7 _ hq, sv_7 _ hq, st_at, if_pos rfl]
    by_cases c : q = x
    · subst c; rw [if_pos (rfl : q = q), if_pos (rfl : 15 * q + 7 = 15 * q + 7)]
    · rw [if_neg (show ¬ (q = x) by omega), if_neg (show ¬ (15 * q + 7 = 15 * x + 7) by omega)]
  · rw [sv_8 _ hq, sv_8 _ hq, st_row _ _ _ _ (by decide), if_neg (show ¬ (15 * q + 8 = 15 * x + 7) by omega)]
  · rw [sv_9 _ hq, sv_9 _ hq, st_row _ _ _ _ (by decide), if_neg (show ¬ (15 * q + 9 = 15 * x + 7) by omega)]
  · rw [sv_10 _ hq, sv_10 _ hq, st_row _ _ _ _ (by decide), if_neg (show ¬ (15 * q + 10 = 15 * x + 7) by omega)]
  · rw [sv_11 _ hq, sv_11 _ hq, st_row _ _ _ _ (by decide), if_neg (show ¬ (15 * q + 11 = 15 * x + 7) by omega)]
  · rw [sv_12 _ hq, sv_12 _ hq, st_row _ _ _ _ (by decide), if_neg (show ¬ (15 * q + 12 = 15 * x + 7) by omega)]
  · rw [sv_13 _ hq, sv_13 _ hq, st_row _ _ _ _ (by decide), if_neg (show ¬ (15 * q + 13 = 15 * x + 7) by omega)]
  · rw [sv_14 _ hq, sv_14 _ hq, st_row _ _ _ _ (by decide), if_neg (show ¬ (15 * q + 14 = 15 * x + 7) by omega)]) (fun p hp => by rw [sv_s _ hp, sv_s _ hp, st_row _ _ _ _ (by decide), if_neg (by omega)]) (fun p hp => by rw [sv_l _ hp, sv_l _ hp, st_row _ _ _ _ (by decide), if_neg (by omega)]) (by rw [sv_d, sv_d, st_row _ _ _ _ (by decide), if_neg (by omega)])
theorem svw_8 {U : SS} {x : Nat} {v : Int32} (hx : x < 72) : ∀ j, j < 1161 → sv (st U 26 x v) j = if j = 15 * x + 8 then v else sv U j := sv_split (fun q r hq hr => by
  rcases (show r = 0 ∨ r = 1 ∨ r = 2 ∨ r = 3 ∨ r = 4 ∨ r = 5 ∨ r = 6 ∨ r = 7 ∨ r = 8 ∨ r = 9 ∨ r = 10 ∨ r = 11 ∨ r = 12 ∨ r = 13 ∨ r = 14 by omega) with rfl | rfl | rfl | rfl | rfl | rfl | rfl | rfl | rfl | rfl | rfl | rfl | rfl | rfl | rfl
  · rw [sv_0 _ hq, sv_0 _ hq, st_row _ _ _ _ (by decide), if_neg (show ¬ (15 * q + 0 = 15 * x + 8) by omega)]
  · rw [sv_1 _ hq, sv_1 _ hq, st_row _ _ _ _ (by decide), if_neg (show ¬ (15 * q + 1 = 15 * x + 8) by omega)]
  · rw [sv_2 _ hq, sv_2 _ hq, st_row _ _ _ _ (by decide), if_neg (show ¬ (15 * q + 2 = 15 * x + 8) by omega)]
  · rw [sv_3 _ hq, sv_3 _ hq, st_row _ _ _ _ (by decide), if_neg (show ¬ (15 * q + 3 = 15 * x + 8) by omega)]
  · rw [sv_4 _ hq, sv_4 _ hq, st_row _ _ _ _ (by decide), if_neg (show ¬ (15 * q + 4 = 15 * x + 8) by omega)]
  · rw [sv_5 _ hq, sv_5 _ hq, st_row _ _ _ _ (by decide), if_neg (show ¬ (15 * q + 5 = 15 * x + 8) by omega)]
  · rw [sv_6 _ hq, sv_6 _ hq, st_row _ _ _ _ (by decide), if_neg (show ¬ (15 * q + 6 = 15 * x + 8) by omega)]
  · rw [sv_7 _ hq, sv_7 _ hq, st_row _ _ _ _ (by decide), if_neg (show ¬ (15 * q + 7 = 15 * x + 8) by omega)]
  · rw [sv_8 _ hq, sv_8 _ hq, st_at, if_pos rfl]
    by_cases c : q = x
    · subst c; rw [if_pos (rfl : q = q), if_pos (rfl : 15 * q + 8 = 15 * q + 8)]
    · rw [if_neg (show ¬ (q = x) by omega), if_neg (show ¬ (15 * q + 8 = 15 * x + 8) by omega)]
  · rw [sv_9 _ hq, sv_9 _ hq, st_row _ _ _ _ (by decide), if_neg (show ¬ (15 * q + 9 = 15 * x + 8) by omega)]
  · rw [sv_10 _ hq, sv_10 _ hq, st_row _ _ _ _ (by decide), if_neg (show ¬ (15 * q + 10 = 15 * x + 8) by omega)]
  · rw [sv_11 _ hq, sv_11 _ hq, st_row _ _ _ _ (by decide), if_neg (show ¬ (15 * q + 11 = 15 * x + 8) by omega)]
  · rw [sv_12 _ hq, sv_12 _ hq, st_row _ _ _ _ (by decide), if_neg (show ¬ (15 * q + 12 = 15 * x + 8) by omega)]
  · rw [sv_13 _ hq, sv_13 _ hq, st_row _ _ _ _ (by decide), if_neg (show ¬ (15 * q + 13 = 15 * x + 8) by omega)]
  · rw [sv_14 _ hq, sv_14 _ hq, st_row _ _ _ _ (by decide), if_neg (show ¬ (15 * q + 14 = 15 * x + 8) by omega)]) (fun p hp => by rw [sv_s _ hp, sv_s _ hp, st_row _ _ _ _ (by decide), if_neg (by omega)]) (fun p hp => by rw [sv_l _ hp, sv_l _ hp, st_row _ _ _ _ (by decide), if_neg (by omega)]) (by rw [sv_d, sv_d, st_row _ _ _ _ (by decide), if_neg (by omega)])
theorem svw_9 {U : SS} {x : Nat} {v : Int32} (hx : x < 72) : ∀ j, j < 1161 → sv (st U 27 x v) j = if j = 15 * x + 9 then v else sv U j := sv_split (fun q r hq hr => by
  rcases (show r = 0 ∨ r = 1 ∨ r = 2 ∨ r = 3 ∨ r = 4 ∨ r = 5 ∨ r = 6 ∨ r = 7 ∨ r = 8 ∨ r = 9 ∨ r = 10 ∨ r = 11 ∨ r = 12 ∨ r = 13 ∨ r = 14 by omega) with rfl | rfl | rfl | rfl | rfl | rfl | rfl | rfl | rfl | rfl | rfl | rfl | rfl | rfl | rfl
  · rw [sv_0 _ hq, sv_0 _ hq, st_row _ _ _ _ (by decide), if_neg (show ¬ (15 * q + 0 = 15 * x + 9) by omega)]
  · rw [sv_1 _ hq, sv_1 _ hq, st_row _ _ _ _ (by decide), if_neg (show ¬ (15 * q + 1 = 15 * x + 9) by omega)]
  · rw [sv_2 _ hq, sv_2 _ hq, st_row _ _ _ _ (by decide), if_neg (show ¬ (15 * q + 2 = 15 * x + 9) by omega)]
  · rw [sv_3 _ hq, sv_3 _ hq, st_row _ _ _ _ (by decide), if_neg (show ¬ (15 * q + 3 = 15 * x + 9) by omega)]
  · rw [sv_4 _ hq, sv_4 _ hq, st_row _ _ _ _ (by decide), if_neg (show ¬ (15 * q + 4 = 15 * x + 9) by omega)]
  · rw [sv_5 _ hq, sv_5 _ hq, st_row _ _ _ _ (by decide), if_neg (show ¬ (15 * q + 5 = 15 * x + 9) by omega)]
  · rw [sv_6 _ hq, sv_6 _ hq, st_row _ _ _ _ (by decide), if_neg (show ¬ (15 * q + 6 = 15 * x + 9) by omega)]
  · rw [sv_7 _ hq, sv_7 _ hq, st_row _ _ _ _ (by decide), if_neg (show ¬ (15 * q + 7 = 15 * x + 9) by omega)]
  · rw [sv_8 _ hq, sv_8 _ hq, st_row _ _ _ _ (by decide), if_neg (show ¬ (15 * q + 8 = 15 * x + 9) by omega)]
  · rw [sv_9 _ hq, sv_9 _ hq, st_at, if_pos rfl]
    by_cases c : q = x
    · subst c; rw [if_pos (rfl : q = q), if_pos (rfl : 15 * q + 9 = 15 * q + 9)]
    · rw [if_neg (show ¬ (q = x) by omega), if_neg (show ¬ (15 * q + 9 = 15 * x + 9) by omega)]
  · rw [sv_10 _ hq, sv_10 _ hq, st_row _ _ _ _ (by decide), if_neg (show ¬ (15 * q + 10 = 15 * x + 9) by omega)]
  · rw [sv_11 _ hq, sv_11 _ hq, st_row _ _ _ _ (by decide), if_neg (show ¬ (15 * q + 11 = 15 * x + 9) by omega)]
  · rw [sv_12 _ hq, sv_12 _ hq, st_row _ _ _ _ (by decide), if_neg (show ¬ (15 * q + 12 = 15 * x + 9) by omega)]
  · rw [sv_13 _ hq, sv_13 _ hq, st_row _ _ _ _ (by decide), if_neg (show ¬ (15 * q + 13 = 15 * x + 9) by omega)]
  · rw [sv_14 _ hq, sv_14 _ hq, st_row _ _ _ _ (by decide), if_neg (show ¬ (15 * q + 14 = 15 * x + 9) by omega)]) (fun p hp => by rw [sv_s _ hp, sv_s _ hp, st_row _ _ _ _ (by decide), if_neg (by omega)]) (fun p hp => by rw [sv_l _ hp, sv_l _ hp, st_row _ _ _ _ (by decide), if_neg (by omega)]) (by rw [sv_d, sv_d, st_row _ _ _ _ (by decide), if_neg (by omega)])
theorem svw_10 {U : SS} {x : Nat} {v : Int32} (hx : x < 72) : ∀ j, j < 1161 → sv (st U 30 x v) j = if j = 15 * x + 10 then v else sv U j := sv_split (fun q r hq hr => by
  rcases (show r = 0 ∨ r = 1 ∨ r = 2 ∨ r = 3 ∨ r = 4 ∨ r = 5 ∨ r = 6 ∨ r = 7 ∨ r = 8 ∨ r = 9 ∨ r = 10 ∨ r = 11 ∨ r = 12 ∨ r = 13 ∨ r = 14 by omega) with rfl | rfl | rfl | rfl | rfl | rfl | rfl | rfl | rfl | rfl | rfl | rfl | rfl | rfl | rfl
  · rw [sv_0 _ hq, sv_0 _ hq, st_row _ _ _ _ (by decide), if_neg (show ¬ (15 * q + 0 = 15 * x + 10) by omega)]
  · rw [sv_1 _ hq, sv_1 _ hq, st_row _ _ _ _ (by decide), if_neg (show ¬ (15 * q + 1 = 15 * x + 10) by omega)]
  · rw [sv_2 _ hq, sv_2 _ hq, st_row _ _ _ _ (by decide), if_neg (show ¬ (15 * q + 2 = 15 * x + 10) by omega)]
  · rw [sv_3 _ hq, sv_3 _ hq, st_row _ _ _ _ (by decide), if_neg (show ¬ (15 * q + 3 = 15 * x + 10) by omega)]
  · rw [sv_4 _ hq, sv_4 _ hq, st_row _ _ _ _ (by decide), if_neg (show ¬ (15 * q + 4 = 15 * x + 10) by omega)]
  · rw [sv_5 _ hq, sv_5 _ hq, st_row _ _ _ _ (by decide), if_neg (show ¬ (15 * q + 5 = 15 * x + 10) by omega)]
  · rw [sv_6 _ hq, sv_6 _ hq, st_row _ _ _ _ (by decide), if_neg (show ¬ (15 * q + 6 = 15 * x + 10) by omega)]
  · rw [sv_7 _ hq, sv_7 _ hq, st_row _ _ _ _ (by decide), if_neg (show ¬ (15 * q + 7 = 15 * x + 10) by omega)]
  · rw [sv_8 _ hq, sv_8 _ hq, st_row _ _ _ _ (by decide), if_neg (show ¬ (15 * q + 8 = 15 * x + 10) by omega)]
  · rw [sv_9 _ hq, sv_9 _ hq, st_row _ _ _ _ (by decide), if_neg (show ¬ (15 * q + 9 = 15 * x + 10) by omega)]
  · rw [sv_10 _ hq, sv_10 _ hq, st_at, if_pos rfl]
    by_cases c : q = x
    · subst c; rw [if_pos (rfl : q = q), if_pos (rfl : 15 * q + 10 = 15 * q + 10)]
    · rw [if_neg (show ¬ (q = x) by omega), if_neg (show ¬ (15 * q + 10 = 15 * x + 10) by omega)]
  · rw [sv_11 _ hq, sv_11 _ hq, st_row _ _ _ _ (by decide), if_neg (show ¬ (15 * q + 11 = 15 * x + 10) by omega)]
  · rw [sv_12 _ hq, sv_12 _ hq, st_row _ _ _ _ (by decide), if_neg (show ¬ (15 * q + 12 = 15 * x + 10) by omega)]
  · rw [sv_13 _ hq, sv_13 _ hq, st_row _ _ _ _ (by decide), if_neg (show ¬ (15 * q + 13 = 15 * x + 10) by omega)]
  · rw [sv_14 _ hq, sv_14 _ hq, st_row _ _ _ _ (by decide), if_neg (show ¬ (15 * q + 14 = 15 * x + 10) by omega)]) (fun p hp => by rw [sv_s _ hp, sv_s _ hp, st_row _ _ _ _ (by decide), if_neg (by omega)]) (fun p hp => by rw [sv_l _ hp, sv_l _ hp, st_row _ _ _ _ (by decide), if_neg (by omega)]) (by rw [sv_d, sv_d, st_row _ _ _ _ (by decide), if_neg (by omega)])
theorem svw_11 {U : SS} {x : Nat} {v : Int32} (hx : x < 72) : ∀ j, j < 1161 → sv (st U 31 x v) j = if j = 15 * x + 11 then (if v = 0 then 0 else 1) else sv U j := sv_split (fun q r hq hr => by
  rcases (show r = 0 ∨ r = 1 ∨ r = 2 ∨ r = 3 ∨ r = 4 ∨ r = 5 ∨ r = 6 ∨ r = 7 ∨ r = 8 ∨ r = 9 ∨ r = 10 ∨ r = 11 ∨ r = 12 ∨ r = 13 ∨ r = 14 by omega) with rfl | rfl | rfl | rfl | rfl | rfl | rfl | rfl | rfl | rfl | rfl | rfl | rfl | rfl | rfl
  · rw [sv_0 _ hq, sv_0 _ hq, st_row _ _ _ _ (by decide), if_neg (show ¬ (15 * q + 0 = 15 * x + 11) by omega)]
  · rw [sv_1 _ hq, sv_1 _ hq, st_row _ _ _ _ (by decide), if_neg (show ¬ (15 * q + 1 = 15 * x + 11) by omega)]
  · rw [sv_2 _ hq, sv_2 _ hq, st_row _ _ _ _ (by decide), if_neg (show ¬ (15 * q + 2 = 15 * x + 11) by omega)]
  · rw [sv_3 _ hq, sv_3 _ hq, st_row _ _ _ _ (by decide), if_neg (show ¬ (15 * q + 3 = 15 * x + 11) by omega)]
  · rw [sv_4 _ hq, sv_4 _ hq, st_row _ _ _ _ (by decide), if_neg (show ¬ (15 * q + 4 = 15 * x + 11) by omega)]
  · rw [sv_5 _ hq, sv_5 _ hq, st_row _ _ _ _ (by decide), if_neg (show ¬ (15 * q + 5 = 15 * x + 11) by omega)]
  · rw [sv_6 _ hq, sv_6 _ hq, st_row _ _ _ _ (by decide), if_neg (show ¬ (15 * q + 6 = 15 * x + 11) by omega)]
  · rw [sv_7 _ hq, sv_7 _ hq, st_row _ _ _ _ (by decide), if_neg (show ¬ (15 * q + 7 = 15 * x + 11) by omega)]
  · rw [sv_8 _ hq, sv_8 _ hq, st_row _ _ _ _ (by decide), if_neg (show ¬ (15 * q + 8 = 15 * x + 11) by omega)]
  · rw [sv_9 _ hq, sv_9 _ hq, st_row _ _ _ _ (by decide), if_neg (show ¬ (15 * q + 9 = 15 * x + 11) by omega)]
  · rw [sv_10 _ hq, sv_10 _ hq, st_row _ _ _ _ (by decide), if_neg (show ¬ (15 * q + 10 = 15 * x + 11) by omega)]
  · rw [sv_11 _ hq, sv_11 _ hq, st_at, if_pos rfl]
    by_cases c : q = x
    · subst c; rw [if_pos (rfl : q = q), if_pos (rfl : 15 * q + 11 = 15 * q + 11)]
    · rw [if_neg (show ¬ (q = x) by omega), if_neg (show ¬ (15 * q + 11 = 15 * x + 11) by omega)]
  · rw [sv_12 _ hq, sv_12 _ hq, st_row _ _ _ _ (by decide), if_neg (show ¬ (15 * q + 12 = 15 * x + 11) by omega)]
  · rw [sv_13 _ hq, sv_13 _ hq, st_row _ _ _ _ (by decide), if_neg (show ¬ (15 * q + 13 = 15 * x + 11) by omega)]
  · rw [sv_14 _ hq, sv_14 _ hq, st_row _ _ _ _ (by decide), if_neg (show ¬ (15 * q + 14 = 15 * x + 11) by omega)]) (fun p hp => by rw [sv_s _ hp, sv_s _ hp, st_row _ _ _ _ (by decide), if_neg (by omega)]) (fun p hp => by rw [sv_l _ hp, sv_l _ hp, st_row _ _ _ _ (by decide), if_neg (by omega)]) (by rw [sv_d, sv_d, st_row _ _ _ _ (by decide), if_neg (by omega)])
theorem svw_12 {U : SS} {x : Nat} {v : Int32} (hx : x < 72) : ∀ j, j < 1161 → sv (st U 32 x v) j = if j = 15 * x + 12 then v else sv U j := sv_split (fun q r hq hr => by
  rcases (show r = 0 ∨ r = 1 ∨ r = 2 ∨ r = 3 ∨ r = 4 ∨ r = 5 ∨ r = 6 ∨ r = 7 ∨ r = 8 ∨ r = 9 ∨ r = 10 ∨ r = 11 ∨ r = 12 ∨ r = 13 ∨ r = 14 by omega) with rfl | rfl | rfl | rfl | rfl | rfl | rfl | rfl | rfl | rfl | rfl | rfl | rfl | rfl | rfl
  · rw [sv_0 _ hq, sv_0 _ hq, st_row _ _ _ _ (by decide), if_neg (show ¬ (15 * q + 0 = 15 * x + 12) by omega)]
  · rw [sv_1 _ hq, sv_1 _ hq, st_row _ _ _ _ (by decide), if_neg (show ¬ (15 * q + 1 = 15 * x + 12) by omega)]
  · rw [sv_2 _ hq, sv_2 _ hq, st_row _ _ _ _ (by decide), if_neg (show ¬ (15 * q + 2 = 15 * x + 12) by omega)]
  · rw [sv_3 _ hq, sv_3 _ hq, st_row _ _ _ _ (by decide), if_neg (show ¬ (15 * q + 3 = 15 * x + 12) by omega)]
  · rw [sv_4 _ hq, sv_4 _ hq, st_row _ _ _ _ (by decide), if_neg (show ¬ (15 * q + 4 = 15 * x + 12) by omega)]
  · rw [sv_5 _ hq, sv_5 _ hq, st_row _ _ _ _ (by decide), if_neg (show ¬ (15 * q + 5 = 15 * x + 12) by omega)]
  · rw [sv_6 _ hq, sv_6 _ hq, st_row _ _ _ _ (by decide), if_neg (show ¬ (15 * q + 6 = 15 * x + 12) by omega)]
  · rw [sv_7 _ hq, sv_7 _ hq, st_row _ _ _ _ (by decide), if_neg (show ¬ (15 * q + 7 = 15 * x + 12) by omega)]
  · rw [sv_8 _ hq, sv_8 _ hq, st_row _ _ _ _ (by decide), if_neg (show ¬ (15 * q + 8 = 15 * x + 12) by omega)]
  · rw [sv_9 _ hq, sv_9 _ hq, st_row _ _ _ _ (by decide), if_neg (show ¬ (15 * q + 9 = 15 * x + 12) by omega)]
  · rw [sv_10 _ hq, sv_10 _ hq, st_row _ _ _ _ (by decide), if_neg (show ¬ (15 * q + 10 = 15 * x + 12) by omega)]
  · rw [sv_11 _ hq, sv_11 _ hq, st_row _ _ _ _ (by decide), if_neg (show ¬ (15 * q + 11 = 15 * x + 12) by omega)]
  · rw [sv_12 _ hq, sv_12 _ hq, st_at, if_pos rfl]
    by_cases c : q = x
    · subst c; rw [if_pos (rfl : q = q), if_pos (rfl : 15 * q + 12 = 15 * q + 12)]
    · rw [if_neg (show ¬ (q = x) by omega), if_neg (show ¬ (15 * q + 12 = 15 * x + 12) by omega)]
  · rw [sv_13 _ hq, sv_13 _ hq, st_row _ _ _ _ (by decide), if_neg (show ¬ (15 * q + 13 = 15 * x + 12) by omega)]
  · rw [sv_14 _ hq, sv_14 _ hq, st_row _ _ _ _ (by decide), if_neg (show ¬ (15 * q + 14 = 15 * x + 12) by omega)]) (fun p hp => by rw [sv_s _ hp, sv_s _ hp, st_row _ _ _ _ (by decide), if_neg (by omega)]) (fun p hp => by rw [sv_l _ hp, sv_l _ hp, st_row _ _ _ _ (by decide), if_neg (by omega)]) (by rw [sv_d, sv_d, st_row _ _ _ _ (by decide), if_neg (by omega)])
theorem svw_13 {U : SS} {x : Nat} {v : Int32} (hx : x < 72) : ∀ j, j < 1161 → sv (st U 33 x v) j = if j = 15 * x + 13 then v else sv U j := sv_split (fun q r hq hr => by
  rcases (show r = 0 ∨ r = 1 ∨ r = 2 ∨ r = 3 ∨ r = 4 ∨ r = 5 ∨ r = 6 ∨ r = 7 ∨ r = 8 ∨ r = 9 ∨ r = 10 ∨ r = 11 ∨ r = 12 ∨ r = 13 ∨ r = 14 by omega) with rfl | rfl | rfl | rfl | rfl | rfl | rfl | rfl | rfl | rfl | rfl | rfl | rfl | rfl | rfl
  · rw [sv_0 _ hq, sv_0 _ hq, st_row _ _ _ _ (by decide), if_neg (show ¬ (15 * q + 0 = 15 * x + 13) by omega)]
  · rw [sv_1 _ hq, sv_1 _ hq, st_row _ _ _ _ (by decide), if_neg (show ¬ (15 * q + 1 = 15 * x + 13) by omega)]
  · rw [sv_2 _ hq, sv_2 _ hq, st_row _ _ _ _ (by decide), if_neg (show ¬ (15 * q + 2 = 15 * x + 13) by omega)]
  · rw [sv_3 _ hq, sv_3 _ hq, st_row _ _ _ _ (by decide), if_neg (show ¬ (15 * q + 3 = 15 * x + 13) by omega)]
  · rw [sv_4 _ hq, sv_4 _ hq, st_row _ _ _ _ (by decide), if_neg (show ¬ (15 * q + 4 = 15 * x + 13) by omega)]
  · rw [sv_5 _ hq, sv_5 _ hq, st_row _ _ _ _ (by decide), if_neg (show ¬ (15 * q + 5 = 15 * x + 13) by omega)]
  · rw [sv_6 _ hq, sv_6 _ hq, st_row _ _ _ _ (by decide), if_neg (show ¬ (15 * q + 6 = 15 * x + 13) by omega)]
  · rw [sv_7 _ hq, sv_7 _ hq, st_row _ _ _ _ (by decide), if_neg (show ¬ (15 * q + 7 = 15 * x + 13) by omega)]
  · rw [sv_8 _ hq, sv_8 _ hq, st_row _ _ _ _ (by decide), if_neg (show ¬ (15 * q + 8 = 15 * x + 13) by omega)]
  · rw [sv_9 _ hq, sv_9 _ hq, st_row _ _ _ _ (by decide), if_neg (show ¬ (15 * q + 9 = 15 * x + 13) by omega)]
  · rw [sv_10 _ hq, sv_10 _ hq, st_row _ _ _ _ (by decide), if_neg (show ¬ (15 * q + 10 = 15 * x + 13) by omega)]
  · rw [sv_11 _ hq, sv_11 _ hq, st_row _ _ _ _ (by decide), if_neg (show ¬ (15 * q + 11 = 15 * x + 13) by omega)]
  · rw [sv_12 _ hq, sv_12 _ hq, st_row _ _ _ _ (by decide), if_neg (show ¬ (15 * q + 12 = 15 * x + 13) by omega)]
  · rw [sv_13 _ hq, sv_13 _ hq, st_at, if_pos rfl]
    by_cases c : q = x
    · subst c; rw [if_pos (rfl : q = q), if_pos (rfl : 15 * q + 13 = 15 * q + 13)]
    · rw [if_neg (show ¬ (q = x) by omega), if_neg (show ¬ (15 * q + 13 = 15 * x + 13) by omega)]
  · rw [sv_14 _ hq, sv_14 _ hq, st_row _ _ _ _ (by decide), if_neg (show ¬ (15 * q + 14 = 15 * x + 13) by omega)]) (fun p hp => by rw [sv_s _ hp, sv_s _ hp, st_row _ _ _ _ (by decide), if_neg (by omega)]) (fun p hp => by rw [sv_l _ hp, sv_l _ hp, st_row _ _ _ _ (by decide), if_neg (by omega)]) (by rw [sv_d, sv_d, st_row _ _ _ _ (by decide), if_neg (by omega)])
theorem svw_14 {U : SS} {x : Nat} {v : Int32} (hx : x < 72) : ∀ j, j < 1161 → sv (st U 34 x v) j = if j = 15 * x + 14 then (if v = 0 then 0 else 1) else sv U j := sv_split (fun q r hq hr => by
  rcases (show r = 0 ∨ r = 1 ∨ r = 2 ∨ r = 3 ∨ r = 4 ∨ r = 5 ∨ r = 6 ∨ r = 7 ∨ r = 8 ∨ r = 9 ∨ r = 10 ∨ r = 11 ∨ r = 12 ∨ r = 13 ∨ r = 14 by omega) with rfl | rfl | rfl | rfl | rfl | rfl | rfl | rfl | rfl | rfl | rfl | rfl | rfl | rfl | rfl
  · rw [sv_0 _ hq, sv_0 _ hq, st_row _ _ _ _ (by decide), if_neg (show ¬ (15 * q + 0 = 15 * x + 14) by omega)]
  · rw [sv_1 _ hq, sv_1 _ hq, st_row _ _ _ _ (by decide), if_neg (show ¬ (15 * q + 1 = 15 * x + 14) by omega)]
  · rw [sv_2 _ hq, sv_2 _ hq, st_row _ _ _ _ (by decide), if_neg (show ¬ (15 * q + 2 = 15 * x + 14) by omega)]
  · rw [sv_3 _ hq, sv_3 _ hq, st_row _ _ _ _ (by decide), if_neg (show ¬ (15 * q + 3 = 15 * x + 14) by omega)]
  · rw [sv_4 _ hq, sv_4 _ hq, st_row _ _ _ _ (by decide), if_neg (show ¬ (15 * q + 4 = 15 * x + 14) by omega)]
  · rw [sv_5 _ hq, sv_5 _ hq, st_row _ _ _ _ (by decide), if_neg (show ¬ (15 * q + 5 = 15 * x + 14) by omega)]
  · rw [sv_6 _ hq, sv_6 _ hq, st_row _ _ _ _ (by decide), if_neg (show ¬ (15 * q + 6 = 15 * x + 14) by omega)]
  · rw [sv_7 _ hq, sv_7 _ hq, st_row _ _ _ _ (by decide), if_neg (show ¬ (15 * q + 7 = 15 * x + 14) by omega)]
  · rw [sv_8 _ hq, sv_8 _ hq, st_row _ _ _ _ (by decide), if_neg (show ¬ (15 * q + 8 = 15 * x + 14) by omega)]
  · rw [sv_9 _ hq, sv_9 _ hq, st_row _ _ _ _ (by decide), if_neg (show ¬ (15 * q + 9 = 15 * x + 14) by omega)]
  · rw [sv_10 _ hq, sv_10 _ hq, st_row _ _ _ _ (by decide), if_neg (show ¬ (15 * q + 10 = 15 * x + 14) by omega)]
  · rw [sv_11 _ hq, sv_11 _ hq, st_row _ _ _ _ (by decide), if_neg (show ¬ (15 * q + 11 = 15 * x + 14) by omega)]
  · rw [sv_12 _ hq, sv_12 _ hq, st_row _ _ _ _ (by decide), if_neg (show ¬ (15 * q + 12 = 15 * x + 14) by omega)]
  · rw [sv_13 _ hq, sv_13 _ hq, st_row _ _ _ _ (by decide), if_neg (show ¬ (15 * q + 13 = 15 * x + 14) by omega)]
  · rw [sv_14 _ hq, sv_14 _ hq, st_at, if_pos rfl]
    by_cases c : q = x
    · subst c; rw [if_pos (rfl : q = q), if_pos (rfl : 15 * q + 14 = 15 * q + 14)]
    · rw [if_neg (show ¬ (q = x) by omega), if_neg (show ¬ (15 * q + 14 = 15 * x + 14) by omega)]) (fun p hp => by rw [sv_s _ hp, sv_s _ hp, st_row _ _ _ _ (by decide), if_neg (by omega)]) (fun p hp => by rw [sv_l _ hp, sv_l _ hp, st_row _ _ _ _ (by decide), if_neg (by omega)]) (by rw [sv_d, sv_d, st_row _ _ _ _ (by decide), if_neg (by omega)])
theorem svw_s {U : SS} {x : Nat} {v : Int32} (hx : x < 40) : ∀ j, j < 1161 → sv (st U 10 x v) j = if j = 1080 + 2 * x then v else sv U j := sv_split (fun q r hq hr => by
  rcases (show r = 0 ∨ r = 1 ∨ r = 2 ∨ r = 3 ∨ r = 4 ∨ r = 5 ∨ r = 6 ∨ r = 7 ∨ r = 8 ∨ r = 9 ∨ r = 10 ∨ r = 11 ∨ r = 12 ∨ r = 13 ∨ r = 14 by omega) with rfl | rfl | rfl | rfl | rfl | rfl | rfl | rfl | rfl | rfl | rfl | rfl | rfl | rfl | rfl
  · rw [sv_0 _ hq, sv_0 _ hq, st_row _ _ _ _ (by decide), if_neg (show ¬ (15 * q + 0 = 1080 + 2 * x) by omega)]
  · rw [sv_1 _ hq, sv_1 _ hq, st_row _ _ _ _ (by decide), if_neg (show ¬ (15 * q + 1 = 1080 + 2 * x) by omega)]
  · rw [sv_2 _ hq, sv_2 _ hq, st_row _ _ _ _ (by decide), if_neg (show ¬ (15 * q + 2 = 1080 + 2 * x) by omega)]
  · rw [sv_3 _ hq, sv_3 _ hq, st_row _ _ _ _ (by decide), if_neg (show ¬ (15 * q + 3 = 1080 + 2 * x) by omega)]
  · rw [sv_4 _ hq, sv_4 _ hq, st_row _ _ _ _ (by decide), if_neg (show ¬ (15 * q + 4 = 1080 + 2 * x) by omega)]
  · rw [sv_5 _ hq, sv_5 _ hq, st_row _ _ _ _ (by decide), if_neg (show ¬ (15 * q + 5 = 1080 + 2 * x) by omega)]
  · rw [sv_6 _ hq, sv_6 _ hq, st_row _ _ _ _ (by decide), if_neg (show ¬ (15 * q + 6 = 1080 + 2 * x) by omega)]
  · rw [sv_7 _ hq, sv_7 _ hq, st_row _ _ _ _ (by decide), if_neg (show ¬ (15 * q + 7 = 1080 + 2 * x) by omega)]
  · rw [sv_8 _ hq, sv_8 _ hq, st_row _ _ _ _ (by decide), if_neg (show ¬ (15 * q + 8 = 1080 + 2 * x) by omega)]
  · rw [sv_9 _ hq, sv_9 _ hq, st_row _ _ _ _ (by decide), if_neg (show ¬ (15 * q + 9 = 1080 + 2 * x) by omega)]
  · rw [sv_10 _ hq, sv_10 _ hq, st_row _ _ _ _ (by decide), if_neg (show ¬ (15 * q + 10 = 1080 + 2 * x) by omega)]
  · rw [sv_11 _ hq, sv_11 _ hq, st_row _ _ _ _ (by decide), if_neg (show ¬ (15 * q + 11 = 1080 + 2 * x) by omega)]
  · rw [sv_12 _ hq, sv_12 _ hq, st_row _ _ _ _ (by decide), if_neg (show ¬ (15 * q + 12 = 1080 + 2 * x) by omega)]
  · rw [sv_13 _ hq, sv_13 _ hq, st_row _ _ _ _ (by decide), if_neg (show ¬ (15 * q + 13 = 1080 + 2 * x) by omega)]
  · rw [sv_14 _ hq, sv_14 _ hq, st_row _ _ _ _ (by decide), if_neg (show ¬ (15 * q + 14 = 1080 + 2 * x) by omega)]) (fun p hp => by
  rw [sv_s _ hp, sv_s _ hp, st_at, if_pos rfl]
  by_cases c : p = x
  · rw [if_pos (by omega), if_pos (by omega)]
  · rw [if_neg (by omega), if_neg (by omega)]) (fun p hp => by rw [sv_l _ hp, sv_l _ hp, st_row _ _ _ _ (by decide), if_neg (by omega)]) (by rw [sv_d, sv_d, st_row _ _ _ _ (by decide), if_neg (by omega)])
theorem svw_l {U : SS} {x : Nat} {v : Int32} (hx : x < 40) : ∀ j, j < 1161 → sv (st U 11 x v) j = if j = 1080 + 2 * x + 1 then v else sv U j := sv_split (fun q r hq hr => by
  rcases (show r = 0 ∨ r = 1 ∨ r = 2 ∨ r = 3 ∨ r = 4 ∨ r = 5 ∨ r = 6 ∨ r = 7 ∨ r = 8 ∨ r = 9 ∨ r = 10 ∨ r = 11 ∨ r = 12 ∨ r = 13 ∨ r = 14 by omega) with rfl | rfl | rfl | rfl | rfl | rfl | rfl | rfl | rfl | rfl | rfl | rfl | rfl | rfl | rfl
  · rw [sv_0 _ hq, sv_0 _ hq, st_row _ _ _ _ (by decide), if_neg (show ¬ (15 * q + 0 = 1080 + 2 * x + 1) by omega)]
  · rw [sv_1 _ hq, sv_1 _ hq, st_row _ _ _ _ (by decide), if_neg (show ¬ (15 * q + 1 = 1080 + 2 * x + 1) by omega)]
  · rw [sv_2 _ hq, sv_2 _ hq, st_row _ _ _ _ (by decide), if_neg (show ¬ (15 * q + 2 = 1080 + 2 * x + 1) by omega)]
  · rw [sv_3 _ hq, sv_3 _ hq, st_row _ _ _ _ (by decide), if_neg (show ¬ (15 * q + 3 = 1080 + 2 * x + 1) by omega)]
  · rw [sv_4 _ hq, sv_4 _ hq, st_row _ _ _ _ (by decide), if_neg (show ¬ (15 * q + 4 = 1080 + 2 * x + 1) by omega)]
  · rw [sv_5 _ hq, sv_5 _ hq, st_row _ _ _ _ (by decide), if_neg (show ¬ (15 * q + 5 = 1080 + 2 * x + 1) by omega)]
  · rw [sv_6 _ hq, sv_6 _ hq, st_row _ _ _ _ (by decide), if_neg (show ¬ (15 * q + 6 = 1080 + 2 * x + 1) by omega)]
  · rw [sv_7 _ hq, sv_7 _ hq, st_row _ _ _ _ (by decide), if_neg (show ¬ (15 * q + 7 = 1080 + 2 * x + 1) by omega)]
  · rw [sv_8 _ hq, sv_8 _ hq, st_row _ _ _ _ (by decide), if_neg (show ¬ (15 * q + 8 = 1080 + 2 * x + 1) by omega)]
  · rw [sv_9 _ hq, sv_9 _ hq, st_row _ _ _ _ (by decide), if_neg (show ¬ (15 * q + 9 = 1080 + 2 * x + 1) by omega)]
  · rw [sv_10 _ hq, sv_10 _ hq, st_row _ _ _ _ (by decide), if_neg (show ¬ (15 * q + 10 = 1080 + 2 * x + 1) by omega)]
  · rw [sv_11 _ hq, sv_11 _ hq, st_row _ _ _ _ (by decide), if_neg (show ¬ (15 * q + 11 = 1080 + 2 * x + 1) by omega)]
  · rw [sv_12 _ hq, sv_12 _ hq, st_row _ _ _ _ (by decide), if_neg (show ¬ (15 * q + 12 = 1080 + 2 * x + 1) by omega)]
  · rw [sv_13 _ hq, sv_13 _ hq, st_row _ _ _ _ (by decide), if_neg (show ¬ (15 * q + 13 = 1080 + 2 * x + 1) by omega)]
  · rw [sv_14 _ hq, sv_14 _ hq, st_row _ _ _ _ (by decide), if_neg (show ¬ (15 * q + 14 = 1080 + 2 * x + 1) by omega)]) (fun p hp => by rw [sv_s _ hp, sv_s _ hp, st_row _ _ _ _ (by decide), if_neg (by omega)]) (fun p hp => by
  rw [sv_l _ hp, sv_l _ hp, st_at, if_pos rfl]
  by_cases c : p = x
  · rw [if_pos (by omega), if_pos (by omega)]
  · rw [if_neg (by omega), if_neg (by omega)]) (by rw [sv_d, sv_d, st_row _ _ _ _ (by decide), if_neg (by omega)])
end
section
/-! ===== two runs side by side: what a run that ended tells ===== -/
theorem bnd_i {ρ : Type} {A : Option (Int32 × SS)} {f : Int32 → SS → Option ρ} {y : ρ} (h : bnd A f = some y) : ∃ a T, A = some (a, T) ∧ f a T = some y := by
  match A, h with
  | some (a, T), h => exact ⟨a, T, rfl, h⟩
theorem bndv_i {ρ : Type} {A : Option SS} {f : SS → Option ρ} {y : ρ} (h : bndv A f = some y) : ∃ T, A = some T ∧ f T = some y := by
  match A, h with
  | some T, h => exact ⟨T, rfl, h⟩
theorem grd_i {ρ : Type} {c : Bool} {A : Option ρ} {y : ρ} (h : grd c A = some y) : c = true ∧ A = some y := grd_t h
theorem grT {ρ : Type} {c : Bool} {A : Option ρ} (h : c = true) : grd c A = A := by
  unfold grd; rw [if_pos h]
theorem nmR {α ρ : Type} (x : α) (f : α → Option ρ) : nm x f = f x := rfl
theorem so_i {α : Type} {a b : α} {S T : SS} (h : some (a, S) = some (b, T)) : b = a ∧ T = S := by
  injection h with h; injection h with h1 h2; exact ⟨h1.symm, h2.symm⟩
theorem inb_e {a : Int32} {k : Nat} (h : inb a k = true) (hk : k < 2 ^ 31) : ∃ x, x < k ∧ a = nI x := by
  have hl := inb_lt h
  refine ⟨a.toNatClampNeg, hl, ?_⟩
  have h0 : ¬ a < 0 := by
    intro q
    unfold inb at h
    rw [decide_eq_true q] at h
    cases h
  have h1 : 0 ≤ a.toInt := by
    rw [Int32.lt_iff_toInt_lt] at h0
    have : (0 : Int32).toInt = 0 := by decide
    omega
  apply Int32.toInt_inj.mp
  rw [nI_ti (by omega)]
  show a.toInt = (a.toInt.toNat : Int)
  omega
/-- numbers -/
theorem hk_all : ∀ h : Fin 1200, nI h.1 >>> ((1 : Int32) &&& 31) = nI (h.1 / 2) ∧ nI h.1 &&& (1 : Int32) = nI (h.1 % 2) ∧ nI h.1 ^^^ (1 : Int32) = nI (2 * (h.1 / 2) + (1 - h.1 % 2)) := by decide +kernel
theorem n_shr {h : Nat} (q : h < 1200) : nI h >>> ((1 : Int32) &&& 31) = nI (h / 2) := (hk_all ⟨h, q⟩).1
theorem n_and {h : Nat} (q : h < 1200) : nI h &&& (1 : Int32) = nI (h % 2) := (hk_all ⟨h, q⟩).2.1
theorem n_xor {h : Nat} (q : h < 1200) : nI h ^^^ (1 : Int32) = nI (2 * (h / 2) + (1 - h % 2)) := (hk_all ⟨h, q⟩).2.2
theorem xr_all : ∀ a b : Fin 2, nI a.1 ^^^ nI b.1 = nI (if b.1 = 0 then a.1 else 1 - a.1) := by decide +kernel
theorem n_xr {a b : Nat} (ha : a < 2) (hb : b < 2) : nI a ^^^ nI b = nI (if b = 0 then a else 1 - a) := xr_all ⟨a, ha⟩ ⟨b, hb⟩
theorem n_mul (a b : Nat) {x : Int32} (h : x = nI a) : x * nI b = nI (a * b) := by subst h; exact nI_mul a b
theorem nM2 (b : Nat) : (2 : Int32) * nI b = nI (2 * b) := nI_mul 2 b
theorem nM3 (b : Nat) : (3 : Int32) * nI b = nI (3 * b) := nI_mul 3 b
theorem nM24 (b : Nat) : (24 : Int32) * nI b = nI (24 * b) := nI_mul 24 b
theorem n_d2 {a : Nat} (h : a < 2 ^ 31) : nI a / (2 : Int32) = nI (a / 2) := nI_div (b := 2) h (by omega) (by omega)
theorem n_r2 {a : Nat} (h : a < 2 ^ 31) : nI a - nI a / (2 : Int32) * (2 : Int32) = nI (a % 2) := nI_rem (b := 2) h (by omega) (by omega)
theorem n_d24 {a : Nat} (h : a < 2 ^ 31) : nI a / (24 : Int32) = nI (a / 24) := nI_div (b := 24) h (by omega) (by omega)
theorem n_r24 {a : Nat} (h : a < 2 ^ 31) : nI a - nI a / (24 : Int32) * (24 : Int32) = nI (a % 24) := nI_rem (b := 24) h (by omega) (by omega)
theorem n_m1 {a : Nat} (h : 0 < a) (ha : a < 2 ^ 31) : nI a - (1 : Int32) = nI (a - 1) := nI_sb (b := 1) h ha
theorem n_leJ {a b : Nat} (ha : a < 2 ^ 31) (hb : b < 2 ^ 31) : nI a ≤ nI b ↔ a ≤ b := by
  rw [Int32.le_iff_toInt_le, nI_ti ha, nI_ti hb]; omega
theorem n_ne0 {a : Nat} (ha : a < 2 ^ 31) (h : ¬ a = 0) : ¬ nI a = (0 : Int32) := fun z => h (nI_inj (b := 0) ha (by omega) z)
/-! ===== frames within an act ===== -/
def cdy (k : Nat) : Prop := k = 62 ∨ k = 68 ∨ k = 77 ∨ k = 78 ∨ k = 79 ∨ k = 103 ∨ k = 104
def mdy (k : Nat) : Prop := k = 1 ∨ k = 2 ∨ k = 10 ∨ k = 11 ∨ (19 ≤ k ∧ k ≤ 27) ∨ (30 ≤ k ∧ k ≤ 34) ∨ k = 39 ∨ k = 43 ∨ k = 44 ∨ k = 45
def mdf (i : Nat) : Prop := i ≤ 5 ∨ i = 26 ∨ i = 27 ∨ i = 28 ∨ i = 47 ∨ i = 48 ∨ i = 49 ∨ i = 54 ∨ i = 56 ∨ i = 57 ∨ i = 58 ∨ i = 66 ∨ i = 67 ∨ i = 70
def Cfa (T V : SS) : Prop := ∀ k, ¬ cdy k → V.1 k = T.1 k
def Mf (U W : SS) : Prop := (∀ k, k ≠ 0 → ¬ mdy k → W.1 k = U.1 k) ∧ (∀ i, ¬ mdf i → W.1 0 i = U.1 0 i)
theorem Mf.r {U W : SS} (h_ : Mf U W) : ∀ k, k ≠ 0 → ¬ mdy k → W.1 k = U.1 k := h_.1
theorem Mf.f {U W : SS} (h_ : Mf U W) : ∀ i, ¬ mdf i → W.1 0 i = U.1 0 i := h_.2
theorem Mf.mk_ {U W : SS} (r_ : ∀ k, k ≠ 0 → ¬ mdy k → W.1 k = U.1 k) (f_ : ∀ i, ¬ mdf i → W.1 0 i = U.1 0 i) : Mf U W := ⟨r_, f_⟩
theorem Cfa.rf {T : SS} : Cfa T T := fun _ _ => rfl
theorem Cfa.tr {T V X : SS} (h : Cfa T V) (g : Cfa V X) : Cfa T X := fun k hk => (g k hk).trans (h k hk)
theorem Cfa.w {T V : SS} (h : Cfa T V) {k i : Nat} {v : Int32} (hk : cdy k) : Cfa T (st V k i v) := fun j hj => by
  have e : j ≠ k := fun e => hj (by rw [e]; exact hk)
  rw [st_row _ _ _ _ e]; exact h j hj
theorem Mf.rf {T : SS} : Mf T T := ⟨fun _ _ _ => rfl, fun _ _ => rfl⟩
theorem Mf.tr {T V X : SS} (h : Mf T V) (g : Mf V X) : Mf T X := ⟨fun k k0 hk => (g.r k k0 hk).trans (h.r k k0 hk), fun i hi => (g.f i hi).trans (h.f i hi)⟩
theorem Mf.w {T V : SS} (h : Mf T V) {k i : Nat} {v : Int32} (hk : mdy k) : Mf T (st V k i v) := ⟨fun j j0 hj => by
  have e : j ≠ k := fun e => hj (by rw [e]; exact hk)
  rw [st_row _ _ _ _ e]; exact h.r j j0 hj, fun j hj => by
  have k0 : 0 ≠ k := by unfold mdy at hk; omega
  rw [st_row _ _ _ _ k0]; exact h.f j hj⟩
theorem Mf.wf {T V : SS} (h : Mf T V) {i : Nat} {v : Int32} (hi : mdf i) : Mf T (st V 0 i v) := ⟨fun j j0 hj => by
  rw [st_row _ _ _ _ j0]; exact h.r j j0 hj, fun j hj => by
  rw [st_no (fun e => hj (by rw [e.2]; exact hi))]; exact h.f j hj⟩
/-! ===== what THINGS are told to be, and their LOADS ===== -/
def sumP (r : Nat → Int32) (x : Nat) : Nat → Nat
  | 0 => 0
  | m + 1 => sumP r x m + (r (20 * x + m)).toNatClampNeg
def Stk (T U : SS) (x : Nat) : Prop := (∃ k, k ≤ 6 ∧ T.1 91 (6 * x) = nI k ∧ U.1 18 x = nI k) ∧ (∃ a, a ≤ 8 ∧ T.1 91 (6 * x + 1) = nI a ∧ U.1 28 x = nI a) ∧ (∃ s, s ≤ 100 ∧ T.1 91 (6 * x + 2) = nI s ∧ U.1 29 x = nI s) ∧ ((T.1 91 (6 * x + 3) = -4 ∧ U.1 35 x = -4 ∧ T.1 91 (6 * x + 4) = 0 ∧ T.1 91 (6 * x + 5) = 0) ∨ (∃ m s, m ≤ 20 ∧ s ≤ 1 ∧ U.1 35 x = nI m ∧ T.1 91 (6 * x + 4) = nI m ∧ T.1 91 (6 * x + 3) = nI s ∧ U.1 36 x = nI s ∧ T.1 91 (6 * x + 5) = nI (sumP (U.1 37) x m) ∧ ∀ i, i < m → ∃ v, v ≤ 120 ∧ T.1 92 (20 * x + i) = nI v ∧ U.1 37 (20 * x + i) = nI v))
theorem Stk.kd_ {T U : SS} {x : Nat} (h_ : Stk T U x) : ∃ k, k ≤ 6 ∧ T.1 91 (6 * x) = nI k ∧ U.1 18 x = nI k := h_.1
theorem Stk.ax {T U : SS} {x : Nat} (h_ : Stk T U x) : ∃ a, a ≤ 8 ∧ T.1 91 (6 * x + 1) = nI a ∧ U.1 28 x = nI a := h_.2.1
theorem Stk.sg_ {T U : SS} {x : Nat} (h_ : Stk T U x) : ∃ s, s ≤ 100 ∧ T.1 91 (6 * x + 2) = nI s ∧ U.1 29 x = nI s := h_.2.2.1
theorem Stk.ld {T U : SS} {x : Nat} (h_ : Stk T U x) : (T.1 91 (6 * x + 3) = -4 ∧ U.1 35 x = -4 ∧ T.1 91 (6 * x + 4) = 0 ∧ T.1 91 (6 * x + 5) = 0) ∨ (∃ m s, m ≤ 20 ∧ s ≤ 1 ∧ U.1 35 x = nI m ∧ T.1 91 (6 * x + 4) = nI m ∧ T.1 91 (6 * x + 3) = nI s ∧ U.1 36 x = nI s ∧ T.1 91 (6 * x + 5) = nI (sumP (U.1 37) x m) ∧ ∀ i, i < m → ∃ v, v ≤ 120 ∧ T.1 92 (20 * x + i) = nI v ∧ U.1 37 (20 * x + i) = nI v) := h_.2.2.2
theorem Stk.mk_ {T U : SS} {x : Nat} (kd__ : ∃ k, k ≤ 6 ∧ T.1 91 (6 * x) = nI k ∧ U.1 18 x = nI k) (ax_ : ∃ a, a ≤ 8 ∧ T.1 91 (6 * x + 1) = nI a ∧ U.1 28 x = nI a) (sg__ : ∃ s, s ≤ 100 ∧ T.1 91 (6 * x + 2) = nI s ∧ U.1 29 x = nI s) (ld_ : (T.1 91 (6 * x + 3) = -4 ∧ U.1 35 x = -4 ∧ T.1 91 (6 * x + 4) = 0 ∧ T.1 91 (6 * x + 5) = 0) ∨ (∃ m s, m ≤ 20 ∧ s ≤ 1 ∧ U.1 35 x = nI m ∧ T.1 91 (6 * x + 4) = nI m ∧ T.1 91 (6 * x + 3) = nI s ∧ U.1 36 x = nI s ∧ T.1 91 (6 * x + 5) = nI (sumP (U.1 37) x m) ∧ ∀ i, i < m → ∃ v, v ≤ 120 ∧ T.1 92 (20 * x + i) = nI v ∧ U.1 37 (20 * x + i) = nI v)) : Stk T U x := ⟨kd__, ax_, sg__, ld_⟩
/-- how many LINKS at all ENDS -/
def sumL (r : Nat → Int32) : Nat → Nat
  | 0 => 0
  | k + 1 => sumL r k + (r k).toNatClampNeg
/-! ===== what no act changes ===== -/
def Sta (n np nt : Nat) (T U : SS) : Prop := (n ≤ 72) ∧ (np ≤ 40) ∧ (nt ≤ 24) ∧ (T.1 63 1 = nI n) ∧ (U.1 0 29 = nI n) ∧ (T.1 66 8 = nI np) ∧ (U.1 0 15 = nI np) ∧ (T.1 66 7 = nI nt) ∧ (U.1 0 7 = nI nt) ∧ (∀ t, t < nt → ∃ q, 1 ≤ q ∧ q ≤ 24 ∧ U.1 3 t = nI q) ∧ (∀ i, T.1 93 i = U.1 3 i) ∧ (∀ i, T.1 94 i = U.1 5 i) ∧ (∀ i, T.1 95 i = U.1 9 i) ∧ (∀ i, T.1 96 i = U.1 6 i) ∧ (∀ i, T.1 97 i = U.1 7 i) ∧ (∀ i, T.1 98 i = U.1 4 i) ∧ (∀ e, e < 48 → U.1 5 e = -4 ∨ ∃ p, p < np ∧ U.1 5 e = nI p) ∧ (∀ p, p < np → ∃ e, e < 2 * nt ∧ U.1 9 p = nI e) ∧ (∀ e, e < 48 → ∃ m, m ≤ 3 ∧ U.1 6 e = nI m) ∧ (∀ e k m, e < 48 → U.1 6 e = nI m → m ≤ 3 → k < m → ∃ f, f < 2 * nt ∧ f ≠ e ∧ U.1 7 (3 * e + k) = nI f) ∧ (∀ e k m f k' m', e < 48 → U.1 6 e = nI m → m ≤ 3 → k < m → f < 48 → U.1 6 f = nI m' → m' ≤ 3 → k' < m' → U.1 7 (3 * e + k) = nI f → (U.1 8 (3 * f + k') = U.1 8 (3 * e + k) ↔ U.1 7 (3 * f + k') = nI e)) ∧ (∀ e k m f, e < 48 → U.1 6 e = nI m → m ≤ 3 → k < m → f < 48 → U.1 7 (3 * e + k) = nI f → ∃ k' m', U.1 6 f = nI m' ∧ m' ≤ 3 ∧ k' < m' ∧ U.1 7 (3 * f + k') = nI e) ∧ (∃ N, U.1 0 14 = nI N ∧ 2 * N = sumL (U.1 6) 48 ∧ ∀ e k m, e < 48 → U.1 6 e = nI m → m ≤ 3 → k < m → ∃ i, i < N ∧ U.1 8 (3 * e + k) = nI i) ∧ (T.1 67 8 = U.1 0 19) ∧ (∃ r, r ≤ 12 ∧ U.1 0 19 = nI r ∧ ∀ i, r ≤ i → i < 12 → U.1 12 i = 0) ∧ (∀ i, T.1 99 i = U.1 12 i) ∧ (∀ i, T.1 100 i = U.1 13 i) ∧ (∀ i, T.1 101 i = U.1 14 i) ∧ (∀ i, T.1 102 i = U.1 15 i) ∧ (∀ r, r < 12 → ∃ m, m ≤ 8 ∧ U.1 12 r = nI m) ∧ (∀ r k m, r < 12 → U.1 12 r = nI m → m ≤ 8 → k < m → (∃ p, p < np ∧ U.1 13 (8 * r + k) = nI p) ∧ ∃ l, l ≤ 2 ∧ U.1 14 (8 * r + k) = nI l) ∧ (∀ i, T.1 105 i = U.1 16 i) ∧ (∀ i, T.1 75 i = U.1 17 i) ∧ (∀ x, x < n → Stk T U x) ∧ (∀ x, n ≤ x → x < 72 → T.1 91 (6 * x + 4) = 0 ∧ T.1 91 (6 * x + 5) = 0)
theorem Sta.n72 {n np nt : Nat} {T U : SS} (h_ : Sta n np nt T U) : n ≤ 72 := h_.1
theorem Sta.np40 {n np nt : Nat} {T U : SS} (h_ : Sta n np nt T U) : np ≤ 40 := h_.2.1
theorem Sta.nt24 {n np nt : Nat} {T U : SS} (h_ : Sta n np nt T U) : nt ≤ 24 := h_.2.2.1
theorem Sta.cn {n np nt : Nat} {T U : SS} (h_ : Sta n np nt T U) : T.1 63 1 = nI n := h_.2.2.2.1
theorem Sta.mn {n np nt : Nat} {T U : SS} (h_ : Sta n np nt T U) : U.1 0 29 = nI n := h_.2.2.2.2.1
theorem Sta.cp {n np nt : Nat} {T U : SS} (h_ : Sta n np nt T U) : T.1 66 8 = nI np := h_.2.2.2.2.2.1
theorem Sta.mp {n np nt : Nat} {T U : SS} (h_ : Sta n np nt T U) : U.1 0 15 = nI np := h_.2.2.2.2.2.2.1
theorem Sta.ct {n np nt : Nat} {T U : SS} (h_ : Sta n np nt T U) : T.1 66 7 = nI nt := h_.2.2.2.2.2.2.2.1
theorem Sta.mt {n np nt : Nat} {T U : SS} (h_ : Sta n np nt T U) : U.1 0 7 = nI nt := h_.2.2.2.2.2.2.2.2.1
theorem Sta.pl {n np nt : Nat} {T U : SS} (h_ : Sta n np nt T U) : ∀ t, t < nt → ∃ q, 1 ≤ q ∧ q ≤ 24 ∧ U.1 3 t = nI q := h_.2.2.2.2.2.2.2.2.2.1
theorem Sta.e3 {n np nt : Nat} {T U : SS} (h_ : Sta n np nt T U) : ∀ i, T.1 93 i = U.1 3 i := h_.2.2.2.2.2.2.2.2.2.2.1
theorem Sta.e5 {n np nt : Nat} {T U : SS} (h_ : Sta n np nt T U) : ∀ i, T.1 94 i = U.1 5 i := h_.2.2.2.2.2.2.2.2.2.2.2.1
theorem Sta.e9 {n np nt : Nat} {T U : SS} (h_ : Sta n np nt T U) : ∀ i, T.1 95 i = U.1 9 i := h_.2.2.2.2.2.2.2.2.2.2.2.2.1
theorem Sta.e6 {n np nt : Nat} {T U : SS} (h_ : Sta n np nt T U) : ∀ i, T.1 96 i = U.1 6 i := h_.2.2.2.2.2.2.2.2.2.2.2.2.2.1
theorem Sta.e7 {n np nt : Nat} {T U : SS} (h_ : Sta n np nt T U) : ∀ i, T.1 97 i = U.1 7 i := h_.2.2.2.2.2.2.2.2.2.2.2.2.2.2.1
theorem Sta.e4 {n np nt : Nat} {T U : SS} (h_ : Sta n np nt T U) : ∀ i, T.1 98 i = U.1 4 i := h_.2.2.2.2.2.2.2.2.2.2.2.2.2.2.2.1
theorem Sta.pa {n np nt : Nat} {T U : SS} (h_ : Sta n np nt T U) : ∀ e, e < 48 → U.1 5 e = -4 ∨ ∃ p, p < np ∧ U.1 5 e = nI p := h_.2.2.2.2.2.2.2.2.2.2.2.2.2.2.2.2.1
theorem Sta.pe {n np nt : Nat} {T U : SS} (h_ : Sta n np nt T U) : ∀ p, p < np → ∃ e, e < 2 * nt ∧ U.1 9 p = nI e := h_.2.2.2.2.2.2.2.2.2.2.2.2.2.2.2.2.2.1
theorem Sta.lm {n np nt : Nat} {T U : SS} (h_ : Sta n np nt T U) : ∀ e, e < 48 → ∃ m, m ≤ 3 ∧ U.1 6 e = nI m := h_.2.2.2.2.2.2.2.2.2.2.2.2.2.2.2.2.2.2.1
theorem Sta.lt {n np nt : Nat} {T U : SS} (h_ : Sta n np nt T U) : ∀ e k m, e < 48 → U.1 6 e = nI m → m ≤ 3 → k < m → ∃ f, f < 2 * nt ∧ f ≠ e ∧ U.1 7 (3 * e + k) = nI f := h_.2.2.2.2.2.2.2.2.2.2.2.2.2.2.2.2.2.2.2.1
theorem Sta.li {n np nt : Nat} {T U : SS} (h_ : Sta n np nt T U) : ∀ e k m f k' m', e < 48 → U.1 6 e = nI m → m ≤ 3 → k < m → f < 48 → U.1 6 f = nI m' → m' ≤ 3 → k' < m' → U.1 7 (3 * e + k) = nI f → (U.1 8 (3 * f + k') = U.1 8 (3 * e + k) ↔ U.1 7 (3 * f + k') = nI e) := h_.2.2.2.2.2.2.2.2.2.2.2.2.2.2.2.2.2.2.2.2.1
theorem Sta.ls {n np nt : Nat} {T U : SS} (h_ : Sta n np nt T U) : ∀ e k m f, e < 48 → U.1 6 e = nI m → m ≤ 3 → k < m → f < 48 → U.1 7 (3 * e + k) = nI f → ∃ k' m', U.1 6 f = nI m' ∧ m' ≤ 3 ∧ k' < m' ∧ U.1 7 (3 * f + k') = nI e := h_.2.2.2.2.2.2.2.2.2.2.2.2.2.2.2.2.2.2.2.2.2.1
theorem Sta.ld {n np nt : Nat} {T U : SS} (h_ : Sta n np nt T U) : ∃ N, U.1 0 14 = nI N ∧ 2 * N = sumL (U.1 6) 48 ∧ ∀ e k m, e < 48 → U.1 6 e = nI m → m ≤ 3 → k < m → ∃ i, i < N ∧ U.1 8 (3 * e + k) = nI i := h_.2.2.2.2.2.2.2.2.2.2.2.2.2.2.2.2.2.2.2.2.2.2.1
theorem Sta.er {n np nt : Nat} {T U : SS} (h_ : Sta n np nt T U) : T.1 67 8 = U.1 0 19 := h_.2.2.2.2.2.2.2.2.2.2.2.2.2.2.2.2.2.2.2.2.2.2.2.1
theorem Sta.r19 {n np nt : Nat} {T U : SS} (h_ : Sta n np nt T U) : ∃ r, r ≤ 12 ∧ U.1 0 19 = nI r ∧ ∀ i, r ≤ i → i < 12 → U.1 12 i = 0 := h_.2.2.2.2.2.2.2.2.2.2.2.2.2.2.2.2.2.2.2.2.2.2.2.2.1
theorem Sta.e12 {n np nt : Nat} {T U : SS} (h_ : Sta n np nt T U) : ∀ i, T.1 99 i = U.1 12 i := h_.2.2.2.2.2.2.2.2.2.2.2.2.2.2.2.2.2.2.2.2.2.2.2.2.2.1
theorem Sta.e13 {n np nt : Nat} {T U : SS} (h_ : Sta n np nt T U) : ∀ i, T.1 100 i = U.1 13 i := h_.2.2.2.2.2.2.2.2.2.2.2.2.2.2.2.2.2.2.2.2.2.2.2.2.2.2.1
theorem Sta.e14 {n np nt : Nat} {T U : SS} (h_ : Sta n np nt T U) : ∀ i, T.1 101 i = U.1 14 i := h_.2.2.2.2.2.2.2.2.2.2.2.2.2.2.2.2.2.2.2.2.2.2.2.2.2.2.2.1
theorem Sta.e15 {n np nt : Nat} {T U : SS} (h_ : Sta n np nt T U) : ∀ i, T.1 102 i = U.1 15 i := h_.2.2.2.2.2.2.2.2.2.2.2.2.2.2.2.2.2.2.2.2.2.2.2.2.2.2.2.2.1
theorem Sta.en {n np nt : Nat} {T U : SS} (h_ : Sta n np nt T U) : ∀ r, r < 12 → ∃ m, m ≤ 8 ∧ U.1 12 r = nI m := h_.2.2.2.2.2.2.2.2.2.2.2.2.2.2.2.2.2.2.2.2.2.2.2.2.2.2.2.2.2.1
theorem Sta.ep {n np nt : Nat} {T U : SS} (h_ : Sta n np nt T U) : ∀ r k m, r < 12 → U.1 12 r = nI m → m ≤ 8 → k < m → (∃ p, p < np ∧ U.1 13 (8 * r + k) = nI p) ∧ ∃ l, l ≤ 2 ∧ U.1 14 (8 * r + k) = nI l := h_.2.2.2.2.2.2.2.2.2.2.2.2.2.2.2.2.2.2.2.2.2.2.2.2.2.2.2.2.2.2.1
theorem Sta.e16 {n np nt : Nat} {T U : SS} (h_ : Sta n np nt T U) : ∀ i, T.1 105 i = U.1 16 i := h_.2.2.2.2.2.2.2.2.2.2.2.2.2.2.2.2.2.2.2.2.2.2.2.2.2.2.2.2.2.2.2.1
theorem Sta.e17 {n np nt : Nat} {T U : SS} (h_ : Sta n np nt T U) : ∀ i, T.1 75 i = U.1 17 i := h_.2.2.2.2.2.2.2.2.2.2.2.2.2.2.2.2.2.2.2.2.2.2.2.2.2.2.2.2.2.2.2.2.1
theorem Sta.sk {n np nt : Nat} {T U : SS} (h_ : Sta n np nt T U) : ∀ x, x < n → Stk T U x := h_.2.2.2.2.2.2.2.2.2.2.2.2.2.2.2.2.2.2.2.2.2.2.2.2.2.2.2.2.2.2.2.2.2.1
theorem Sta.sz {n np nt : Nat} {T U : SS} (h_ : Sta n np nt T U) : ∀ x, n ≤ x → x < 72 → T.1 91 (6 * x + 4) = 0 ∧ T.1 91 (6 * x + 5) = 0 := h_.2.2.2.2.2.2.2.2.2.2.2.2.2.2.2.2.2.2.2.2.2.2.2.2.2.2.2.2.2.2.2.2.2.2
theorem Sta.mk_ {n np nt : Nat} {T U : SS} (n72_ : n ≤ 72) (np40_ : np ≤ 40) (nt24_ : nt ≤ 24) (cn_ : T.1 63 1 = nI n) (mn_ : U.1 0 29 = nI n) (cp_ : T.1 66 8 = nI np) (mp_ : U.1 0 15 = nI np) (ct_ : T.1 66 7 = nI nt) (mt_ : U.1 0 7 = nI nt) (pl_ : ∀ t, t < nt → ∃ q, 1 ≤ q ∧ q ≤ 24 ∧ U.1 3 t = nI q) (e3_ : ∀ i, T.1 93 i = U.1 3 i) (e5_ : ∀ i, T.1 94 i = U.1 5 i) (e9_ : ∀ i, T.1 95 i = U.1 9 i) (e6_ : ∀ i, T.1 96 i = U.1 6 i) (e7_ : ∀ i, T.1 97 i = U.1 7 i) (e4_ : ∀ i, T.1 98 i = U.1 4 i) (pa_ : ∀ e, e < 48 → U.1 5 e = -4 ∨ ∃ p, p < np ∧ U.1 5 e = nI p) (pe_ : ∀ p, p < np → ∃ e, e < 2 * nt ∧ U.1 9 p = nI e) (lm_ : ∀ e, e < 48 → ∃ m, m ≤ 3 ∧ U.1 6 e = nI m) (lt_ : ∀ e k m, e < 48 → U.1 6 e = nI m → m ≤ 3 → k < m → ∃ f, f < 2 * nt ∧ f ≠ e ∧ U.1 7 (3 * e + k) = nI f) (li_ : ∀ e k m f k' m', e < 48 → U.1 6 e = nI m → m ≤ 3 → k < m → f < 48 → U.1 6 f = nI m' → m' ≤ 3 → k' < m' → U.1 7 (3 * e + k) = nI f → (U.1 8 (3 * f + k') = U.1 8 (3 * e + k) ↔ U.1 7 (3 * f + k') = nI e)) (ls_ : ∀ e k m f, e < 48 → U.1 6 e = nI m → m ≤ 3 → k < m → f < 48 → U.1 7 (3 * e + k) = nI f → ∃ k' m', U.1 6 f = nI m' ∧ m' ≤ 3 ∧ k' < m' ∧ U.1 7 (3 * f + k') = nI e) (ld_ : ∃ N, U.1 0 14 = nI N ∧ 2 * N = sumL (U.1 6) 48 ∧ ∀ e k m, e < 48 → U.1 6 e = nI m → m ≤ 3 → k < m → ∃ i, i < N ∧ U.1 8 (3 * e + k) = nI i) (er_ : T.1 67 8 = U.1 0 19) (r19_ : ∃ r, r ≤ 12 ∧ U.1 0 19 = nI r ∧ ∀ i, r ≤ i → i < 12 → U.1 12 i = 0) (e12_ : ∀ i, T.1 99 i = U.1 12 i) (e13_ : ∀ i, T.1 100 i = U.1 13 i) (e14_ : ∀ i, T.1 101 i = U.1 14 i) (e15_ : ∀ i, T.1 102 i = U.1 15 i) (en_ : ∀ r, r < 12 → ∃ m, m ≤ 8 ∧ U.1 12 r = nI m) (ep_ : ∀ r k m, r < 12 → U.1 12 r = nI m → m ≤ 8 → k < m → (∃ p, p < np ∧ U.1 13 (8 * r + k) = nI p) ∧ ∃ l, l ≤ 2 ∧ U.1 14 (8 * r + k) = nI l) (e16_ : ∀ i, T.1 105 i = U.1 16 i) (e17_ : ∀ i, T.1 75 i = U.1 17 i) (sk_ : ∀ x, x < n → Stk T U x) (sz_ : ∀ x, n ≤ x → x < 72 → T.1 91 (6 * x + 4) = 0 ∧ T.1 91 (6 * x + 5) = 0) : Sta n np nt T U := ⟨n72_, np40_, nt24_, cn_, mn_, cp_, mp_, ct_, mt_, pl_, e3_, e5_, e9_, e6_, e7_, e4_, pa_, pe_, lm_, lt_, li_, ls_, ld_, er_, r19_, e12_, e13_, e14_, e15_, en_, ep_, e16_, e17_, sk_, sz_⟩
theorem Sta.fr {n np nt : Nat} {T U V W : SS} (h : Sta n np nt T U) (hc : ∀ k, (k = 63 ∨ k = 66 ∨ k = 67 ∨ k = 75 ∨ (91 ≤ k ∧ k ≤ 102) ∨ k = 105) → V.1 k = T.1 k) (hm : ∀ k, ((3 ≤ k ∧ k ≤ 9) ∨ (12 ≤ k ∧ k ≤ 18) ∨ k = 28 ∨ k = 29 ∨ (35 ≤ k ∧ k ≤ 37)) → W.1 k = U.1 k) (hf : ∀ i, (i = 7 ∨ i = 14 ∨ i = 15 ∨ i = 19 ∨ i = 29) → W.1 0 i = U.1 0 i) : Sta n np nt V W := by
  obtain ⟨a1, a2, a3, a4, a5, a6, a7, a8, a9, b1, b2, b3, b4, b5, b6, b7, b8, b9, c1, c2, c3, x1, x2, c4, c5, c6, c7, c8, c9, d1, d2, d3, d4, d5, d6⟩ := h
  have c63 := hc 63 (by omega)
  have c66 := hc 66 (by omega)
  have c67 := hc 67 (by omega)
  have c75 := hc 75 (by omega)
  have c91 := hc 91 (by omega)
  have c92 := hc 92 (by omega)
  have c93 := hc 93 (by omega)
  have c94 := hc 94 (by omega)
  have c95 := hc 95 (by omega)
  have c96 := hc 96 (by omega)
  have c97 := hc 97 (by omega)
  have c98 := hc 98 (by omega)
  have c99 := hc 99 (by omega)
  have c100 := hc 100 (by omega)
  have c101 := hc 101 (by omega)
  have c102 := hc 102 (by omega)
  have c105 := hc 105 (by omega)
  have m3 := hm 3 (by omega)
  have m4 := hm 4 (by omega)
  have m5 := hm 5 (by omega)
  have m6 := hm 6 (by omega)
  have m7 := hm 7 (by omega)
  have m8 := hm 8 (by omega)
  have m9 := hm 9 (by omega)
  have m12 := hm 12 (by omega)
  have m13 := hm 13 (by omega)
  have m14 := hm 14 (by omega)
  have m15 := hm 15 (by omega)
  have m16 := hm 16 (by omega)
  have m17 := hm 17 (by omega)
  have m18 := hm 18 (by omega)
  have m28 := hm 28 (by omega)
  have m29 := hm 29 (by omega)
  have m35 := hm 35 (by omega)
  have m36 := hm 36 (by omega)
  have m37 := hm 37 (by omega)
  have f7 := hf 7 (by omega)
  have f14 := hf 14 (by omega)
  have f15 := hf 15 (by omega)
  have f19 := hf 19 (by omega)
  have f29 := hf 29 (by omega)
  refine ⟨a1, a2, a3, ?_, ?_, ?_, ?_, ?_, ?_, ?_, ?_, ?_, ?_, ?_, ?_, ?_, ?_, ?_, ?_, ?_, ?_, ?_, ?_, ?_, ?_, ?_, ?_, ?_, ?_, ?_, ?_, ?_, ?_, fun x hx => ?_, by rw [c91]; exact d6⟩
  · rw [c63]; exact a4
  · rw [f29]; exact a5
  · rw [c66]; exact a6
  · rw [f15]; exact a7
  · rw [c66]; exact a8
  · rw [f7]; exact a9
  · rw [m3]; exact b1
  · rw [c93, m3]; exact b2
  · rw [c94, m5]; exact b3
  · rw [c95, m9]; exact b4
  · rw [c96, m6]; exact b5
  · rw [c97, m7]; exact b6
  · rw [c98, m4]; exact b7
  · rw [m5]; exact b8
  · rw [m9]; exact b9
  · rw [m6]; exact c1
  · rw [m6, m7]; exact c2
  · rw [m6, m7, m8]; exact c3
  · rw [m6, m7]; exact x1
  · rw [f14, m6, m8]; exact x2
  · rw [c67, f19]; exact c4
  · rw [f19, m12]; exact c5
  · rw [c99, m12]; exact c6
  · rw [c100, m13]; exact c7
  · rw [c101, m14]; exact c8
  · rw [c102, m15]; exact c9
  · rw [m12]; exact d1
  · rw [m12, m13, m14]; exact d2
  · rw [c105, m16]; exact d3
  · rw [c75, m17]; exact d4
  · obtain ⟨k1, k2, k3, k4⟩ := d5 x hx
    refine ⟨?_, ?_, ?_, ?_⟩
    · rw [c91, m18]; exact k1
    · rw [c91, m28]; exact k2
    · rw [c91, m29]; exact k3
    · rw [c91, c92, m35, m36, m37]; exact k4
theorem Sta.cm {n np nt : Nat} {T U V W : SS} (h : Sta n np nt T U) (c : Cfa T V) (m : Mf U W) : Sta n np nt V W := h.fr (fun k hk => c k (by unfold cdy; omega)) (fun k hk => m.r k (by omega) (by unfold mdy; omega)) (fun i hi => m.f i (by unfold mdf; omega))
/-- both worlds in the middle of an act -/
def Bo (n np nt : Nat) (T U : SS) : Prop := (Sta n np nt T U) ∧ (Rw n np nt (U.1 3) (U.1 18) (U.1 0 47).toInt (sv U) (T.1 79)) ∧ (∀ x, x < n → ∃ l, l < 2 ∧ U.1 22 x = nI l) ∧ (T.1 62 2 = U.1 0 5) ∧ (∀ i, T.1 78 i = U.1 2 i) ∧ (T.1 68 5 = U.1 0 49) ∧ (∀ p, p < np → ∃ k, k ≤ 2 ∧ U.1 10 p = nI k) ∧ (AC n (U.1 23)) ∧ (∀ x, x < n → ∃ d, d ≤ 9 ∧ U.1 27 x = nI d) ∧ (∀ x, x < n → ∃ j, j ≤ 50 ∧ U.1 26 x = nI j)
theorem Bo.s {n np nt : Nat} {T U : SS} (h_ : Bo n np nt T U) : Sta n np nt T U := h_.1
theorem Bo.w {n np nt : Nat} {T U : SS} (h_ : Bo n np nt T U) : Rw n np nt (U.1 3) (U.1 18) (U.1 0 47).toInt (sv U) (T.1 79) := h_.2.1
theorem Bo.lk {n np nt : Nat} {T U : SS} (h_ : Bo n np nt T U) : ∀ x, x < n → ∃ l, l < 2 ∧ U.1 22 x = nI l := h_.2.2.1
theorem Bo.tr {n np nt : Nat} {T U : SS} (h_ : Bo n np nt T U) : T.1 62 2 = U.1 0 5 := h_.2.2.2.1
theorem Bo.tc {n np nt : Nat} {T U : SS} (h_ : Bo n np nt T U) : ∀ i, T.1 78 i = U.1 2 i := h_.2.2.2.2.1
theorem Bo.sr {n np nt : Nat} {T U : SS} (h_ : Bo n np nt T U) : T.1 68 5 = U.1 0 49 := h_.2.2.2.2.2.1
theorem Bo.pb {n np nt : Nat} {T U : SS} (h_ : Bo n np nt T U) : ∀ p, p < np → ∃ k, k ≤ 2 ∧ U.1 10 p = nI k := h_.2.2.2.2.2.2.1
theorem Bo.ac {n np nt : Nat} {T U : SS} (h_ : Bo n np nt T U) : AC n (U.1 23) := h_.2.2.2.2.2.2.2.1
theorem Bo.dg {n np nt : Nat} {T U : SS} (h_ : Bo n np nt T U) : ∀ x, x < n → ∃ d, d ≤ 9 ∧ U.1 27 x = nI d := h_.2.2.2.2.2.2.2.2.1
theorem Bo.jm {n np nt : Nat} {T U : SS} (h_ : Bo n np nt T U) : ∀ x, x < n → ∃ j, j ≤ 50 ∧ U.1 26 x = nI j := h_.2.2.2.2.2.2.2.2.2
theorem Bo.mk_ {n np nt : Nat} {T U : SS} (s_ : Sta n np nt T U) (w_ : Rw n np nt (U.1 3) (U.1 18) (U.1 0 47).toInt (sv U) (T.1 79)) (lk_ : ∀ x, x < n → ∃ l, l < 2 ∧ U.1 22 x = nI l) (tr_ : T.1 62 2 = U.1 0 5) (tc_ : ∀ i, T.1 78 i = U.1 2 i) (sr_ : T.1 68 5 = U.1 0 49) (pb_ : ∀ p, p < np → ∃ k, k ≤ 2 ∧ U.1 10 p = nI k) (ac_ : AC n (U.1 23)) (dg_ : ∀ x, x < n → ∃ d, d ≤ 9 ∧ U.1 27 x = nI d) (jm_ : ∀ x, x < n → ∃ j, j ≤ 50 ∧ U.1 26 x = nI j) : Bo n np nt T U := ⟨s_, w_, lk_, tr_, tc_, sr_, pb_, ac_, dg_, jm_⟩
/-! ===== who stands where ===== -/
def stA (c : Nat → Int32) (s : Int32) : Nat → Nat → Int32
  | 0, _ => -4
  | m + 1, x => if c (154 + 11 * x) = s then nI x else stA c s m (x + 1)
theorem stA_or (c : Nat → Int32) (s : Int32) : ∀ m x, stA c s m x = -4 ∨ ∃ y, x ≤ y ∧ y < x + m ∧ stA c s m x = nI y ∧ c (154 + 11 * y) = s
  | 0, x => Or.inl rfl
  | m + 1, x => by
    by_cases q : c (154 + 11 * x) = s
    · exact Or.inr ⟨x, by omega, by omega, by show (if _ then _ else _) = _; rw [if_pos q], q⟩
    · have e : stA c s (m + 1) x = stA c s m (x + 1) := by show (if _ then _ else _) = _; rw [if_neg q]
      rw [e]
      rcases stA_or c s m (x + 1) with h | ⟨y, h1, h2, h3, h4⟩
      · exact Or.inl h
      · exact Or.inr ⟨y, by omega, by omega, h3, h4⟩
theorem c_stands_L {T : SS} {n : Nat} (hn : T.1 63 1 = nI n) (h72 : n ≤ 72) (s : Int32) : ∀ (N x : Nat) (r : Int32) (V : SS), x ≤ n → f_State_standsAt_L2 N s (nI x) T = some (r, V) → V = T ∧ r = stA (T.1 79) s (n - x) x
  | 0, x, r, V, _, h => by cases h
  | N + 1, x, r, V, hx, h => by
    rw [f_State_standsAt_L2.eq_2, hn] at h
    by_cases q : x < n
    · rw [if_neg (nI_ge q (by omega)), sg (f := 0) 0 rfl hn h72 q (by omega), bnd_r, Nat.add_zero] at h
      rw [show n - x = (n - (x + 1)) + 1 by omega]
      show V = T ∧ r = if T.1 79 (154 + 11 * x) = s then nI x else _
      by_cases c : T.1 79 (154 + 11 * x) = s
      · rw [if_pos c] at h ⊢
        exact ⟨(so_i h).2, (so_i h).1⟩
      · rw [if_neg c, nmR, nI_1] at h
        rw [if_neg c]
        exact c_stands_L hn h72 s N (x + 1) r V (by omega) h
    · rw [if_pos (nI_le (by omega) (by omega))] at h
      rw [show n - x = 0 by omega]
      exact ⟨(so_i h).2, (so_i h).1⟩
theorem c_stands {T V : SS} {n : Nat} {s r : Int32} (hn : T.1 63 1 = nI n) (h72 : n ≤ 72) (h : f_State_standsAt s T = some (r, V)) : V = T ∧ r = stA (T.1 79) s n 0 := by
  rw [f_State_standsAt.eq_1] at h
  exact c_stands_L hn h72 s NF 0 r V (by omega) h
theorem Th.spot {nt : Nat} {pl kf K c : Nat → Int32} {x : Nat} (h : Th nt pl kf K c x) {t p : Nat} (hnt : nt ≤ 24) (ht : t < 24) (hp : p < 24) : c (154 + 11 * x) = nI (24 * t + p) ↔ K (15 * x) = 1 ∧ K (15 * x + 1) = nI t ∧ K (15 * x + 2) = nI p := by
  rcases h.at_ with ⟨a, b⟩ | ⟨a, t', p', q, h1, h2, h3, h4, h5, h6, h7⟩
  · rw [a, b]
    constructor
    · intro e
      have := congrArg Int32.toInt e
      rw [nI_ti (by omega)] at this
      have e1 : (-1 : Int32).toInt = -1 := by decide
      omega
    · intro e; exact absurd e.1 (by decide)
  · rw [a, h5, h6, h7]
    constructor
    · intro e
      have := nI_inj (by omega) (by omega) e
      exact ⟨rfl, congrArg nI (by omega), congrArg nI (by omega)⟩
    · rintro ⟨-, e1, e2⟩
      have := nI_inj (by omega) (by omega) e1
      have := nI_inj (by omega) (by omega) e2
      exact congrArg nI (by omega)
theorem m_stand_L {U : SS} {n np nt t p : Nat} {pl kf : Nat → Int32} {B : Int} {c : Nat → Int32} (hn : U.1 0 29 = nI n) (h72 : n ≤ 72) (hnt : nt ≤ 24) (w : Rw n np nt pl kf B (sv U) c) (ht : t < 24) (hp : p < 24) : ∀ (N x : Nat) (r : Int32) (V : SS), x ≤ n → f_M_standing_L2 N (nI t) (nI p) (nI x) U = some (r, V) → V = U ∧ r = stA c (nI (24 * t + p)) (n - x) x
  | 0, x, r, V, _, h => by cases h
  | N + 1, x, r, V, hx, h => by
    rw [f_M_standing_L2.eq_2, hn] at h
    by_cases q : x < n
    · rw [if_neg (nI_ge q (by omega)), inb_nI (j := x) (n := 72) (by omega) (by omega), grT rfl, grT rfl, grT rfl, nI_clamp (by omega)] at h
      have e := (w.th x q).spot hnt ht hp
      rw [show (15 * x : Nat) = 15 * x + 0 from rfl, sv_0 U (by omega), sv_1 U (by omega), sv_2 U (by omega)] at e
      have nx : f_M_standing_j41 (fun v0 v1 v2 S => f_M_standing_L2 N v0 v1 v2 S) (nI t) (nI p) (nI x) U = some (r, V) → ¬ c (154 + 11 * x) = nI (24 * t + p) → V = U ∧ r = stA c (nI (24 * t + p)) (n - x) x := fun h' k => by
        rw [f_M_standing_j41.eq_1, nmR, nI_1] at h'
        rw [show n - x = (n - (x + 1)) + 1 by omega]
        show V = U ∧ r = if _ then _ else _
        rw [if_neg k]
        exact m_stand_L hn h72 hnt w ht hp N (x + 1) r V (by omega) h'
      by_cases c1 : U.1 19 x = 0
      · rw [if_pos c1] at h
        rw [if_pos c1] at e
        exact nx h (fun k => absurd (e.mp k).1 (by decide))
      · rw [if_neg c1] at h
        rw [if_neg c1] at e
        by_cases c2 : U.1 20 x = nI t
        · rw [if_pos c2] at h
          by_cases c3 : U.1 21 x = nI p
          · rw [if_pos c3] at h
            rw [show n - x = (n - (x + 1)) + 1 by omega]
            show V = U ∧ r = if _ then _ else _
            rw [if_pos (e.mpr ⟨rfl, c2, c3⟩)]
            exact ⟨(so_i h).2, (so_i h).1⟩
          · rw [if_neg c3] at h
            exact nx h (fun k => c3 (e.mp k).2.2)
        · rw [if_neg c2] at h
          exact nx h (fun k => c2 (e.mp k).2.1)
    · rw [if_pos (nI_le (by omega) (by omega))] at h
      rw [show n - x = 0 by omega]
      exact ⟨(so_i h).2, (so_i h).1⟩
theorem m_stand {U V : SS} {n np nt t p : Nat} {pl kf : Nat → Int32} {B : Int} {c : Nat → Int32} {r : Int32} (hn : U.1 0 29 = nI n) (h72 : n ≤ 72) (hnt : nt ≤ 24) (w : Rw n np nt pl kf B (sv U) c) (ht : t < 24) (hp : p < 24) (h : f_M_standing (nI t) (nI p) U = some (r, V)) : V = U ∧ r = stA c (nI (24 * t + p)) n 0 := by
  rw [f_M_standing.eq_1] at h
  exact m_stand_L hn h72 hnt w ht hp NF 0 r V (by omega) h
/-! ===== the next place ===== -/
/-- which LINK of an END is open -/
def opk (U : SS) (e : Nat) : Nat := if U.1 5 e = -4 then 0 else (U.1 10 (U.1 5 e).toNatClampNeg).toNatClampNeg
theorem m_open {n np nt : Nat} {T U V : SS} {e : Nat} {r : Int32} (b : Bo n np nt T U) (he : e < 48) (h : f_M_openLink (nI e) U = some (r, V)) : V = U ∧ ∃ m, m ≤ 3 ∧ U.1 6 e = nI m ∧ ((m ≤ opk U e ∧ r = -4) ∨ (opk U e < m ∧ r = nI (opk U e))) := by
  obtain ⟨m, hm, em⟩ := b.s.lm e he
  have hnp := b.s.np40
  have j26 : ∀ k, k ≤ 2 → opk U e = k → f_M_openLink_j26 (nI e) (nI k) U = some (r, V) → V = U ∧ ((m ≤ opk U e ∧ r = -4) ∨ (opk U e < m ∧ r = nI (opk U e))) := fun k hk ek h' => by
    rw [f_M_openLink_j26.eq_1, inb_nI he (by omega), grT rfl, nI_clamp (by omega), em] at h'
    rw [ek]
    by_cases q : m ≤ k
    · rw [if_pos ((n_leJ (by omega) (by omega)).mpr q)] at h'
      exact ⟨(so_i h').2, Or.inl ⟨q, (so_i h').1⟩⟩
    · rw [if_neg (fun z => q ((n_leJ (by omega) (by omega)).mp z))] at h'
      exact ⟨(so_i h').2, Or.inr ⟨by omega, (so_i h').1⟩⟩
  rw [f_M_openLink.eq_1, inb_nI he (by omega), grT rfl, grT rfl, nI_clamp (by omega)] at h
  by_cases q : U.1 5 e = -4
  · rw [if_pos q] at h
    have := j26 0 (by omega) (by unfold opk; rw [if_pos q]) h
    exact ⟨this.1, m, hm, em, this.2⟩
  · rw [if_neg q] at h
    rcases b.s.pa e he with z | ⟨p, hp, ep⟩
    · exact absurd z q
    · obtain ⟨k, hk, ek⟩ := b.pb p hp
      rw [ep, inb_nI (by omega) (by omega), grT rfl, nI_clamp (by omega), ek] at h
      have := j26 k hk (by unfold opk; rw [if_neg q, ep, nI_clamp (by omega), ek, nI_clamp (by omega)]) h
      exact ⟨this.1, m, hm, em, this.2⟩
theorem c_leads {n np nt : Nat} {T U V : SS} {e : Nat} {r : Int32} (b : Bo n np nt T U) (he : e < 48) (h : f_Layout_leadsTo (nI e) T = some (r, V)) : V = T ∧ ∃ m, m ≤ 3 ∧ U.1 6 e = nI m ∧ ((m ≤ opk U e ∧ r = -4) ∨ (opk U e < m ∧ r = U.1 7 (3 * e + opk U e))) := by
  obtain ⟨m, hm, em⟩ := b.s.lm e he
  have hnp := b.s.np40
  have j24 : ∀ k, k ≤ 2 → opk U e = k → f_Layout_leadsTo_j24 (nI e) (nI k) T = some (r, V) → V = T ∧ ((m ≤ opk U e ∧ r = -4) ∨ (opk U e < m ∧ r = U.1 7 (3 * e + opk U e))) := fun k hk ek h' => by
    rw [f_Layout_leadsTo_j24.eq_1, if_neg (nI_nn (by omega)), f_Layout_linksAt.eq_1, if_neg (nI_nn (by omega)), if_neg (show ¬ (48 : Int32) ≤ nI e from nI_ge (b := 48) he (by omega)), inb_nI he (by omega), grT rfl, bnd_r, nI_clamp (by omega), b.s.e6, em] at h'
    rw [ek]
    by_cases q : m ≤ k
    · rw [if_neg (fun z => by have := (nI_ltJ (by omega) (by omega)).mp z; omega)] at h'
      exact ⟨(so_i h').2, Or.inl ⟨q, (so_i h').1⟩⟩
    · rw [if_pos ((nI_ltJ (by omega) (by omega)).mpr (by omega)), nM3, nI_add, inb_nI (by omega) (by omega), grT rfl, nI_clamp (by omega), b.s.e7] at h'
      exact ⟨(so_i h').2, Or.inr ⟨by omega, (so_i h').1⟩⟩
  rw [f_Layout_leadsTo.eq_1, f_Layout_pointAt.eq_1, if_neg (nI_nn (by omega)), if_neg (show ¬ (48 : Int32) ≤ nI e from nI_ge (b := 48) he (by omega)), inb_nI he (by omega), grT rfl, bnd_r, nI_clamp (by omega), b.s.e5] at h
  by_cases q : U.1 5 e = -4
  · rw [if_pos q] at h
    have := j24 0 (by omega) (by unfold opk; rw [if_pos q]) h
    exact ⟨this.1, m, hm, em, this.2⟩
  · rw [if_neg q] at h
    rcases b.s.pa e he with z | ⟨p, hp, ep⟩
    · exact absurd z q
    · obtain ⟨k, hk, ek⟩ := b.pb p hp
      have ep2 := (b.w.pt p hp).1
      rw [sv_s U (by omega), ek] at ep2
      rw [ep, f_State_setting.eq_1, if_neg (nI_nn (by omega)), if_neg (show ¬ (40 : Int32) ≤ nI p from nI_ge (b := 40) (by omega) (by omega)), show (74 : Int32) + nI p = nI (74 + p) from nI_add 74 p, inb_nI (by omega) (by omega), grT rfl, bnd_r, nI_clamp (by omega), ep2] at h
      have := j24 k hk (by unfold opk; rw [if_neg q, ep, nI_clamp (by omega), ek, nI_clamp (by omega)]) h
      exact ⟨this.1, m, hm, em, this.2⟩
theorem c_places {n np nt : Nat} {T U : SS} {t q : Nat} (b : Bo n np nt T U) (ht : t < nt) (hq : U.1 3 t = nI q) : f_Layout_placesOf (nI t) T = some (nI q, T) := by
  have := b.s.nt24
  rw [f_Layout_placesOf.eq_1, if_neg (nI_nn (by omega)), b.s.ct, if_neg (nI_ge ht (by omega)), inb_nI (by omega) (by omega), grT rfl, nI_clamp (by omega), b.s.e3, hq]
/-- the PLACE next to an END -/
def plE (U : SS) (e : Nat) : Nat := if e % 2 = 0 then 0 else (U.1 3 (e / 2)).toNatClampNeg - 1
theorem c_spotAt {n np nt : Nat} {T U : SS} {e : Nat} (b : Bo n np nt T U) (he : e < 2 * nt) : f_Layout_spotAt (nI e) T = some (nI (24 * (e / 2) + plE U e), T) := by
  have := b.s.nt24
  obtain ⟨q, q1, q2, hq⟩ := b.s.pl (e / 2) (by omega)
  rw [f_Layout_spotAt.eq_1, nmR, n_shr (by omega), n_and (by omega)]
  unfold plE
  by_cases c : e % 2 = 0
  · rw [if_pos (by rw [c]; rfl), if_pos c, f_Layout_spot.eq_1, bnd_r, nM24, show nI (24 * (e / 2)) + (0 : Int32) = nI (24 * (e / 2) + 0) from nI_add _ 0]
  · rw [if_neg (n_ne0 (by omega) c), if_neg c, c_places b (by omega) hq, bnd_r, f_Layout_spot.eq_1, bnd_r, nM24, hq, nI_clamp (by omega), n_m1 (by omega) (by omega), nI_add]
theorem m_plE {n np nt : Nat} {T U U' : SS} {e : Nat} (b : Bo n np nt T U) (he : e < 2 * nt) (h3 : U'.1 3 = U.1 3) : f_M_placeAtEnd (nI e) U' = some (nI (plE U e), U') := by
  have := b.s.nt24
  obtain ⟨q, q1, q2, hq⟩ := b.s.pl (e / 2) (by omega)
  rw [f_M_placeAtEnd.eq_1, n_r2 (by omega), n_d2 (by omega)]
  unfold plE
  by_cases c : e % 2 = 0
  · rw [if_pos (by rw [c]; rfl), if_pos c]; rfl
  · rw [if_neg (n_ne0 (by omega) c), if_neg c, inb_nI (by omega) (by omega), grT rfl, nI_clamp (by omega), h3, hq, n_m1 (by omega) (by omega), nI_clamp (by omega)]
theorem plE_lt {n np nt : Nat} {T U : SS} {e q : Nat} (b : Bo n np nt T U) (he : e < 2 * nt) (hq : U.1 3 (e / 2) = nI q) (hq2 : q ≤ 24) : plE U e < q := by
  obtain ⟨q', q1, q2, hq'⟩ := b.s.pl (e / 2) (by omega)
  have : q = q' := nI_inj (by omega) (by omega) (hq.symm.trans hq')
  unfold plE
  rw [hq, nI_clamp (by omega)]
  split <;> omega
/-- what both say of the next place: CLOSED, or TRACK t, PLACE p and the new way d -/
def Nxt (nt : Nat) (pl : Nat → Int32) (r b : Int32) (U' : SS) : Prop := (r = -4 ∧ b = 0) ∨ (¬ b = 0 ∧ ∃ t p d q, t < nt ∧ pl t = nI q ∧ q ≤ 24 ∧ p < q ∧ d < 2 ∧ r = nI (2 * (24 * t + p) + d) ∧ U'.1 0 26 = nI t ∧ U'.1 0 27 = nI p ∧ U'.1 0 28 = nI d)
def Fn (U U' : SS) : Prop := (∀ k, k ≠ 0 → U'.1 k = U.1 k) ∧ (∀ i, i ≠ 26 → i ≠ 27 → i ≠ 28 → U'.1 0 i = U.1 0 i)
theorem Fn.r {U U' : SS} (h_ : Fn U U') : ∀ k, k ≠ 0 → U'.1 k = U.1 k := h_.1
theorem Fn.f {U U' : SS} (h_ : Fn U U') : ∀ i, i ≠ 26 → i ≠ 27 → i ≠ 28 → U'.1 0 i = U.1 0 i := h_.2
theorem Fn.mk_ {U U' : SS} (r_ : ∀ k, k ≠ 0 → U'.1 k = U.1 k) (f_ : ∀ i, i ≠ 26 → i ≠ 27 → i ≠ 28 → U'.1 0 i = U.1 0 i) : Fn U U' := ⟨r_, f_⟩
theorem Fn.rf {U : SS} : Fn U U := ⟨fun _ _ => rfl, fun _ _ _ _ => rfl⟩
theorem Fn.w {U V : SS} (h : Fn U V) {i : Nat} {v : Int32} (hi : i = 26 ∨ i = 27 ∨ i = 28) : Fn U (st V 0 i v) := ⟨fun k hk => by rw [st_row _ _ _ _ hk]; exact h.r k hk, fun j a b c => by rw [st_no (by omega)]; exact h.f j a b c⟩
theorem Fn.mf {U V : SS} (h : Fn U V) : Mf U V := ⟨fun k k0 _ => h.r k k0, fun i hi => h.f i (by unfold mdf at hi; omega) (by unfold mdf at hi; omega) (by unfold mdf at hi; omega)⟩
theorem nM4 : (-4 : Int32).toInt = -4 := by decide
theorem next_al {n np nt : Nat} {T U V W : SS} {t p d q : Nat} {r bo : Int32} (b : Bo n np nt T U) (ht : t < nt) (hq : U.1 3 t = nI q) (hq2 : q ≤ 24) (hp : p < q) (hd : d < 2) (h1 : f_Layout_nextPlace (nI (24 * t + p)) (nI d) T = some (r, V)) (h2 : f_M_isOpen (nI t) (nI p) (nI d) U = some (bo, W)) : V = T ∧ Fn U W ∧ Nxt nt (U.1 3) r bo W := by
  have hnt := b.s.nt24
  -- the class: which END lies behind
  have hE : f_Layout_endNextTo (nI (24 * t + p)) (nI d) T = some (if p = (if d = 0 then 0 else q - 1) then nI (2 * t + d) else -4, T) := by
    rw [f_Layout_endNextTo.eq_1, f_Layout_trackOf.eq_1, bnd_r, n_d24 (by omega), show (24 * t + p) / 24 = t by omega]
    have j : ∀ y, y < 24 → f_Layout_endNextTo_j20 (nI (24 * t + p)) (nI d) (nI t) (nI y) T = some (if p = y then nI (2 * t + d) else -4, T) := fun y hy => by
      rw [f_Layout_endNextTo_j20.eq_1, f_Layout_placeOf.eq_1, bnd_r, n_r24 (by omega), show (24 * t + p) % 24 = p by omega, nM2, nI_add]
      by_cases c : p = y
      · rw [if_pos (by rw [c]), if_pos c]
      · rw [if_neg (fun z => c (nI_inj (by omega) (by omega) z)), if_neg c]
    by_cases c : d = 0
    · rw [if_pos (by rw [c]; rfl), if_pos c]; exact j 0 (by omega)
    · rw [if_neg (n_ne0 (by omega) c), if_neg c, c_places b ht hq, bnd_r, n_m1 (by omega) (by omega)]; exact j (q - 1) (by omega)
  rw [f_Layout_nextPlace.eq_1, hE, bnd_r] at h1
  -- the reference: the PLACE on the same TRACK, or the END
  have hj14 : ∀ (y : Int32), (y = nI (p + 1) ∧ d = 1) ∨ (y = nI p - 1 ∧ d = 0) → f_M_isOpen_j14 (nI t) (nI p) (nI d) y U = some (bo, W) → V = T ∧ Fn U W ∧ Nxt nt (U.1 3) r bo W := by
    intro y hy h2
    have hin : p = (if d = 0 then 0 else q - 1) → f_M_isOpen_j50 (nI t) (nI p) (nI d) U = some (bo, W) → V = T ∧ Fn U W ∧ Nxt nt (U.1 3) r bo W := by
      intro hl h2
      rw [if_pos hl, if_neg (nI_m4 (by omega))] at h1
      obtain ⟨r4, V3, l1, h1⟩ := bnd_i h1
      obtain ⟨rfl, m, hm, em, l2⟩ := c_leads b (by omega) l1
      rw [f_M_isOpen_j50.eq_1, nmR, nM2, nI_add] at h2
      obtain ⟨r3, U2, o1, h2⟩ := bnd_i h2
      obtain ⟨rfl, m', hm', em', o2⟩ := m_open b (by omega) o1
      have : m = m' := nI_inj (by omega) (by omega) (em.symm.trans em')
      subst this
      rcases l2 with ⟨l3, rfl⟩ | ⟨l3, rfl⟩
      · rcases o2 with ⟨o3, rfl⟩ | ⟨o3, rfl⟩
        · rw [if_pos rfl] at h1 h2
          obtain ⟨rfl, rfl⟩ := so_i h1
          obtain ⟨rfl, rfl⟩ := so_i h2
          exact ⟨rfl, Fn.rf, Or.inl ⟨rfl, rfl⟩⟩
        · omega
      · rcases o2 with ⟨o3, rfl⟩ | ⟨o3, rfl⟩
        · omega
        · obtain ⟨f, hf, hfe, ef⟩ := b.s.lt (2 * t + d) _ m (by omega) em hm l3
          rw [ef, if_neg (nI_m4 (by omega))] at h1
          obtain ⟨r6, V5, k1, h1⟩ := bnd_i h1
          obtain ⟨rfl, m2, hm2, em2, k2⟩ := c_leads b (by omega) k1
          rw [if_neg (nI_m4 (by omega)), nM3, nI_add, inb_nI (by omega) (by omega), grT rfl, nmR, nI_clamp (by omega), ef] at h2
          obtain ⟨r7, U5, g1, h2⟩ := bnd_i h2
          obtain ⟨rfl, m3, hm3, em3, g2⟩ := m_open b (by omega) g1
          have : m2 = m3 := nI_inj (by omega) (by omega) (em2.symm.trans em3)
          subst this
          rcases k2 with ⟨k3, rfl⟩ | ⟨k3, rfl⟩
          · rcases g2 with ⟨g3, rfl⟩ | ⟨g3, rfl⟩
            · rw [if_neg (fun z => nI_m4 (by omega) z.symm)] at h1
              rw [if_pos rfl] at h2
              obtain ⟨rfl, rfl⟩ := so_i h1
              obtain ⟨rfl, rfl⟩ := so_i h2
              exact ⟨rfl, Fn.rf, Or.inl ⟨rfl, rfl⟩⟩
            · omega
          · rcases g2 with ⟨g3, rfl⟩ | ⟨g3, rfl⟩
            · omega
            · have li := b.s.li (2 * t + d) _ m f _ m2 (by omega) em hm l3 (by omega) em2 hm2 k3 ef
              rw [if_neg (nI_m4 (by omega)), nM3, nI_add, inb_nI (by omega) (by omega), grT rfl, grT rfl, nI_clamp (by omega)] at h2
              by_cases c : U5.1 8 (3 * f + opk U5 f) = U5.1 8 (3 * (2 * t + d) + opk U5 (2 * t + d))
              · rw [if_pos c, wr_r, n_r2 (by omega), n_d2 (by omega)] at h2
                rw [if_pos (li.mp c), c_spotAt b hf, bnd_r, n_and (by omega)] at h1
                obtain ⟨r9, U8, p1, h2⟩ := bnd_i h2
                rw [m_plE b hf (by rw [st_row _ _ _ _ (by decide)])] at p1
                obtain ⟨rfl, rfl⟩ := so_i p1
                rw [wr_r] at h2
                have hpl := b.s.pl (f / 2) (by omega)
                obtain ⟨qf, -, qf2, hqf⟩ := hpl
                have hpf := plE_lt b hf hqf qf2
                have fin : ∀ w, w = 1 - f % 2 → f_M_isOpen_j163 (nI t) (nI p) (nI w) (st (st U5 0 26 (nI (f / 2))) 0 27 (nI (plE U5 f))) = some (bo, W) → V5 = V5 ∧ Fn U5 W ∧ Nxt nt (U5.1 3) r bo W := fun w hw h2 => by
                  rw [f_M_isOpen_j163.eq_1, wr_r, st_no (by omega), st_no (by omega), st_here, st_no (by omega), st_here] at h2
                  have F3 : Fn U5 (st (st (st U5 0 26 (nI (f / 2))) 0 27 (nI (plE U5 f))) 0 28 (nI w)) := ((Fn.rf.w (Or.inl rfl)).w (Or.inr (Or.inl rfl))).w (Or.inr (Or.inr rfl))
                  by_cases s : 24 * (f / 2) + plE U5 f = 24 * t + p
                  · rw [if_pos (congrArg nI s)] at h1
                    rw [if_pos (congrArg nI (by omega)), if_pos (congrArg nI (by omega))] at h2
                    obtain ⟨rfl, -⟩ := so_i h1
                    obtain ⟨rfl, rfl⟩ := so_i h2
                    exact ⟨rfl, F3, Or.inl ⟨rfl, rfl⟩⟩
                  · rw [if_neg (fun z => s (nI_inj (by omega) (by omega) z)), c_spotAt b hf, bnd_r, nM2, nI_1, nI_sb (by omega) (by omega)] at h1
                    obtain ⟨rfl, -⟩ := so_i h1
                    have h2' : some ((1 : Int32), st (st (st U5 0 26 (nI (f / 2))) 0 27 (nI (plE U5 f))) 0 28 (nI w)) = some (bo, W) := by
                      by_cases c1 : nI (f / 2) = nI t
                      · rw [if_pos c1, if_neg (fun z => s (by
                          have a1 := nI_inj (by omega) (by omega) c1
                          have a2 := nI_inj (by omega) (by omega) z
                          omega))] at h2
                        exact h2
                      · rw [if_neg c1] at h2
                        exact h2
                    obtain ⟨rfl, rfl⟩ := so_i h2'
                    refine ⟨rfl, F3, Or.inr ⟨by decide, f / 2, plE U5 f, w, qf, by omega, hqf, qf2, hpf, by omega, congrArg nI (by omega), ?_, ?_, ?_⟩⟩
                    · rw [st_no (by omega), st_no (by omega), st_here]
                    · rw [st_no (by omega), st_here]
                    · rw [st_here]
                by_cases c5 : f % 2 = 0
                · rw [if_pos (by rw [c5]; rfl)] at h2
                  have := fin 1 (by omega) h2
                  have hv : V = V5 := by
                    by_cases s : 24 * (f / 2) + plE U5 f = 24 * t + p
                    · rw [if_pos (congrArg nI s)] at h1; exact (so_i h1).2
                    · rw [if_neg (fun z => s (nI_inj (by omega) (by omega) z)), c_spotAt b hf, bnd_r] at h1; exact (so_i h1).2
                  exact ⟨hv, this.2⟩
                · rw [if_neg (n_ne0 (by omega) c5)] at h2
                  have := fin 0 (by omega) h2
                  have hv : V = V5 := by
                    by_cases s : 24 * (f / 2) + plE U5 f = 24 * t + p
                    · rw [if_pos (congrArg nI s)] at h1; exact (so_i h1).2
                    · rw [if_neg (fun z => s (nI_inj (by omega) (by omega) z)), c_spotAt b hf, bnd_r] at h1; exact (so_i h1).2
                  exact ⟨hv, this.2⟩
              · rw [if_neg c] at h2
                rw [if_neg (fun z => c (li.mpr z))] at h1
                obtain ⟨rfl, rfl⟩ := so_i h1
                obtain ⟨rfl, rfl⟩ := so_i h2
                exact ⟨rfl, Fn.rf, Or.inl ⟨rfl, rfl⟩⟩
    rw [f_M_isOpen_j14.eq_1] at h2
    have same : ∀ y', y' < q → y = nI y' → y' + 1 = p + 2 * d → ¬ p = (if d = 0 then 0 else q - 1) → V = T ∧ Fn U W ∧ Nxt nt (U.1 3) r bo W := fun y' hy' ey hyp hne => by
      rw [ey, if_neg (nI_nn (by omega)), inb_nI (by omega) (by omega), grT rfl, nI_clamp (by omega), hq, if_neg (fun z => by have := (n_leJ (by omega) (by omega)).mp z; omega)] at h2
      rw [if_neg hne, if_pos rfl, nM2, nI_add, n_m1 (by omega) (by omega), nM2, nI_add] at h1
      obtain ⟨rfl, rfl⟩ := so_i h1
      have h2 : some ((1 : Int32), st (st (st U 0 26 (nI t)) 0 27 (nI y')) 0 28 (nI d)) = some (bo, W) := h2
      obtain ⟨rfl, rfl⟩ := so_i h2
      refine ⟨rfl, ((Fn.rf.w (Or.inl rfl)).w (Or.inr (Or.inl rfl))).w (Or.inr (Or.inr rfl)), Or.inr ⟨by decide, t, y', d, q, ht, hq, hq2, hy', hd, congrArg nI (by omega), ?_, ?_, ?_⟩⟩
      · rw [st_no (by omega), st_no (by omega), st_here]
      · rw [st_no (by omega), st_here]
      · rw [st_here]
    rcases hy with ⟨rfl, rfl⟩ | ⟨rfl, rfl⟩
    · by_cases c : p + 1 < q
      · exact same (p + 1) c rfl (by omega) (by rw [if_neg (by omega)]; omega)
      · rw [if_neg (nI_nn (by omega)), inb_nI (by omega) (by omega), grT rfl, nI_clamp (by omega), hq, if_pos (nI_le (by omega) (by omega))] at h2
        exact hin (by rw [if_neg (by omega)]; omega) h2
    · by_cases c : p = 0
      · subst c
        rw [if_pos (by decide)] at h2
        exact hin (by rw [if_pos rfl]) h2
      · exact same (p - 1) (by omega) (n_m1 (by omega) (by omega)) (by omega) (by rw [if_pos rfl]; exact c)
  rw [f_M_isOpen.eq_1] at h2
  by_cases c : d = 1
  · subst c
    rw [if_pos (by decide), nI_1] at h2
    exact hj14 _ (Or.inl ⟨rfl, rfl⟩) h2
  · have : d = 0 := by omega
    subst this
    rw [if_neg (by decide)] at h2
    exact hj14 _ (Or.inr ⟨rfl, rfl⟩) h2
/-! ===== lines ===== -/
/-- what a walk along couplings looks at: the class's and the reference's are the same -/
def Mt (n : Nat) (c : Nat → Int32) (T U : SS) : Prop := (n ≤ 72) ∧ (T.1 63 1 = nI n) ∧ (∀ y d, y < n → d < 2 → T.1 79 (154 + 11 * y + (2 + d)) = c (2 * y + d)) ∧ (U.1 23 = c)
theorem Mt.n72 {n : Nat} {c : Nat → Int32} {T U : SS} (h_ : Mt n c T U) : n ≤ 72 := h_.1
theorem Mt.cn {n : Nat} {c : Nat → Int32} {T U : SS} (h_ : Mt n c T U) : T.1 63 1 = nI n := h_.2.1
theorem Mt.mc {n : Nat} {c : Nat → Int32} {T U : SS} (h_ : Mt n c T U) : ∀ y d, y < n → d < 2 → T.1 79 (154 + 11 * y + (2 + d)) = c (2 * y + d) := h_.2.2.1
theorem Mt.mm {n : Nat} {c : Nat → Int32} {T U : SS} (h_ : Mt n c T U) : U.1 23 = c := h_.2.2.2
theorem Mt.mk_ {n : Nat} {c : Nat → Int32} {T U : SS} (n72_ : n ≤ 72) (cn_ : T.1 63 1 = nI n) (mc_ : ∀ y d, y < n → d < 2 → T.1 79 (154 + 11 * y + (2 + d)) = c (2 * y + d)) (mm_ : U.1 23 = c) : Mt n c T U := ⟨n72_, cn_, mc_, mm_⟩
theorem Mt.fr {n : Nat} {c : Nat → Int32} {T U V W : SS} (h : Mt n c T U) (e1 : V.1 63 1 = T.1 63 1) (e2 : V.1 79 = T.1 79) (e3 : W.1 23 = U.1 23) : Mt n c V W := ⟨h.n72, by rw [e1]; exact h.cn, by rw [e2]; exact h.mc, by rw [e3]; exact h.mm⟩
theorem Rw.mates {n np nt : Nat} {pl kf : Nat → Int32} {B : Int} {T U : SS} (w : Rw n np nt pl kf B (sv U) (T.1 79)) (h72 : n ≤ 72) (hn : T.1 63 1 = nI n) : Mt n (U.1 23) T U := by
  refine ⟨h72, hn, fun y d hy hd => ?_, rfl⟩
  have t := w.th y hy
  rcases (show d = 0 ∨ d = 1 by omega) with rfl | rfl
  · have := t.m0
    rw [sv_4 U (by omega)] at this
    exact this
  · have := t.m1
    rw [sv_5 U (by omega)] at this
    exact this
theorem c_onw_no {n : Nat} {c : Nat → Int32} {T U : SS} {x s : Nat} (h : Mt n c T U) (hx : x < n) (hs : s < 2) (q : c (2 * x + s) = -4) : f_Trains_onward (nI (2 * x + s)) T = some (-4, T) := by
  have := h.n72
  rw [f_Trains_onward.eq_1, n_shr (by omega), n_and (by omega), show (2 * x + s) / 2 = x by omega, show (2 * x + s) % 2 = s by omega, show (2 : Int32) + nI s = nI (2 + s) from nI_add 2 s, sg (f := 2 + s) _ rfl h.cn h.n72 hx (by omega), bnd_r, h.mc x s hx hs, q, if_pos rfl]
theorem c_onw {n : Nat} {c : Nat → Int32} {T U : SS} {x s o t : Nat} (h : Mt n c T U) (hx : x < n) (hs : s < 2) (ho : o < n) (ht : t < 2) (e1 : c (2 * x + s) = nI o) (e3 : c (2 * o) = nI x ↔ t = 0) : f_Trains_onward (nI (2 * x + s)) T = some (nI (2 * o + (1 - t)), T) := by
  have := h.n72
  have m0 : T.1 79 (154 + 11 * o + 2) = c (2 * o) := h.mc o 0 ho (by omega)
  rw [f_Trains_onward.eq_1, n_shr (by omega), n_and (by omega), show (2 * x + s) / 2 = x by omega, show (2 * x + s) % 2 = s by omega, show (2 : Int32) + nI s = nI (2 + s) from nI_add 2 s, sg (f := 2 + s) _ rfl h.cn h.n72 hx (by omega), bnd_r, h.mc x s hx hs, e1, if_neg (nI_m4 (by omega)), sg (f := 2) 2 rfl h.cn h.n72 ho (by omega), bnd_r, m0, nM2]
  rcases (show t = 0 ∨ t = 1 by omega) with rfl | rfl
  · rw [if_pos (e3.mpr rfl), nI_1]
  · rw [if_neg (fun z => by have := e3.mp z; omega)]; rfl
def FcL (T V : SS) : Prop := (∀ k, k ≠ 104 → k ≠ 68 → V.1 k = T.1 k) ∧ (∀ i, i ≠ 4 → V.1 68 i = T.1 68 i)
theorem FcL.r {T V : SS} (h_ : FcL T V) : ∀ k, k ≠ 104 → k ≠ 68 → V.1 k = T.1 k := h_.1
theorem FcL.f {T V : SS} (h_ : FcL T V) : ∀ i, i ≠ 4 → V.1 68 i = T.1 68 i := h_.2
theorem FcL.mk_ {T V : SS} (r_ : ∀ k, k ≠ 104 → k ≠ 68 → V.1 k = T.1 k) (f_ : ∀ i, i ≠ 4 → V.1 68 i = T.1 68 i) : FcL T V := ⟨r_, f_⟩
theorem FcL.tr {T V X : SS} (h : FcL T V) (g : FcL V X) : FcL T X := ⟨fun k a b => (g.r k a b).trans (h.r k a b), fun i a => (g.f i a).trans (h.f i a)⟩
theorem FcL.rf {T : SS} : FcL T T := ⟨fun _ _ _ => rfl, fun _ _ => rfl⟩
theorem FcL.w1 {T V : SS} (h : FcL T V) {i : Nat} {v : Int32} : FcL T (st V 104 i v) := ⟨fun k a b => by rw [st_row _ _ _ _ a]; exact h.r k a b, fun j a => by rw [st_row _ _ _ _ (by decide)]; exact h.f j a⟩
theorem FcL.w2 {T V : SS} (h : FcL T V) {v : Int32} : FcL T (st V 68 4 v) := ⟨fun k a b => by rw [st_row _ _ _ _ b]; exact h.r k a b, fun j a => by rw [st_no (by omega)]; exact h.f j a⟩
theorem FcL.cf {T V : SS} (h : FcL T V) : Cfa T V := fun k hk => h.r k (by unfold cdy at hk; omega) (by unfold cdy at hk; omega)
def FmL (U W : SS) : Prop := (∀ k, k ≠ 0 → k ≠ 39 → W.1 k = U.1 k) ∧ (∀ i, i ≠ 56 → i ≠ 57 → i ≠ 58 → W.1 0 i = U.1 0 i)
theorem FmL.r {U W : SS} (h_ : FmL U W) : ∀ k, k ≠ 0 → k ≠ 39 → W.1 k = U.1 k := h_.1
theorem FmL.f {U W : SS} (h_ : FmL U W) : ∀ i, i ≠ 56 → i ≠ 57 → i ≠ 58 → W.1 0 i = U.1 0 i := h_.2
theorem FmL.mk_ {U W : SS} (r_ : ∀ k, k ≠ 0 → k ≠ 39 → W.1 k = U.1 k) (f_ : ∀ i, i ≠ 56 → i ≠ 57 → i ≠ 58 → W.1 0 i = U.1 0 i) : FmL U W := ⟨r_, f_⟩
theorem FmL.rf {T : SS} : FmL T T := ⟨fun _ _ _ => rfl, fun _ _ _ _ => rfl⟩
theorem FmL.tr {T V X : SS} (h : FmL T V) (g : FmL V X) : FmL T X := ⟨fun k a b => (g.r k a b).trans (h.r k a b), fun i a b c => (g.f i a b c).trans (h.f i a b c)⟩
theorem FmL.w1 {T V : SS} (h : FmL T V) {i : Nat} {v : Int32} : FmL T (st V 39 i v) := ⟨fun k a b => by rw [st_row _ _ _ _ b]; exact h.r k a b, fun j a b c => by rw [st_row _ _ _ _ (by decide)]; exact h.f j a b c⟩
theorem FmL.w2 {T V : SS} (h : FmL T V) {i : Nat} {v : Int32} (hi : i = 56 ∨ i = 57 ∨ i = 58) : FmL T (st V 0 i v) := ⟨fun k a b => by rw [st_row _ _ _ _ a]; exact h.r k a b, fun j a b c => by rw [st_no (by omega)]; exact h.f j a b c⟩
theorem FmL.mf {U W : SS} (h : FmL U W) : Mf U W := ⟨fun k k0 hk => h.r k k0 (by unfold mdy at hk; omega), fun i hi => h.f i (by unfold mdf at hi; omega) (by unfold mdf at hi; omega) (by unfold mdf at hi; omega)⟩
/-- a walk of m hooks ahead, from THING x on -/
def cpl (c : Nat → Int32) (a b : Nat) : Prop := (∃ s, s < 2 ∧ c (2 * a + s) = nI b) ∧ ∃ t, t < 2 ∧ c (2 * b + t) = nI a
def Wk (n : Nat) (c : Nat → Int32) (pos : Nat → Int) (P : Nat → Prop) (x m : Nat) (hk : Nat → Nat) : Prop := (1 ≤ m) ∧ (∀ i, i < m → hk i < 2 * n) ∧ (∀ i, i < m → pos (hk i / 2) = pos x + i) ∧ (∀ i, i < m → (P (hk i / 2) ↔ P x)) ∧ (∀ i, i + 1 < m → cpl c (hk i / 2) (hk (i + 1) / 2))
theorem Wk.m1 {n : Nat} {c : Nat → Int32} {pos : Nat → Int} {P : Nat → Prop} {x m : Nat} {hk : Nat → Nat} (h_ : Wk n c pos P x m hk) : 1 ≤ m := h_.1
theorem Wk.lt {n : Nat} {c : Nat → Int32} {pos : Nat → Int} {P : Nat → Prop} {x m : Nat} {hk : Nat → Nat} (h_ : Wk n c pos P x m hk) : ∀ i, i < m → hk i < 2 * n := h_.2.1
theorem Wk.ps {n : Nat} {c : Nat → Int32} {pos : Nat → Int} {P : Nat → Prop} {x m : Nat} {hk : Nat → Nat} (h_ : Wk n c pos P x m hk) : ∀ i, i < m → pos (hk i / 2) = pos x + i := h_.2.2.1
theorem Wk.pp {n : Nat} {c : Nat → Int32} {pos : Nat → Int} {P : Nat → Prop} {x m : Nat} {hk : Nat → Nat} (h_ : Wk n c pos P x m hk) : ∀ i, i < m → (P (hk i / 2) ↔ P x) := h_.2.2.2.1
theorem Wk.cp {n : Nat} {c : Nat → Int32} {pos : Nat → Int} {P : Nat → Prop} {x m : Nat} {hk : Nat → Nat} (h_ : Wk n c pos P x m hk) : ∀ i, i + 1 < m → cpl c (hk i / 2) (hk (i + 1) / 2) := h_.2.2.2.2
theorem Wk.mk_ {n : Nat} {c : Nat → Int32} {pos : Nat → Int} {P : Nat → Prop} {x m : Nat} {hk : Nat → Nat} (m1_ : 1 ≤ m) (lt_ : ∀ i, i < m → hk i < 2 * n) (ps_ : ∀ i, i < m → pos (hk i / 2) = pos x + i) (pp_ : ∀ i, i < m → (P (hk i / 2) ↔ P x)) (cp_ : ∀ i, i + 1 < m → cpl c (hk i / 2) (hk (i + 1) / 2)) : Wk n c pos P x m hk := ⟨m1_, lt_, ps_, pp_, cp_⟩
theorem Wk.one {n : Nat} {c : Nat → Int32} {pos : Nat → Int} {P : Nat → Prop} {x h : Nat} (hx : x < n) (e : h / 2 = x) : Wk n c pos P x 1 (fun _ => h) := ⟨by omega, fun i _ => by show h < 2 * n; omega, fun i hi => by rw [e]; omega, fun i _ => by rw [e], fun i hi => by omega⟩
def cns (h : Nat) (hk : Nat → Nat) (i : Nat) : Nat := if i = 0 then h else hk (i - 1)
theorem Wk.cons {n : Nat} {cc : Nat → Int32} {pos : Nat → Int} {P : Nat → Prop} {x o m h : Nat} {hk : Nat → Nat} (w : Wk n cc pos P o m hk) (hx : x < n) (e : h / 2 = x) (ep : pos o = pos x + 1) (eP : P o ↔ P x) (e0 : hk 0 / 2 = o) (ec : cpl cc x o) : Wk n cc pos P x (m + 1) (cns h hk) := by
  refine ⟨by omega, fun i hi => ?_, fun i hi => ?_, fun i hi => ?_, fun i hi => ?_⟩ <;> unfold cns <;> by_cases c : i = 0
  · rw [if_pos c]; omega
  · rw [if_neg c]; exact w.lt _ (by omega)
  · rw [if_pos c, e]; omega
  · rw [if_neg c, w.ps _ (by omega)]; omega
  · rw [if_pos c, e]
  · rw [if_neg c, w.pp _ (by omega)]; exact eP
  · subst c
    rw [if_pos rfl, if_neg (by omega), e, Nat.add_sub_cancel, e0]; exact ec
  · have g := w.cp (i - 1) (by omega)
    rw [if_neg c, if_neg (by omega), Nat.add_sub_cancel]
    rw [show i - 1 + 1 = i by omega] at g
    exact g
theorem cns_0 (h : Nat) (hk : Nat → Nat) : cns h hk 0 = h := rfl
theorem cns_s (h : Nat) (hk : Nat → Nat) (i : Nat) : cns h hk (i + 1) = hk i := by unfold cns; rw [if_neg (by omega)]; rfl
theorem c_lstep {n : Nat} {c : Nat → Int32} {N k x s : Nat} {T U V : SS} (h : Mt n c T U) (hk : T.1 68 4 = nI k) (k72 : k < 72) (hx : x < n) (hs : s < 2) (h1 : f_Trains_lineUp_L41 (N + 1) (nI (2 * x + s)) T = some V) : ∃ T1, T1 = st (st T 104 k (nI (2 * x + (1 - s)))) 68 4 (nI (k + 1)) ∧ ((c (2 * x + s) = -4 → V = T1) ∧ ∀ o t, o < n → t < 2 → c (2 * x + s) = nI o → (c (2 * o) = nI x ↔ t = 0) → f_Trains_lineUp_L41 N (nI (2 * o + (1 - t))) T1 = some V) := by
  have := h.n72
  refine ⟨_, rfl, ?_⟩
  rw [f_Trains_lineUp_L41.eq_2, if_neg (nI_m4 (by omega)), hk, if_neg (show ¬ (72 : Int32) ≤ nI k from nI_ge (b := 72) k72 (by omega)), inb_nI k72 (by omega), grT rfl, wr_r, wr_r, st_row _ _ _ _ (by decide), hk, nI_1, nI_clamp (by omega), n_xor (by omega), show 2 * ((2 * x + s) / 2) + (1 - (2 * x + s) % 2) = 2 * x + (1 - s) by omega] at h1
  have m1 : Mt n c (st (st T 104 k (nI (2 * x + (1 - s)))) 68 4 (nI (k + 1))) U := h.fr (by rw [st_row _ _ _ _ (by decide), st_row _ _ _ _ (by decide)]) (by rw [st_row _ _ _ _ (by decide), st_row _ _ _ _ (by decide)]) rfl
  refine ⟨fun q => ?_, fun o t ho ht e1 e3 => ?_⟩
  · rw [c_onw_no m1 hx hs q, bnd_r] at h1
    match N, h1 with
    | N + 1, h1 =>
      rw [f_Trains_lineUp_L41.eq_2, if_pos rfl] at h1
      injection h1 with h1; exact h1.symm
  · rw [c_onw m1 hx hs ho ht e1 e3, bnd_r] at h1
    exact h1
/-- the second half of lineUp, both at once -/
theorem lu_2 {n : Nat} {c : Nat → Int32} {pos : Nat → Int} {dir : Nat → Nat} {P : Nat → Prop} (hc : ACw n c pos dir) (hP : ∀ x s o, x < n → s < 2 → o < n → c (2 * x + s) = nI o → (P o ↔ P x)) : ∀ (N M k x s : Nat) (T U V W : SS), Mt n c T U → T.1 68 4 = nI k → k < 72 → U.1 0 56 = nI (k + 1) → U.1 39 k = nI x → x < n → s < 2 → s = dir x → f_Trains_lineUp_L41 N (nI (2 * x + s)) T = some V → f_M_lineUp_L81 M (nI x) (nI s) U = some W → ∃ m hk, Wk n c pos P x m hk ∧ k + m ≤ 72 ∧ hk 0 = 2 * x + (1 - s) ∧ V.1 68 4 = nI (k + m) ∧ W.1 0 56 = nI (k + m) ∧ (∀ i, i < m → V.1 104 (k + i) = nI (hk i) ∧ W.1 39 (k + i) = nI (hk i / 2)) ∧ (∀ i, i < k → V.1 104 i = T.1 104 i ∧ W.1 39 i = U.1 39 i) ∧ W.1 0 58 = nI (1 - hk (m - 1) % 2) ∧ W.1 0 57 = U.1 0 57 ∧ FcL T V ∧ FmL U W
  | 0, M, k, x, s, T, U, V, W, hm, hk, k72, h56, h39, hx, hs, hd, h1, h2 => by cases h1
  | N + 1, 0, k, x, s, T, U, V, W, hm, hk, k72, h56, h39, hx, hs, hd, h1, h2 => by cases h2
  | N + 1, M + 1, k, x, s, T, U, V, W, hm, hk, k72, h56, h39, hx, hs, hd, h1, h2 => by
    have h72 := hm.n72
    obtain ⟨T1, eT1, g1, g2⟩ := c_lstep hm hk k72 hx hs h1
    rw [f_M_lineUp_L81.eq_2, n2, inb_nI (by omega) (by omega), grT rfl, nI_clamp (by omega), hm.mm] at h2
    by_cases q : c (2 * x + s) = -4
    · rw [if_pos q, wr_r] at h2
      injection h2 with h2
      have e := g1 q
      subst e
      subst h2
      refine ⟨1, fun _ => 2 * x + (1 - s), Wk.one hx (by omega), by omega, rfl, ?_, ?_, fun i hi => ?_, fun i hi => ?_, ?_, ?_, ?_, ?_⟩
      · rw [eT1, st_here]
      · rw [st_no (by omega), h56]
      · have : i = 0 := by omega
        subst this
        refine ⟨?_, ?_⟩
        · rw [eT1, st_row _ _ _ _ (by decide), Nat.add_zero, st_here]
        · rw [st_row _ _ _ _ (by decide), Nat.add_zero, h39]; exact congrArg nI (show x = (2 * x + (1 - s)) / 2 by omega)
      · refine ⟨?_, by rw [st_row _ _ _ _ (by decide)]⟩
        rw [eT1, st_row _ _ _ _ (by decide), st_no (by omega)]
      · rw [st_here]; exact congrArg nI (show s = 1 - (2 * x + (1 - s)) % 2 by omega)
      · rw [st_no (by omega)]
      · rw [eT1]; exact FcL.rf.w1.w2
      · exact FmL.rf.w2 (by omega)
    · obtain ⟨o, t, ho, ht, e1, e2, e3, e4⟩ := ac_next hc h72 hx hs q
      obtain ⟨e5, e6⟩ := e4 hd
      rw [if_neg q, grT rfl, nmR, e1, sideTo_s hm.mm (by omega) ht e3, bnd_r, nmR, n1m ht, h56] at h2
      obtain ⟨hb, h2⟩ := grd_i h2
      have hb := inb_lt hb
      rw [nI_clamp (by omega)] at hb
      rw [wr_r, wr_r, st_row _ _ _ _ (by decide), h56, nI_1, nI_clamp (by omega)] at h2
      have r := g2 o t ho ht e1 e3
      have F1 : FcL T T1 := by rw [eT1]; exact FcL.rf.w1.w2
      have F2 : FmL U (st (st U 39 (k + 1) (nI o)) 0 56 (nI (k + 1 + 1))) := FmL.rf.w1.w2 (by omega)
      obtain ⟨m, hk', w, r1, r2, r3, r4, r5, r6, r7, r8, r9, r10⟩ := lu_2 hc hP N M (k + 1) o (1 - t) T1 _ V W (hm.fr (by rw [F1.r 63 (by decide) (by decide)]) (F1.r 79 (by decide) (by decide)) (F2.r 23 (by decide) (by decide))) (by rw [eT1, st_here]) hb (by rw [st_here]) (by rw [st_row _ _ _ _ (by decide), st_here]) ho (by omega) e6 r h2
      have hpp := hP x s o hx hs ho e1
      refine ⟨m + 1, cns (2 * x + (1 - s)) hk', w.cons hx (by omega) e5 hpp (by rw [r2]; omega) ⟨⟨s, hs, e1⟩, t, ht, e2⟩, by omega, rfl, ?_, ?_, fun i hi => ?_, fun i hi => ?_, ?_, ?_, F1.tr r9, F2.tr r10⟩
      · rw [r3]; exact congrArg nI (by omega)
      · rw [r4]; exact congrArg nI (by omega)
      · match i, hi with
        | 0, _ =>
          have := r6 k (by omega)
          rw [Nat.add_zero, cns_0, this.1, this.2, eT1]
          refine ⟨?_, ?_⟩
          · rw [st_row _ _ _ _ (by decide), st_here]
          · rw [st_row _ _ _ _ (by decide), st_no (by omega), h39]; exact congrArg nI (by omega)
        | i + 1, hi =>
          have := r5 i (by omega)
          rw [cns_s, show k + (i + 1) = k + 1 + i by omega]; exact this
      · have := r6 i (by omega)
        rw [this.1, this.2, eT1]
        refine ⟨?_, ?_⟩
        · rw [st_row _ _ _ _ (by decide), st_no (by omega)]
        · rw [st_row _ _ _ _ (by decide), st_no (by omega)]
      · have hm1 := w.m1
        rw [r7, show m + 1 - 1 = (m - 1) + 1 by omega, cns_s]
      · rw [r8, st_no (by omega), st_row _ _ _ _ (by decide)]
/-- the CONSIST in the class's line and the reference's row -/
def Ln (n : Nat) (V W : SS) (m : Nat) (hk : Nat → Nat) : Prop := (1 ≤ m) ∧ (m ≤ 72) ∧ (∀ i, i < m → hk i < 2 * n) ∧ (∀ i j, i < m → j < m → hk i / 2 = hk j / 2 → i = j) ∧ (V.1 68 4 = nI m) ∧ (∀ i, i < m → V.1 104 i = nI (hk i)) ∧ (W.1 0 56 = nI m) ∧ (∀ i, i < m → W.1 39 i = nI (hk i / 2)) ∧ (W.1 0 57 = nI (hk 0 % 2)) ∧ (W.1 0 58 = nI (1 - hk (m - 1) % 2)) ∧ (∀ i, i + 1 < m → cpl (W.1 23) (hk i / 2) (hk (i + 1) / 2))
theorem Ln.m1 {n : Nat} {V W : SS} {m : Nat} {hk : Nat → Nat} (h_ : Ln n V W m hk) : 1 ≤ m := h_.1
theorem Ln.m72 {n : Nat} {V W : SS} {m : Nat} {hk : Nat → Nat} (h_ : Ln n V W m hk) : m ≤ 72 := h_.2.1
theorem Ln.lt {n : Nat} {V W : SS} {m : Nat} {hk : Nat → Nat} (h_ : Ln n V W m hk) : ∀ i, i < m → hk i < 2 * n := h_.2.2.1
theorem Ln.nd {n : Nat} {V W : SS} {m : Nat} {hk : Nat → Nat} (h_ : Ln n V W m hk) : ∀ i j, i < m → j < m → hk i / 2 = hk j / 2 → i = j := h_.2.2.2.1
theorem Ln.cl {n : Nat} {V W : SS} {m : Nat} {hk : Nat → Nat} (h_ : Ln n V W m hk) : V.1 68 4 = nI m := h_.2.2.2.2.1
theorem Ln.cr {n : Nat} {V W : SS} {m : Nat} {hk : Nat → Nat} (h_ : Ln n V W m hk) : ∀ i, i < m → V.1 104 i = nI (hk i) := h_.2.2.2.2.2.1
theorem Ln.ml {n : Nat} {V W : SS} {m : Nat} {hk : Nat → Nat} (h_ : Ln n V W m hk) : W.1 0 56 = nI m := h_.2.2.2.2.2.2.1
theorem Ln.mr {n : Nat} {V W : SS} {m : Nat} {hk : Nat → Nat} (h_ : Ln n V W m hk) : ∀ i, i < m → W.1 39 i = nI (hk i / 2) := h_.2.2.2.2.2.2.2.1
theorem Ln.fs {n : Nat} {V W : SS} {m : Nat} {hk : Nat → Nat} (h_ : Ln n V W m hk) : W.1 0 57 = nI (hk 0 % 2) := h_.2.2.2.2.2.2.2.2.1
theorem Ln.ls {n : Nat} {V W : SS} {m : Nat} {hk : Nat → Nat} (h_ : Ln n V W m hk) : W.1 0 58 = nI (1 - hk (m - 1) % 2) := h_.2.2.2.2.2.2.2.2.2.1
theorem Ln.cp {n : Nat} {V W : SS} {m : Nat} {hk : Nat → Nat} (h_ : Ln n V W m hk) : ∀ i, i + 1 < m → cpl (W.1 23) (hk i / 2) (hk (i + 1) / 2) := h_.2.2.2.2.2.2.2.2.2.2
theorem Ln.mk_ {n : Nat} {V W : SS} {m : Nat} {hk : Nat → Nat} (m1_ : 1 ≤ m) (m72_ : m ≤ 72) (lt_ : ∀ i, i < m → hk i < 2 * n) (nd_ : ∀ i j, i < m → j < m → hk i / 2 = hk j / 2 → i = j) (cl_ : V.1 68 4 = nI m) (cr_ : ∀ i, i < m → V.1 104 i = nI (hk i)) (ml_ : W.1 0 56 = nI m) (mr_ : ∀ i, i < m → W.1 39 i = nI (hk i / 2)) (fs_ : W.1 0 57 = nI (hk 0 % 2)) (ls_ : W.1 0 58 = nI (1 - hk (m - 1) % 2)) (cp_ : ∀ i, i + 1 < m → cpl (W.1 23) (hk i / 2) (hk (i + 1) / 2)) : Ln n V W m hk := ⟨m1_, m72_, lt_, nd_, cl_, cr_, ml_, mr_, fs_, ls_, cp_⟩
theorem lu_1 {n : Nat} {c : Nat → Int32} {pos : Nat → Int} {dir : Nat → Nat} {P : Nat → Prop} (hc : ACw n c pos dir) (hP : ∀ x s o, x < n → s < 2 → o < n → c (2 * x + s) = nI o → (P o ↔ P x)) : ∀ (N M i x s : Nat) (T U V W : SS), Mt n c T U → x < n → s < 2 → s = dir x → i + gp pos n (pos x) < 72 → f_Trains_lineUp_L4 N (nI (2 * x + s)) (nI i) T = some V → f_M_lineUp_L4 M (nI x) (nI s) U = some W → ∃ m hk, Ln n V W m hk ∧ (∀ i, i < m → (P (hk i / 2) ↔ P x)) ∧ FcL T V ∧ FmL U W
  | 0, M, i, x, s, T, U, V, W, hm, hx, hs, hd, hi, h1, h2 => by cases h1
  | N + 1, 0, i, x, s, T, U, V, W, hm, hx, hs, hd, hi, h1, h2 => by cases h2
  | N + 1, M + 1, i, x, s, T, U, V, W, hm, hx, hs, hd, hi, h1, h2 => by
    have h72 := hm.n72
    rw [f_M_lineUp_L4.eq_2, n2, inb_nI (by omega) (by omega), grT rfl, nI_clamp (by omega), hm.mm] at h2
    rw [f_Trains_lineUp_L4.eq_2, if_neg (show ¬ (72 : Int32) ≤ nI i from nI_ge (b := 72) (by omega) (by omega))] at h1
    by_cases q : c (2 * x + s) = -4
    · rw [c_onw_no hm hx hs q, bnd_r, if_pos rfl, f_Trains_lineUp_j32.eq_1, wr_r, nmR, n_xor (by omega), show 2 * ((2 * x + s) / 2) + (1 - (2 * x + s) % 2) = 2 * x + (1 - s) by omega] at h1
      rw [if_pos q, wr_r, wr_r, nmR, st_here, grT (by decide), wr_r, wr_r, st_row _ _ _ _ (by decide), st_here, n1m hs] at h2
      have F2 : FmL U (st (st (st (st U 0 57 (nI s)) 0 56 0) 39 (0 : Int32).toNatClampNeg (nI x)) 0 56 (0 + 1)) := (((FmL.rf.w2 (by omega)).w2 (by omega)).w1).w2 (by omega)
      obtain ⟨m, hk, w, r1, r2, r3, r4, r5, r6, r7, r8, r9, r10⟩ := lu_2 hc.flip hP NF NF 0 x (1 - s) _ _ V W (hm.fr (V := st T 68 4 0) (by rw [st_row _ _ _ _ (by decide)]) (by rw [st_row _ _ _ _ (by decide)]) (F2.r 23 (by decide) (by decide))) (by rw [st_here]; rfl) (by omega) (by rw [st_here]; rfl) (by rw [st_row _ _ _ _ (by decide)]; exact st_here _ _ _ _) hx (by omega) (by show 1 - s = 1 - dir x; omega) h1 h2
      refine ⟨m, hk, ⟨w.m1, by omega, w.lt, fun a b ha hb e => ?_, by rw [r3, Nat.zero_add], fun a ha => by have := (r5 a ha).1; rw [Nat.zero_add] at this; exact this, by rw [r4, Nat.zero_add], fun a ha => by have := (r5 a ha).2; rw [Nat.zero_add] at this; exact this, ?_, r7, fun a ha => ?_⟩, w.pp, FcL.rf.w2.tr r9, F2.tr r10⟩
      · have a1 := w.ps a ha
        have b1 := w.ps b hb
        rw [e] at a1
        omega
      · rw [r8, st_no (by omega), st_row _ _ _ _ (by decide), st_no (by omega), st_here, r2]; exact congrArg nI (by omega)
      · rw [r10.r 23 (by decide) (by decide), F2.r 23 (by decide) (by decide), hm.mm]; exact w.cp a ha
    · obtain ⟨o, t, ho, ht, e1, e2, e3, e4⟩ := ac_next hc h72 hx hs q
      obtain ⟨e5, e6⟩ := e4 hd
      have hgl := gp_lt (pos := pos) ho e5
      rw [if_neg q, grT rfl, nmR, e1, sideTo_s hm.mm (by omega) ht e3, bnd_r, nmR, n1m ht] at h2
      rw [c_onw hm hx hs ho ht e1 e3, bnd_r, if_neg (nI_m4 (by omega)), c_onw hm hx hs ho ht e1 e3, bnd_r, nmR, nI_1] at h1
      obtain ⟨m, hk, g1, g2, g3, g4⟩ := lu_1 hc hP N M (i + 1) o (1 - t) T U V W hm ho (by omega) e6 (by omega) h1 h2
      exact ⟨m, hk, g1, fun i hi => (g2 i hi).trans (hP x s o hx hs ho e1), g3, g4⟩
theorem line_al {n : Nat} {c : Nat → Int32} {P : Nat → Prop} {x : Nat} {T U V W : SS} (hm : Mt n c T U) (hA : AC n c) (hP : ∀ x s o, x < n → s < 2 → o < n → c (2 * x + s) = nI o → (P o ↔ P x)) (hx : x < n) (h1 : f_Trains_lineUp (nI (2 * x)) T = some V) (h2 : f_M_lineUp (nI x) U = some W) : ∃ m hk, Ln n V W m hk ∧ (∀ i, i < m → (P (hk i / 2) ↔ P x)) ∧ FcL T V ∧ FmL U W := by
  obtain ⟨pos, dir, hc, hd⟩ := hA.dir x (s := 0) (by omega)
  have hg := gp_n (pos := pos) hx
  have := hm.n72
  rw [f_Trains_lineUp.eq_1] at h1
  rw [f_M_lineUp.eq_1] at h2
  exact lu_1 hc hP NF NF 0 x 0 T U V W hm hx (by omega) hd (by omega) h1 h2
/-! ===== BODIES and TRACE ===== -/
def FtC (T V : SS) : Prop := (∀ k, k ≠ 62 → k ≠ 78 → V.1 k = T.1 k) ∧ (∀ i, i ≠ 2 → V.1 62 i = T.1 62 i)
theorem FtC.r {T V : SS} (h_ : FtC T V) : ∀ k, k ≠ 62 → k ≠ 78 → V.1 k = T.1 k := h_.1
theorem FtC.f {T V : SS} (h_ : FtC T V) : ∀ i, i ≠ 2 → V.1 62 i = T.1 62 i := h_.2
theorem FtC.mk_ {T V : SS} (r_ : ∀ k, k ≠ 62 → k ≠ 78 → V.1 k = T.1 k) (f_ : ∀ i, i ≠ 2 → V.1 62 i = T.1 62 i) : FtC T V := ⟨r_, f_⟩
def FtM (U W : SS) : Prop := (∀ k, k ≠ 0 → k ≠ 2 → W.1 k = U.1 k) ∧ (∀ i, i ≠ 5 → i ≠ 54 → W.1 0 i = U.1 0 i)
theorem FtM.r {U W : SS} (h_ : FtM U W) : ∀ k, k ≠ 0 → k ≠ 2 → W.1 k = U.1 k := h_.1
theorem FtM.f {U W : SS} (h_ : FtM U W) : ∀ i, i ≠ 5 → i ≠ 54 → W.1 0 i = U.1 0 i := h_.2
theorem FtM.mk_ {U W : SS} (r_ : ∀ k, k ≠ 0 → k ≠ 2 → W.1 k = U.1 k) (f_ : ∀ i, i ≠ 5 → i ≠ 54 → W.1 0 i = U.1 0 i) : FtM U W := ⟨r_, f_⟩
theorem FtC.rf {T : SS} : FtC T T := ⟨fun _ _ _ => rfl, fun _ _ => rfl⟩
theorem FtM.rf {T : SS} : FtM T T := ⟨fun _ _ _ => rfl, fun _ _ _ => rfl⟩
theorem FtC.tr {T V X : SS} (h : FtC T V) (g : FtC V X) : FtC T X := ⟨fun k a b => (g.r k a b).trans (h.r k a b), fun i a => (g.f i a).trans (h.f i a)⟩
theorem FtM.tr {T V X : SS} (h : FtM T V) (g : FtM V X) : FtM T X := ⟨fun k a b => (g.r k a b).trans (h.r k a b), fun i a b => (g.f i a b).trans (h.f i a b)⟩
theorem FtC.cf {T V : SS} (h : FtC T V) : Cfa T V := fun k hk => h.r k (by unfold cdy at hk; omega) (by unfold cdy at hk; omega)
theorem FtM.mf {U W : SS} (h : FtM U W) : Mf U W := ⟨fun k k0 hk => h.r k k0 (by unfold mdy at hk; omega), fun i hi => h.f i (by unfold mdf at hi; omega) (by unfold mdf at hi; omega)⟩
def TrE (T U : SS) : Prop := (T.1 62 2 = U.1 0 5) ∧ (∀ i, T.1 78 i = U.1 2 i)
theorem TrE.n {T U : SS} (h_ : TrE T U) : T.1 62 2 = U.1 0 5 := h_.1
theorem TrE.r {T U : SS} (h_ : TrE T U) : ∀ i, T.1 78 i = U.1 2 i := h_.2
theorem TrE.mk_ {T U : SS} (n_ : T.1 62 2 = U.1 0 5) (r_ : ∀ i, T.1 78 i = U.1 2 i) : TrE T U := ⟨n_, r_⟩
def Tl (T U V W : SS) : Prop := (FtC T V) ∧ (FtM U W) ∧ (TrE V W)
theorem Tl.c {T U V W : SS} (h_ : Tl T U V W) : FtC T V := h_.1
theorem Tl.m {T U V W : SS} (h_ : Tl T U V W) : FtM U W := h_.2.1
theorem Tl.e {T U V W : SS} (h_ : Tl T U V W) : TrE V W := h_.2.2
theorem Tl.mk_ {T U V W : SS} (c_ : FtC T V) (m_ : FtM U W) (e_ : TrE V W) : Tl T U V W := ⟨c_, m_, e_⟩
theorem Tl.rf {T U : SS} (h : TrE T U) : Tl T U T U := ⟨FtC.rf, FtM.rf, h⟩
theorem Tl.tr {T U V W X Y : SS} (h : Tl T U V W) (g : Tl V W X Y) : Tl T U X Y := ⟨h.c.tr g.c, h.m.tr g.m, g.e⟩
theorem note_al {T U V W : SS} {a : Int32} (e : TrE T U) (h1 : f_Report_beginBody a T = some V) (h2 : f_M_note a U = some W) : Tl T U V W := by
  rw [f_Report_beginBody.eq_1, e.n] at h1
  rw [f_M_note.eq_1] at h2
  by_cases c : (200 : Int32) ≤ U.1 0 5
  · rw [if_pos c] at h1 h2
    injection h1 with h1; injection h2 with h2
    subst h1 h2
    exact Tl.rf e
  · rw [if_neg c] at h1 h2
    obtain ⟨-, h1⟩ := grd_i h1
    obtain ⟨-, h2⟩ := grd_i h2
    rw [wr_r, wr_r, st_row _ _ _ _ (by decide), e.n] at h1
    rw [wr_r, wr_r, st_row _ _ _ _ (by decide)] at h2
    injection h1 with h1; injection h2 with h2
    subst h1 h2
    refine ⟨⟨fun k a b => by rw [st_row _ _ _ _ a, st_row _ _ _ _ b], fun i hi => by rw [st_no (by omega), st_row _ _ _ _ (by decide)]⟩, ⟨fun k a b => by rw [st_row _ _ _ _ a, st_row _ _ _ _ b], fun i hi _ => by rw [st_no (by omega), st_row _ _ _ _ (by decide)]⟩, ⟨by rw [st_here, st_here], fun i => ?_⟩⟩
    rw [st_row _ 62 _ _ (by decide), st_row _ 0 _ _ (by decide), st_at, st_at, if_pos rfl, if_pos rfl, e.r]
theorem Stk.fr {T U V W : SS} {x : Nat} (h : Stk T U x) (e1 : V.1 91 = T.1 91) (e2 : V.1 92 = T.1 92) (m : ∀ k, k = 18 ∨ k = 28 ∨ k = 29 ∨ k = 35 ∨ k = 36 ∨ k = 37 → W.1 k = U.1 k) : Stk V W x := by
  obtain ⟨k1, k2, k3, k4⟩ := h
  refine ⟨?_, ?_, ?_, ?_⟩
  · rw [e1, m 18 (by omega)]; exact k1
  · rw [e1, m 28 (by omega)]; exact k2
  · rw [e1, m 29 (by omega)]; exact k3
  · rw [e1, e2, m 35 (by omega), m 36 (by omega), m 37 (by omega)]; exact k4
theorem Stk.tl {T U V W : SS} {x : Nat} (h : Stk T U x) (t : Tl T U V W) : Stk V W x := h.fr (t.c.r 91 (by decide) (by decide)) (t.c.r 92 (by decide) (by decide)) (fun k hk => t.m.r k (by omega) (by omega))
/-- a run that ends, one step further on both sides -/
theorem two_n {ρ σ : Type} {T U : SS} {a : Int32} {g : SS → Option ρ} {g' : SS → Option σ} {y : ρ} {z : σ} (e : TrE T U) (h1 : bndv (f_Report_beginBody a T) g = some y) (h2 : bndv (f_M_note a U) g' = some z) : ∃ V W, Tl T U V W ∧ g V = some y ∧ g' W = some z := by
  obtain ⟨V, a1, h1⟩ := bndv_i h1
  obtain ⟨W, a2, h2⟩ := bndv_i h2
  exact ⟨V, W, note_al e a1 a2, h1, h2⟩
theorem sumP_le {r : Nat → Int32} {x : Nat} : ∀ m, (∀ i, i < m → ∃ v, v ≤ 120 ∧ r (20 * x + i) = nI v) → sumP r x m ≤ 120 * m
  | 0, _ => by unfold sumP; omega
  | m + 1, h => by
    have := sumP_le m (fun i hi => h i (by omega))
    obtain ⟨v, hv, e⟩ := h m (by omega)
    unfold sumP
    rw [e, nI_clamp (by omega)]
    omega
/-- how many PIECES -/
def ldm (U : SS) (x : Nat) : Nat := if U.1 35 x = -4 then 0 else (U.1 35 x).toNatClampNeg
def Sk2 (T U : SS) (x : Nat) (k a s m : Nat) : Prop := (k ≤ 6) ∧ (a ≤ 8) ∧ (s ≤ 100) ∧ (m ≤ 20) ∧ (T.1 91 (6 * x) = nI k) ∧ (U.1 18 x = nI k) ∧ (T.1 91 (6 * x + 1) = nI a) ∧ (U.1 28 x = nI a) ∧ (T.1 91 (6 * x + 2) = nI s) ∧ (U.1 29 x = nI s) ∧ (T.1 91 (6 * x + 4) = nI m) ∧ (U.1 35 x = -4 ∧ m = 0 ∨ U.1 35 x = nI m) ∧ (T.1 91 (6 * x + 5) = nI (sumP (U.1 37) x m)) ∧ (∀ i, i < m → ∃ v, v ≤ 120 ∧ U.1 37 (20 * x + i) = nI v)
theorem Sk2.k6 {T U : SS} {x : Nat} {k a s m : Nat} (h_ : Sk2 T U x k a s m) : k ≤ 6 := h_.1
theorem Sk2.a8 {T U : SS} {x : Nat} {k a s m : Nat} (h_ : Sk2 T U x k a s m) : a ≤ 8 := h_.2.1
theorem Sk2.s1 {T U : SS} {x : Nat} {k a s m : Nat} (h_ : Sk2 T U x k a s m) : s ≤ 100 := h_.2.2.1
theorem Sk2.m2 {T U : SS} {x : Nat} {k a s m : Nat} (h_ : Sk2 T U x k a s m) : m ≤ 20 := h_.2.2.2.1
theorem Sk2.ck {T U : SS} {x : Nat} {k a s m : Nat} (h_ : Sk2 T U x k a s m) : T.1 91 (6 * x) = nI k := h_.2.2.2.2.1
theorem Sk2.mkk {T U : SS} {x : Nat} {k a s m : Nat} (h_ : Sk2 T U x k a s m) : U.1 18 x = nI k := h_.2.2.2.2.2.1
theorem Sk2.ca {T U : SS} {x : Nat} {k a s m : Nat} (h_ : Sk2 T U x k a s m) : T.1 91 (6 * x + 1) = nI a := h_.2.2.2.2.2.2.1
theorem Sk2.ma {T U : SS} {x : Nat} {k a s m : Nat} (h_ : Sk2 T U x k a s m) : U.1 28 x = nI a := h_.2.2.2.2.2.2.2.1
theorem Sk2.cs {T U : SS} {x : Nat} {k a s m : Nat} (h_ : Sk2 T U x k a s m) : T.1 91 (6 * x + 2) = nI s := h_.2.2.2.2.2.2.2.2.1
theorem Sk2.ms {T U : SS} {x : Nat} {k a s m : Nat} (h_ : Sk2 T U x k a s m) : U.1 29 x = nI s := h_.2.2.2.2.2.2.2.2.2.1
theorem Sk2.cm {T U : SS} {x : Nat} {k a s m : Nat} (h_ : Sk2 T U x k a s m) : T.1 91 (6 * x + 4) = nI m := h_.2.2.2.2.2.2.2.2.2.2.1
theorem Sk2.mm {T U : SS} {x : Nat} {k a s m : Nat} (h_ : Sk2 T U x k a s m) : U.1 35 x = -4 ∧ m = 0 ∨ U.1 35 x = nI m := h_.2.2.2.2.2.2.2.2.2.2.2.1
theorem Sk2.cu {T U : SS} {x : Nat} {k a s m : Nat} (h_ : Sk2 T U x k a s m) : T.1 91 (6 * x + 5) = nI (sumP (U.1 37) x m) := h_.2.2.2.2.2.2.2.2.2.2.2.2.1
theorem Sk2.pc {T U : SS} {x : Nat} {k a s m : Nat} (h_ : Sk2 T U x k a s m) : ∀ i, i < m → ∃ v, v ≤ 120 ∧ U.1 37 (20 * x + i) = nI v := h_.2.2.2.2.2.2.2.2.2.2.2.2.2
theorem Sk2.mk_ {T U : SS} {x : Nat} {k a s m : Nat} (k6_ : k ≤ 6) (a8_ : a ≤ 8) (s1_ : s ≤ 100) (m2_ : m ≤ 20) (ck_ : T.1 91 (6 * x) = nI k) (mkk_ : U.1 18 x = nI k) (ca_ : T.1 91 (6 * x + 1) = nI a) (ma_ : U.1 28 x = nI a) (cs_ : T.1 91 (6 * x + 2) = nI s) (ms_ : U.1 29 x = nI s) (cm_ : T.1 91 (6 * x + 4) = nI m) (mm_ : U.1 35 x = -4 ∧ m = 0 ∨ U.1 35 x = nI m) (cu_ : T.1 91 (6 * x + 5) = nI (sumP (U.1 37) x m)) (pc_ : ∀ i, i < m → ∃ v, v ≤ 120 ∧ U.1 37 (20 * x + i) = nI v) : Sk2 T U x k a s m := ⟨k6_, a8_, s1_, m2_, ck_, mkk_, ca_, ma_, cs_, ms_, cm_, mm_, cu_, pc_⟩
theorem Stk.two {T U : SS} {x : Nat} (h : Stk T U x) : ∃ k a s m, Sk2 T U x k a s m := by
  obtain ⟨⟨k, k1, k2, k3⟩, ⟨a, a1, a2, a3⟩, ⟨s, s1, s2, s3⟩, l⟩ := h
  rcases l with ⟨l1, l2, l3, l4⟩ | ⟨m, q, m1, q1, l1, l2, l3, l4, l5, l6⟩
  · exact ⟨k, a, s, 0, k1, a1, s1, by omega, k2, k3, a2, a3, s2, s3, l3, Or.inl ⟨l2, rfl⟩, l4, fun i hi => by omega⟩
  · exact ⟨k, a, s, m, k1, a1, s1, m1, k2, k3, a2, a3, s2, s3, l2, Or.inr l1, l5, fun i hi => by obtain ⟨v, v1, -, v2⟩ := l6 i hi; exact ⟨v, v1, v2⟩⟩
theorem m_loaded_L {U : SS} {x m s : Nat} (hx : x < 72) (hm : m ≤ 20) (e : U.1 35 x = -4 ∧ m = 0 ∨ U.1 35 x = nI m) (pc : ∀ i, i < m → ∃ v, v ≤ 120 ∧ U.1 37 (20 * x + i) = nI v) : ∀ (N i : Nat) (r : Int32) (W : SS), i ≤ m → f_M_loaded_L9 N (nI x) (nI (s + sumP (U.1 37) x i)) (nI i) U = some (r, W) → W = U ∧ r = nI (s + sumP (U.1 37) x m)
  | 0, i, r, W, _, h => by cases h
  | N + 1, i, r, W, hi, h => by
    rw [f_M_loaded_L9.eq_2, inb_nI hx (by omega), grT rfl, nI_clamp (by omega)] at h
    by_cases c : i = m
    · subst c
      have hle : U.1 35 x ≤ nI i := by
        rcases e with ⟨e1, e2⟩ | e1
        · rw [e1, e2]; decide
        · rw [e1]; exact nI_le (by omega) (by omega)
      rw [if_pos hle] at h
      exact ⟨(so_i h).2, (so_i h).1⟩
    · have e1 : U.1 35 x = nI m := by
        rcases e with ⟨e1, e2⟩ | e1
        · omega
        · exact e1
      obtain ⟨v, v1, v2⟩ := pc i (by omega)
      rw [e1, if_neg (fun z => by have := (n_leJ (by omega) (by omega)).mp z; omega), show (20 : Int32) * nI x = nI (20 * x) from nI_mul 20 x, nI_add, inb_nI (by omega) (by omega), grT rfl, nI_clamp (by omega), nmR, nmR, nI_1, v2, nI_add] at h
      have es : s + sumP (U.1 37) x i + v = s + sumP (U.1 37) x (i + 1) := by
        show _ = s + (sumP (U.1 37) x i + (U.1 37 (20 * x + i)).toNatClampNeg)
        rw [v2, nI_clamp (by omega)]; omega
      rw [es] at h
      exact m_loaded_L hx hm e pc N (i + 1) r W (by omega) h
theorem m_loaded {T U W : SS} {x k a s m : Nat} {r : Int32} (hx : x < 72) (h : Sk2 T U x k a s m) (h2 : f_M_loaded (nI x) U = some (r, W)) : W = U ∧ r = nI (s + sumP (U.1 37) x m) := by
  rw [f_M_loaded.eq_1, inb_nI hx (by omega), grT rfl, nmR, nI_clamp (by omega), h.ms] at h2
  exact m_loaded_L hx h.m2 h.mm h.pc NF 0 r W (by omega) h2
theorem Sk2.tl {T U V W : SS} {x k a s m : Nat} (h : Sk2 T U x k a s m) (t : Tl T U V W) : Sk2 V W x k a s m := by
  have c := t.c.r 91 (by decide) (by decide)
  have e := fun k a b => t.m.r k a b
  obtain ⟨h1, h2, h3, h4, h5, h6, h7, h8, h9, h10, h11, h12, h13, h14⟩ := h
  refine ⟨h1, h2, h3, h4, ?_, ?_, ?_, ?_, ?_, ?_, ?_, ?_, ?_, ?_⟩
  · rw [c]; exact h5
  · rw [e 18 (by decide) (by decide)]; exact h6
  · rw [c]; exact h7
  · rw [e 28 (by decide) (by decide)]; exact h8
  · rw [c]; exact h9
  · rw [e 29 (by decide) (by decide)]; exact h10
  · rw [c]; exact h11
  · rw [e 35 (by decide) (by decide)]; exact h12
  · rw [c, e 37 (by decide) (by decide)]; exact h13
  · rw [e 37 (by decide) (by decide)]; exact h14
theorem kindOf_c {T U : SS} {x k a s m : Nat} (hx : x < 72) (h : Sk2 T U x k a s m) : f_Bodies_kindOf (nI x) T = some (nI k, T) := by
  rw [f_Bodies_kindOf.eq_1, stg (f := 0) 0 rfl hx (by omega), bnd_r, Nat.add_zero, h.ck]
/-- flatWeight and note(1), loaded -/
theorem flat_al {ρ : Type} {T U V : SS} {x k a s m : Nat} {r : Int32} {z : ρ} {g : Int32 → SS → Option ρ} (hx : x < 72) (e : TrE T U) (h : Sk2 T U x k a s m) (h1 : f_Bodies_flatWeight (nI x) T = some (r, V)) (h2 : bndv (f_M_note 1 U) (fun S => bnd (f_M_loaded (nI x) S) g) = some z) : ∃ W, r = nI (s + sumP (U.1 37) x m) ∧ Tl T U V W ∧ g (nI (s + sumP (U.1 37) x m)) W = some z := by
  rw [f_Bodies_flatWeight.eq_1] at h1
  obtain ⟨V1, W1, t, h1, h2⟩ := two_n e h1 h2
  have k' := h.tl t
  rw [stg (f := 2) 2 rfl hx (by omega), bnd_r, stg (f := 5) 5 rfl hx (by omega), bnd_r, k'.cs, k'.cu, nI_add] at h1
  obtain ⟨rfl, rfl⟩ := so_i h1
  obtain ⟨r3, W2, l1, h2⟩ := bnd_i h2
  obtain ⟨rfl, rfl⟩ := m_loaded hx k' l1
  have e37 : W2.1 37 = U.1 37 := t.m.r 37 (by decide) (by decide)
  rw [e37] at h2 ⊢
  exact ⟨W2, rfl, t, h2⟩
theorem tank_al {ρ : Type} {T U V : SS} {x k a s m : Nat} {r : Int32} {z : ρ} {g : Int32 → SS → Option ρ} (hx : x < 72) (e : TrE T U) (h : Sk2 T U x k a s m) (h1 : f_Bodies_tankWeight (nI x) T = some (r, V)) (h2 : bndv (f_M_note 2 U) (fun S => bndv (f_M_note 1 S) (fun S => bnd (f_M_loaded (nI x) S) g)) = some z) : ∃ W, r = nI (s + sumP (U.1 37) x m + m) ∧ Tl T U V W ∧ g (nI (s + sumP (U.1 37) x m)) W = some z := by
  rw [f_Bodies_tankWeight.eq_1] at h1
  obtain ⟨V1, W1, t, h1, h2⟩ := two_n e h1 h2
  obtain ⟨r3, V2, l1, h1⟩ := bnd_i h1
  obtain ⟨W, q1, t2, q2⟩ := flat_al hx t.e (h.tl t) l1 h2
  have e37 : W1.1 37 = U.1 37 := t.m.r 37 (by decide) (by decide)
  have k' := (h.tl t).tl t2
  rw [stg (f := 4) 4 rfl hx (by omega), bnd_r, k'.cm, q1, nI_add] at h1
  obtain ⟨rfl, rfl⟩ := so_i h1
  rw [e37] at q2 ⊢
  exact ⟨W, rfl, t.tr t2, q2⟩
theorem weight_al {T U V W : SS} {x k a s m : Nat} {r r' : Int32} (hx : x < 72) (e : TrE T U) (h : Sk2 T U x k a s m) (h1 : f_Bodies_weight (nI x) T = some (r, V)) (h2 : f_M_weight (nI x) U = some (r', W)) : r = r' ∧ (∃ w, w ≤ 3000 ∧ r = nI w) ∧ Tl T U V W := by
  have hs := sumP_le m h.pc
  have s1 := h.s1
  have m2 := h.m2
  have k6 := h.k6
  have hj : f_M_weight_j21 (nI x) (nI m) U = some (r', W) := by
    rw [f_M_weight.eq_1, inb_nI hx (by omega), grT rfl, grT rfl, nI_clamp (by omega)] at h2
    rcases h.mm with ⟨q1, q2⟩ | q1
    · rw [if_pos q1] at h2; rw [q2]; exact h2
    · rw [q1, if_neg (nI_m4 (by omega))] at h2; exact h2
  rw [f_M_weight_j21.eq_1, inb_nI hx (by omega), grT rfl, nI_clamp (by omega), h.mkk] at hj
  rw [f_Bodies_weight.eq_1, kindOf_c hx h, bnd_r] at h1
  rcases (show k = 0 ∨ k = 1 ∨ k = 2 ∨ k = 3 ∨ k = 4 ∨ k = 5 ∨ k = 6 by omega) with rfl | rfl | rfl | rfl | rfl | rfl | rfl
  · rw [if_neg (by decide), if_neg (by decide), if_neg (by decide), if_neg (by decide), if_neg (by decide), if_neg (by decide)] at h1
    rw [if_pos (by decide)] at hj
    obtain ⟨r4, V4, l1, h1⟩ := bnd_i h1
    obtain ⟨rfl, rfl⟩ := so_i h1
    obtain ⟨W', q1, t, q2⟩ := flat_al hx e h l1 hj
    obtain ⟨rfl, rfl⟩ := so_i q2
    exact ⟨q1, ⟨_, by omega, q1⟩, t⟩
  · rw [if_pos (by decide)] at h1
    rw [if_neg (by decide), if_pos (by decide)] at hj
    obtain ⟨r4, V4, l1, h1⟩ := bnd_i h1
    obtain ⟨rfl, rfl⟩ := so_i h1
    obtain ⟨W', q1, t, q2⟩ := tank_al hx e h l1 hj
    rw [nI_add] at q2
    obtain ⟨rfl, rfl⟩ := so_i q2
    exact ⟨q1, ⟨_, by omega, q1⟩, t⟩
  · rw [if_neg (by decide), if_pos (by decide)] at h1
    rw [if_neg (by decide), if_neg (by decide), if_pos (by decide)] at hj
    obtain ⟨V1, W1, t, h1, hj⟩ := two_n e h1 hj
    obtain ⟨r4, V4, l1, h1⟩ := bnd_i h1
    obtain ⟨rfl, rfl⟩ := so_i h1
    have e37 : W1.1 37 = U.1 37 := t.m.r 37 (by decide) (by decide)
    obtain ⟨W', q1, t2, q2⟩ := tank_al hx t.e (h.tl t) l1 hj
    rw [nI_add] at q2
    obtain ⟨rfl, rfl⟩ := so_i q2
    rw [q1, e37, show (5 : Int32) = nI 5 from rfl, nI_add]
    exact ⟨rfl, ⟨_, by omega, rfl⟩, t.tr t2⟩
  · rw [if_neg (by decide), if_neg (by decide), if_pos (by decide)] at h1
    rw [if_neg (by decide), if_neg (by decide), if_neg (by decide), if_pos (by decide)] at hj
    obtain ⟨r4, V4, l1, h1⟩ := bnd_i h1
    obtain ⟨rfl, rfl⟩ := so_i h1
    obtain ⟨W', q1, t, q2⟩ := flat_al hx e h l1 hj
    obtain ⟨rfl, rfl⟩ := so_i q2
    exact ⟨q1, ⟨_, by omega, q1⟩, t⟩
  · rw [if_neg (by decide), if_neg (by decide), if_neg (by decide), if_pos (by decide)] at h1
    rw [if_neg (by decide), if_neg (by decide), if_neg (by decide), if_neg (by decide), if_pos (by decide)] at hj
    obtain ⟨V1, W1, t, h1, hj⟩ := two_n e h1 hj
    have k' := h.tl t
    rw [stg (f := 2) 2 rfl hx (by omega), bnd_r, k'.cs] at h1
    rw [grT rfl, k'.ms] at hj
    obtain ⟨rfl, rfl⟩ := so_i h1
    obtain ⟨rfl, rfl⟩ := so_i hj
    exact ⟨rfl, ⟨s, by omega, rfl⟩, t⟩
  · rw [if_neg (by decide), if_neg (by decide), if_neg (by decide), if_neg (by decide), if_pos (by decide)] at h1
    rw [if_neg (by decide), if_neg (by decide), if_neg (by decide), if_neg (by decide), if_neg (by decide)] at hj
    obtain ⟨V1, W1, t, h1, hj⟩ := two_n e h1 hj
    have k' := h.tl t
    rw [stg (f := 2) 2 rfl hx (by omega), bnd_r, k'.cs] at h1
    rw [grT rfl, k'.ms] at hj
    obtain ⟨rfl, rfl⟩ := so_i h1
    obtain ⟨rfl, rfl⟩ := so_i hj
    exact ⟨rfl, ⟨80 + s, by omega, nI_add 80 s⟩, t⟩
  · rw [if_neg (by decide), if_neg (by decide), if_neg (by decide), if_neg (by decide), if_neg (by decide), if_pos (by decide)] at h1
    rw [if_neg (by decide), if_neg (by decide), if_neg (by decide), if_neg (by decide), if_neg (by decide)] at hj
    obtain ⟨V1, W1, t, h1, hj⟩ := two_n e h1 hj
    have k' := h.tl t
    rw [stg (f := 2) 2 rfl hx (by omega), bnd_r, k'.cs] at h1
    rw [grT rfl, k'.ms] at hj
    obtain ⟨rfl, rfl⟩ := so_i h1
    obtain ⟨rfl, rfl⟩ := so_i hj
    exact ⟨rfl, ⟨80 + s, by omega, nI_add 80 s⟩, t⟩
theorem brake_al {T U V W : SS} {x k a s m : Nat} {r r' : Int32} (hx : x < 72) (e : TrE T U) (h : Sk2 T U x k a s m) (h1 : f_Bodies_brake (nI x) T = some (r, V)) (h2 : f_M_brake (nI x) U = some (r', W)) : r = r' ∧ (∃ w, w ≤ 100 ∧ r = nI w) ∧ Tl T U V W := by
  have k6 := h.k6
  have a8 := h.a8
  rw [f_M_brake.eq_1, inb_nI hx (by omega), grT rfl, nI_clamp (by omega), h.mkk] at h2
  rw [f_Bodies_brake.eq_1, stg (f := 1) 1 rfl hx (by omega), bnd_r, kindOf_c hx h, bnd_r, h.ca] at h1
  rcases (show k = 0 ∨ k = 1 ∨ k = 2 ∨ k = 3 ∨ k = 4 ∨ k = 5 ∨ k = 6 by omega) with rfl | rfl | rfl | rfl | rfl | rfl | rfl
  · rw [if_neg (by decide), if_neg (by decide), if_neg (by decide), if_neg (by decide), if_neg (by decide)] at h1
    rw [if_pos (by decide)] at h2
    obtain ⟨r4, V4, l1, h1⟩ := bnd_i h1
    obtain ⟨rfl, rfl⟩ := so_i h1
    rw [f_Bodies_flatBrake.eq_1] at l1
    obtain ⟨V1, W1, t, l1, h2⟩ := two_n e l1 h2
    rw [grT rfl, (h.tl t).ma] at h2
    obtain ⟨rfl, rfl⟩ := so_i l1
    obtain ⟨rfl, rfl⟩ := so_i h2
    exact ⟨rfl, ⟨4 * a, by omega, nI_mul 4 a⟩, t⟩
  · rw [if_neg (by decide), if_neg (by decide), if_neg (by decide), if_neg (by decide), if_neg (by decide)] at h1
    rw [if_neg (by decide), if_pos (by decide)] at h2
    obtain ⟨r4, V4, l1, h1⟩ := bnd_i h1
    obtain ⟨rfl, rfl⟩ := so_i h1
    rw [f_Bodies_flatBrake.eq_1] at l1
    obtain ⟨V1, W1, t, l1, h2⟩ := two_n e l1 h2
    rw [grT rfl, (h.tl t).ma] at h2
    obtain ⟨rfl, rfl⟩ := so_i l1
    obtain ⟨rfl, rfl⟩ := so_i h2
    exact ⟨rfl, ⟨4 * a, by omega, nI_mul 4 a⟩, t⟩
  · rw [if_pos (by decide)] at h1
    rw [if_neg (by decide), if_neg (by decide), if_pos (by decide)] at h2
    obtain ⟨V0, W0, t0, h1, h2⟩ := two_n e h1 h2
    obtain ⟨r4, V4, l1, h1⟩ := bnd_i h1
    obtain ⟨rfl, rfl⟩ := so_i h1
    rw [f_Bodies_flatBrake.eq_1] at l1
    obtain ⟨V1, W1, t, l1, h2⟩ := two_n t0.e l1 h2
    rw [grT rfl, ((h.tl t0).tl t).ma] at h2
    obtain ⟨rfl, rfl⟩ := so_i l1
    obtain ⟨rfl, rfl⟩ := so_i h2
    exact ⟨rfl, ⟨4 * a + 2, by omega, by rw [show (4 : Int32) * nI a = nI (4 * a) from nI_mul 4 a]; exact nI_add (4 * a) 2⟩, t0.tr t⟩
  · rw [if_neg (by decide), if_pos (by decide)] at h1
    rw [if_neg (by decide), if_neg (by decide), if_neg (by decide), if_pos (by decide)] at h2
    obtain ⟨V1, W1, t, h1, h2⟩ := two_n e h1 h2
    rw [grT rfl, (h.tl t).ma] at h2
    obtain ⟨rfl, rfl⟩ := so_i h1
    obtain ⟨rfl, rfl⟩ := so_i h2
    exact ⟨rfl, ⟨3 * a, by omega, nI_mul 3 a⟩, t⟩
  · rw [if_neg (by decide), if_neg (by decide), if_pos (by decide)] at h1
    rw [if_neg (by decide), if_neg (by decide), if_neg (by decide), if_neg (by decide), if_pos (by decide)] at h2
    obtain ⟨V1, W1, t, h1, h2⟩ := two_n e h1 h2
    rw [grT rfl, (h.tl t).ma] at h2
    obtain ⟨rfl, rfl⟩ := so_i h1
    obtain ⟨rfl, rfl⟩ := so_i h2
    exact ⟨rfl, ⟨a, by omega, rfl⟩, t⟩
  · rw [if_neg (by decide), if_neg (by decide), if_neg (by decide), if_pos (by decide)] at h1
    rw [if_neg (by decide), if_neg (by decide), if_neg (by decide), if_neg (by decide), if_neg (by decide), if_pos (by decide)] at h2
    obtain ⟨r4, V4, l1, h1⟩ := bnd_i h1
    obtain ⟨rfl, rfl⟩ := so_i h1
    rw [f_Bodies_engineBrake.eq_1] at l1
    obtain ⟨V1, W1, t, l1, h2⟩ := two_n e l1 h2
    obtain ⟨rfl, rfl⟩ := so_i l1
    obtain ⟨rfl, rfl⟩ := so_i h2
    exact ⟨rfl, ⟨30, by omega, rfl⟩, t⟩
  · rw [if_neg (by decide), if_neg (by decide), if_neg (by decide), if_neg (by decide), if_pos (by decide)] at h1
    rw [if_neg (by decide), if_neg (by decide), if_neg (by decide), if_neg (by decide), if_neg (by decide), if_neg (by decide)] at h2
    obtain ⟨V0, W0, t0, h1, h2⟩ := two_n e h1 h2
    obtain ⟨r4, V4, l1, h1⟩ := bnd_i h1
    obtain ⟨rfl, rfl⟩ := so_i h1
    rw [f_Bodies_engineBrake.eq_1] at l1
    obtain ⟨V1, W1, t, l1, h2⟩ := two_n t0.e l1 h2
    obtain ⟨rfl, rfl⟩ := so_i l1
    obtain ⟨rfl, rfl⟩ := so_i h2
    exact ⟨by decide, ⟨35, by omega, by decide⟩, t0.tr t⟩
theorem heavy_al {T U V W : SS} {x k a s m : Nat} {r r' : Int32} (hx : x < 72) (e : TrE T U) (h : Sk2 T U x k a s m) (h1 : f_Bodies_heavy (nI x) T = some (r, V)) (h2 : f_M_heavy (nI x) U = some (r', W)) : r = r' ∧ (∃ w, w ≤ 7000 ∧ r = nI w) ∧ Tl T U V W := by
  have a8 := h.a8
  rw [f_M_heavy.eq_1, inb_nI hx (by omega), grT rfl, nI_clamp (by omega), h.mkk] at h2
  rw [f_Bodies_heavy.eq_1, kindOf_c hx h, bnd_r] at h1
  have core : ∀ (T' U' : SS) (y : Int32), Tl T U T' U' → (y = 0 ↔ ¬ nI k = 3) → f_Bodies_heavy_j28 (nI x) y T' = some (r, V) → f_M_heavy_j16 (nI x) U' = some (r', W) → r = r' ∧ (∃ w, w ≤ 7000 ∧ r = nI w) ∧ Tl T U V W := fun T' U' y t hy h1 h2 => by
    rw [f_Bodies_heavy_j28.eq_1] at h1
    rw [f_M_heavy_j16.eq_1] at h2
    obtain ⟨V1, W1, t1, h1, h2⟩ := two_n t.e h1 h2
    obtain ⟨r5, V2, l1, h1⟩ := bnd_i h1
    obtain ⟨r3, W2, l2, h2⟩ := bnd_i h2
    have k1 := (h.tl t).tl t1
    obtain ⟨rfl, ⟨w, hw, rfl⟩, t2⟩ := weight_al hx t1.e k1 l1 l2
    have k2 := k1.tl t2
    rw [stg (f := 1) 1 rfl hx (by omega), bnd_r, nmR, k2.ca, nM2, nI_add] at h1
    rw [inb_nI hx (by omega), grT rfl, grT rfl, nI_clamp (by omega), k2.mkk, k2.ma, nM2, nI_add] at h2
    by_cases c : nI k = 3
    · rw [if_neg (fun z => (hy.mp z) c), show (10 : Int32) = nI 10 from rfl, nI_add] at h1
      rw [if_pos c, show (10 : Int32) = nI 10 from rfl, nI_add] at h2
      obtain ⟨rfl, rfl⟩ := so_i h1
      obtain ⟨rfl, rfl⟩ := so_i h2
      exact ⟨rfl, ⟨_, by omega, rfl⟩, (t.tr t1).tr t2⟩
    · rw [if_pos (hy.mpr c)] at h1
      rw [if_neg c, show (0 : Int32) = nI 0 from rfl, nI_add] at h2
      obtain ⟨rfl, rfl⟩ := so_i h1
      obtain ⟨rfl, rfl⟩ := so_i h2
      exact ⟨rfl, ⟨_, by omega, rfl⟩, (t.tr t1).tr t2⟩
  by_cases c : nI k = 3
  · rw [if_pos c, f_Bodies_heavy_j14.eq_1, if_neg (by decide)] at h1
    rw [if_pos c] at h2
    obtain ⟨V1, W1, t, h1, h2⟩ := two_n e h1 h2
    exact core V1 W1 1 t ⟨fun z => absurd z (by decide), fun z => absurd c z⟩ h1 h2
  · rw [if_neg c, f_Bodies_heavy_j14.eq_1, if_pos rfl] at h1
    rw [if_neg c] at h2
    exact core T U 0 (Tl.rf e) ⟨fun _ => c, fun _ => rfl⟩ h1 h2
theorem perAxle_al {T U V W : SS} {x k a s m : Nat} {r r' : Int32} (hx : x < 72) (e : TrE T U) (h : Sk2 T U x k a s m) (h1 : f_Bodies_perAxle (nI x) T = some (r, V)) (h2 : f_M_perAxle (nI x) U = some (r', W)) : ((r = -4 ∧ ¬ W.1 0 54 = 0) ∨ (¬ r = -4 ∧ r = r' ∧ W.1 0 54 = 0)) ∧ Tl T U V W := by
  have a8 := h.a8
  rw [f_Bodies_perAxle.eq_1] at h1
  rw [f_M_perAxle.eq_1] at h2
  obtain ⟨V1, W1, t1, h1, h2⟩ := two_n e h1 h2
  obtain ⟨r5, V2, l1, h1⟩ := bnd_i h1
  obtain ⟨r3, W2, l2, h2⟩ := bnd_i h2
  obtain ⟨rfl, ⟨w, hw, rfl⟩, t2⟩ := weight_al hx t1.e (h.tl t1) l1 l2
  have k2 := (h.tl t1).tl t2
  have t := t1.tr t2
  have tf : ∀ y : Int32, Tl T U V2 (st W2 0 54 y) := fun y => ⟨t.c, t.m.tr ⟨fun k a _ => by rw [st_row _ _ _ _ a], fun i _ b => by rw [st_no (by omega)]⟩, ⟨by rw [t.e.n, st_no (by omega)], fun i => by rw [t.e.r, st_row _ _ _ _ (by decide)]⟩⟩
  rw [stg (f := 1) 1 rfl hx (by omega), bnd_r, k2.ca] at h1
  rw [inb_nI hx (by omega), grT rfl, nI_clamp (by omega), k2.ma] at h2
  by_cases c : a = 0
  · subst c
    rw [if_neg (by decide)] at h1
    rw [if_pos (by decide), f_M_perAxle_j27.eq_1, grT (by decide), wr_r, st_here, if_neg (by decide)] at h2
    obtain ⟨rfl, rfl⟩ := so_i h1
    obtain ⟨rfl, rfl⟩ := so_i h2
    exact ⟨Or.inl ⟨rfl, by rw [st_here]; decide⟩, tf 1⟩
  · have ha : ¬ nI a = 0 := fun z => c (nI_inj (b := 0) (by omega) (by omega) z)
    rw [if_pos (show (0 : Int32) < nI a from (nI_ltJ (a := 0) (by omega) (by omega)).mpr (by omega))] at h1
    obtain ⟨-, h1⟩ := grd_i h1
    rw [if_neg ha, f_M_perAxle_j27.eq_1, grT (by decide), wr_r, st_here, if_pos rfl, grT (inb_nI hx (by omega)), nI_clamp (by omega), st_row _ _ _ _ (by decide), k2.ma] at h2
    obtain ⟨-, h2⟩ := grd_i h2
    rw [nI_div (by omega) (by omega) (by omega)] at h1 h2
    obtain ⟨rfl, rfl⟩ := so_i h1
    obtain ⟨rfl, rfl⟩ := so_i h2
    have : w / a ≤ w := Nat.div_le_self _ _
    exact ⟨Or.inr ⟨nI_m4 (by omega), rfl, by rw [st_here]⟩, tf 0⟩
/-! ===== pulls, suits ===== -/
/-- all THINGS, for BODIES that look at others -/
def Bd (n : Nat) (T U : SS) : Prop := (TrE T U) ∧ (∀ x, x < n → Stk T U x) ∧ (Mt n (U.1 23) T U) ∧ (AC n (U.1 23)) ∧ (∀ x, x < n → ∃ d, d ≤ 9 ∧ U.1 27 x = nI d ∧ T.1 79 (154 + 11 * x + 7) = nI d) ∧ (∀ i, T.1 105 i = U.1 16 i)
theorem Bd.e {n : Nat} {T U : SS} (h_ : Bd n T U) : TrE T U := h_.1
theorem Bd.sk {n : Nat} {T U : SS} (h_ : Bd n T U) : ∀ x, x < n → Stk T U x := h_.2.1
theorem Bd.mt {n : Nat} {T U : SS} (h_ : Bd n T U) : Mt n (U.1 23) T U := h_.2.2.1
theorem Bd.ac {n : Nat} {T U : SS} (h_ : Bd n T U) : AC n (U.1 23) := h_.2.2.2.1
theorem Bd.dg {n : Nat} {T U : SS} (h_ : Bd n T U) : ∀ x, x < n → ∃ d, d ≤ 9 ∧ U.1 27 x = nI d ∧ T.1 79 (154 + 11 * x + 7) = nI d := h_.2.2.2.2.1
theorem Bd.e16 {n : Nat} {T U : SS} (h_ : Bd n T U) : ∀ i, T.1 105 i = U.1 16 i := h_.2.2.2.2.2
theorem Bd.mk_ {n : Nat} {T U : SS} (e_ : TrE T U) (sk_ : ∀ x, x < n → Stk T U x) (mt_ : Mt n (U.1 23) T U) (ac_ : AC n (U.1 23)) (dg_ : ∀ x, x < n → ∃ d, d ≤ 9 ∧ U.1 27 x = nI d ∧ T.1 79 (154 + 11 * x + 7) = nI d) (e16_ : ∀ i, T.1 105 i = U.1 16 i) : Bd n T U := ⟨e_, sk_, mt_, ac_, dg_, e16_⟩
theorem Bd.tl {n : Nat} {T U V W : SS} (h : Bd n T U) (t : Tl T U V W) : Bd n V W := by
  have e23 : W.1 23 = U.1 23 := t.m.r 23 (by decide) (by decide)
  have e79 : V.1 79 = T.1 79 := t.c.r 79 (by decide) (by decide)
  refine ⟨t.e, fun x hx => (h.sk x hx).tl t, ?_, by rw [e23]; exact h.ac, ?_, fun i => ?_⟩
  · rw [e23]; exact h.mt.fr (by rw [t.c.r 63 (by decide) (by decide)]) e79 e23
  · rw [e79, t.m.r 27 (by decide) (by decide)]; exact h.dg
  · rw [t.c.r 105 (by decide) (by decide), t.m.r 16 (by decide) (by decide)]; exact h.e16 i
theorem Bo.bd {n np nt : Nat} {T U : SS} (b : Bo n np nt T U) : Bd n T U := by
  have h72 := b.s.n72
  refine ⟨⟨b.tr, b.tc⟩, b.s.sk, b.w.mates h72 b.s.cn, b.ac, fun x hx => ?_, b.s.e16⟩
  obtain ⟨d, d1, d2⟩ := b.dg x hx
  have := (b.w.th x hx).dgr
  rw [sv_9 U (by omega), d2] at this
  exact ⟨d, d1, d2, this⟩
/-- a mate is one of those made -/
theorem ac_mate {n : Nat} {c : Nat → Int32} (h : AC n c) {x s : Nat} (hx : x < n) (hs : s < 2) : c (2 * x + s) = -4 ∨ ∃ o, o < n ∧ c (2 * x + s) = nI o := by
  obtain ⟨pos, dir, h⟩ := h
  rcases h.2 x s hx hs with e | ⟨o, t, ho, -, e1, -⟩
  · exact Or.inl e
  · exact Or.inr ⟨o, ho, e1⟩
/-- whether side s leads to an ENGINE -/
def fed (U : SS) (x s : Nat) : Bool := if U.1 23 (2 * x + s) = -4 then false else decide (U.1 18 (U.1 23 (2 * x + s)).toNatClampNeg = 5)
theorem isFed_c {n : Nat} {T U : SS} {x s : Nat} (h : Bd n T U) (hx : x < n) (hs : s < 2) : f_Bodies_isFed (nI x) (nI s) T = some (if fed U x s = true then 1 else 0, T) := by
  have h72 := h.mt.n72
  rw [f_Bodies_isFed.eq_1, show (2 : Int32) + nI s = nI (2 + s) from nI_add 2 s, sg (f := 2 + s) _ rfl h.mt.cn h72 hx (by omega), bnd_r, h.mt.mc x s hx hs]
  unfold fed
  rcases ac_mate h.ac hx hs with q | ⟨o, ho, q⟩
  · rw [q, if_pos rfl, f_Bodies_kindOf.eq_1, f_Stock_get.eq_1, if_pos (by decide), bnd_r, bnd_r, if_neg (by decide), if_neg (by decide)]
  · obtain ⟨k, a, s', m, k2⟩ := (h.sk o ho).two
    rw [q, if_neg (nI_m4 (by omega)), kindOf_c (by omega) k2, bnd_r, nI_clamp (by omega), k2.mkk]
    by_cases c : nI k = 5
    · rw [if_pos c, decide_eq_true c, if_pos rfl]
    · rw [if_neg c, decide_eq_false c, if_neg (by decide)]
theorem hasE_m {n : Nat} {T U W : SS} {x : Nat} {r : Int32} (h : Bd n T U) (hx : x < n) (h2 : f_M_hasEngine (nI x) U = some (r, W)) : W = U ∧ (r = 0 ↔ fed U x 0 = false ∧ fed U x 1 = false) := by
  have h72 := h.mt.n72
  rw [f_M_hasEngine.eq_1] at h2
  have one : ∀ (N s : Nat), s < 2 → ∀ (y : Int32), f_M_hasEngine_L4 (N + 1) (nI x) y (nI s) U = some (r, W) → ∃ y', f_M_hasEngine_L4 N (nI x) y' (nI (s + 1)) U = some (r, W) ∧ (y' = 0 ↔ y = 0 ∧ fed U x s = false) := fun N s hs y h2 => by
    rw [f_M_hasEngine_L4.eq_2, if_neg (show ¬ (2 : Int32) ≤ nI s from nI_ge (b := 2) hs (by omega)), n2, inb_nI (by omega) (by omega), grT rfl, nmR, nI_clamp (by omega)] at h2
    have j : ∀ y', f_M_hasEngine_j48 (fun v0 v1 v2 S => f_M_hasEngine_L4 N v0 v1 v2 S) (nI x) (nI s) y' U = some (r, W) → f_M_hasEngine_L4 N (nI x) y' (nI (s + 1)) U = some (r, W) := fun y' q => by
      rw [f_M_hasEngine_j48.eq_1, nmR, nI_1] at q; exact q
    unfold fed
    by_cases c : y = 0
    · rw [if_pos c] at h2
      by_cases q : U.1 23 (2 * x + s) = -4
      · rw [if_pos q] at h2
        exact ⟨0, j 0 h2, by rw [if_pos q]; exact ⟨fun _ => ⟨c, rfl⟩, fun _ => rfl⟩⟩
      · rw [if_neg q] at h2
        replace h2 := grd_i h2
        obtain ⟨-, h2⟩ := h2
        rw [if_neg q]
        by_cases d : U.1 18 (U.1 23 (2 * x + s)).toNatClampNeg = 5
        · rw [if_pos d] at h2
          exact ⟨1, j 1 h2, by rw [decide_eq_true d]; exact ⟨fun z => absurd z (by decide), fun z => absurd z.2 (by decide)⟩⟩
        · rw [if_neg d] at h2
          exact ⟨0, j 0 h2, by rw [decide_eq_false d]; exact ⟨fun _ => ⟨c, rfl⟩, fun _ => rfl⟩⟩
    · rw [if_neg c] at h2
      exact ⟨1, j 1 h2, ⟨fun z => absurd z (by decide), fun z => absurd z.1 c⟩⟩
  have two : ∀ (N : Nat) (y : Int32), f_M_hasEngine_L4 N (nI x) y (nI 2) U = some (r, W) → W = U ∧ r = y := fun N y h2 => by
    match N, h2 with
    | N + 1, h2 =>
      rw [f_M_hasEngine_L4.eq_2, if_pos (by decide)] at h2
      replace h2 := grd_i h2
      obtain ⟨-, h2⟩ := h2
      exact ⟨(so_i h2).2, (so_i h2).1⟩
  have h2 : f_M_hasEngine_L4 (99998 + 1 + 1) (nI x) 0 (nI 0) U = some (r, W) := h2
  obtain ⟨y1, g1, q1⟩ := one _ 0 (by omega) 0 h2
  obtain ⟨y2, g2, q2⟩ := one _ 1 (by omega) y1 g1
  obtain ⟨rfl, rfl⟩ := two _ y2 g2
  refine ⟨rfl, ?_⟩
  rw [q2, q1]
  exact ⟨fun z => ⟨z.1.2, z.2⟩, fun z => ⟨⟨rfl, z.1⟩, z.2⟩⟩
theorem fed_tl {T U V W : SS} (t : Tl T U V W) (x s : Nat) : fed W x s = fed U x s := by
  unfold fed; rw [t.m.r 23 (by decide) (by decide), t.m.r 18 (by decide) (by decide)]
theorem pulls_al {n : Nat} {T U V W : SS} {x : Nat} {r r' : Int32} (h : Bd n T U) (hx : x < n) (h1 : f_Bodies_pulls (nI x) T = some (r, V)) (h2 : f_M_pulls (nI x) U = some (r', W)) : r = r' ∧ (∃ w, w ≤ 100 ∧ r = nI w) ∧ Tl T U V W := by
  have h72 := h.mt.n72
  obtain ⟨k, a, s, m, k2⟩ := (h.sk x hx).two
  have s1 := k2.s1
  rw [f_Bodies_pulls.eq_1, kindOf_c (by omega) k2, bnd_r] at h1
  rw [f_M_pulls.eq_1, inb_nI (by omega) (by omega), grT rfl, nI_clamp (by omega), k2.mkk] at h2
  have eng : ∀ T' U' : SS, Tl T U T' U' → f_Bodies_enginePulls (nI x) T' = some (r, V) → f_M_pulls_j27 (nI x) U' = some (r', W) → r = r' ∧ (∃ w, w ≤ 100 ∧ r = nI w) ∧ Tl T U V W := fun T' U' t h1 h2 => by
    rw [f_Bodies_enginePulls.eq_1] at h1
    rw [f_M_pulls_j27.eq_1] at h2
    have hh := two_n t.e h1 h2
    clear h1 h2
    obtain ⟨V1, W1, t1, h1, h2⟩ := hh
    have k3 := (k2.tl t).tl t1
    rw [stg (f := 2) 2 rfl (by omega) (by omega), bnd_r, k3.cs] at h1
    rw [inb_nI (by omega) (by omega), grT rfl, nI_clamp (by omega), k3.ms] at h2
    obtain ⟨rfl, rfl⟩ := so_i h1
    obtain ⟨rfl, rfl⟩ := so_i h2
    exact ⟨rfl, ⟨s, s1, rfl⟩, t.tr t1⟩
  by_cases c : nI k = 6
  · rw [if_pos c] at h1 h2
    have hh := two_n h.e h1 h2
    clear h1 h2
    obtain ⟨V1, W1, t1, h1, h2⟩ := hh
    have b1 := h.tl t1
    replace h2 := bnd_i h2
    obtain ⟨r4, W2, l2, h2⟩ := h2
    obtain ⟨rfl, q⟩ := hasE_m b1 hx l2
    have f0 : f_Bodies_isFed (nI x) 0 V1 = some (if fed W2 x 0 = true then 1 else 0, V1) := isFed_c (s := 0) b1 hx (by omega)
    have f1 : f_Bodies_isFed (nI x) 1 V1 = some (if fed W2 x 1 = true then 1 else 0, V1) := isFed_c (s := 1) b1 hx (by omega)
    rw [f0, bnd_r] at h1
    by_cases d0 : fed W2 x 0 = true
    · rw [if_pos d0, if_neg (by decide), f_Bodies_pulls_j43.eq_1] at h1
      replace h1 := bnd_i h1
      obtain ⟨r7, V7, l1, h1⟩ := h1
      obtain ⟨rfl, rfl⟩ := so_i h1
      rw [if_neg (fun z => by have := (q.mp z).1; rw [d0] at this; cases this)] at h2
      exact eng _ _ t1 l1 h2
    · rw [if_neg d0, if_pos rfl, f1, bnd_r] at h1
      by_cases d1 : fed W2 x 1 = true
      · rw [if_pos d1, if_neg (by decide), f_Bodies_pulls_j43.eq_1] at h1
        replace h1 := bnd_i h1
        obtain ⟨r7, V7, l1, h1⟩ := h1
        obtain ⟨rfl, rfl⟩ := so_i h1
        rw [if_neg (fun z => by have := (q.mp z).2; rw [d1] at this; cases this)] at h2
        exact eng _ _ t1 l1 h2
      · rw [if_neg d1, if_pos rfl] at h1
        rw [if_pos (q.mpr ⟨Bool.eq_false_iff.mpr d0, Bool.eq_false_iff.mpr d1⟩)] at h2
        obtain ⟨rfl, rfl⟩ := so_i h1
        obtain ⟨rfl, rfl⟩ := so_i h2
        exact ⟨rfl, ⟨0, by omega, rfl⟩, t1⟩
  · rw [if_neg c] at h1 h2
    replace h1 := bnd_i h1
    obtain ⟨r7, V7, l1, h1⟩ := h1
    obtain ⟨rfl, rfl⟩ := so_i h1
    exact eng _ _ (Tl.rf h.e) l1 h2
theorem okw_all : ∀ k : Fin 7, (okw 96 k.1 = true ↔ 5 ≤ k.1) ∧ (okw 6 k.1 = true ↔ k.1 = 1 ∨ k.1 = 2) ∧ (okw 31 k.1 = true ↔ k.1 ≤ 4) := by decide
theorem okw_c {k : Nat} (h : k < 7) : (okw 96 k = true ↔ 5 ≤ k) ∧ (okw 6 k = true ↔ k = 1 ∨ k = 2) ∧ (okw 31 k = true ↔ k ≤ 4) := okw_all ⟨k, h⟩
theorem wsuit_al {n : Nat} {T U V W : SS} {x y : Nat} {r r' : Int32} (h : Bd n T U) (hx : x < n) (hy : y < n) (h1 : f_Bodies_wagonSuits (nI x) (nI y) T = some (r, V)) (h2 : f_M_suits_j56 (nI x) (nI y) U = some (r', W)) : r = r' ∧ (r = 0 ∨ r = 1) ∧ Tl T U V W := by
  have h72 := h.mt.n72
  rw [f_Bodies_wagonSuits.eq_1] at h1
  rw [f_M_suits_j56.eq_1] at h2
  have hh := two_n h.e h1 h2
  clear h1 h2
  obtain ⟨V1, W1, t1, h1, h2⟩ := hh
  have b := h.tl t1
  obtain ⟨k, a, s, m, k2⟩ := (b.sk y hy).two
  have k6 := k2.k6
  obtain ⟨o1, o2, o3⟩ := okw_c (k := k) (by omega)
  rw [isAs_c 31 (by omega) k2.ck k2.k6, bnd_r] at h1
  rw [inb_nI (by omega) (by omega), grT rfl, grT rfl, nI_clamp (by omega), k2.mkk] at h2
  by_cases c : 5 ≤ k
  · rw [if_pos (show (5 : Int32) ≤ nI k from (n_leJ (a := 5) (by omega) (by omega)).mpr c)] at h2
    rw [if_neg (show ¬ okw 31 k = true from fun z => by have := o3.mp z; omega), if_pos rfl] at h1
    obtain ⟨rfl, rfl⟩ := so_i h1
    obtain ⟨rfl, rfl⟩ := so_i h2
    exact ⟨rfl, Or.inr rfl, t1⟩
  · rw [if_neg (show ¬ (5 : Int32) ≤ nI k from fun z => c ((n_leJ (a := 5) (by omega) (by omega)).mp z))] at h2
    rw [if_pos (o3.mpr (by omega)), if_neg (by decide)] at h1
    obtain ⟨dx, x1, x2, x3⟩ := b.dg x hx
    obtain ⟨dy, y1, y2, y3⟩ := b.dg y hy
    rw [sg (f := 7) 7 rfl b.mt.cn h72 hx (by omega), bnd_r, sg (f := 7) 7 rfl b.mt.cn h72 hy (by omega), bnd_r, x3, y3, f_Bodies_isBarred.eq_1, in_v, bnd_r] at h1
    have in9 : ∀ d, d ≤ 9 → inV (nI d) 0 9 = 0 := fun d hd => inV0.mpr ⟨nI_nn (by omega), (n_leJ (b := 9) (by omega) (by omega)).mpr hd⟩
    rw [if_pos (in9 dx x1), in_v, bnd_r, if_pos (in9 dy y1), show (10 : Int32) * nI dx = nI (10 * dx) from nI_mul 10 dx, nI_add, inb_nI (by omega) (by omega), grT rfl, nI_clamp (by omega), b.e16] at h1
    rw [inb_nI (by omega) (by omega), grT rfl, nI_clamp (by omega), x2, y2, show (10 : Int32) * nI dx = nI (10 * dx) from nI_mul 10 dx, nI_add, inb_nI (by omega) (by omega), grT rfl, nI_clamp (by omega)] at h2
    by_cases d : W1.1 16 (10 * dx + dy) = 0
    · rw [if_pos d, bnd_r, if_pos rfl] at h1
      rw [if_pos d] at h2
      obtain ⟨rfl, rfl⟩ := so_i h1
      obtain ⟨rfl, rfl⟩ := so_i h2
      exact ⟨rfl, Or.inr rfl, t1⟩
    · rw [if_neg d, bnd_r, if_neg (by decide)] at h1
      rw [if_neg d] at h2
      obtain ⟨rfl, rfl⟩ := so_i h1
      obtain ⟨rfl, rfl⟩ := so_i h2
      exact ⟨rfl, Or.inl rfl, t1⟩
theorem suits_al {n : Nat} {T U V W : SS} {x y : Nat} {r r' : Int32} (h : Bd n T U) (hx : x < n) (hy : y < n) (h1 : f_Bodies_suits (nI x) (nI y) T = some (r, V)) (h2 : f_M_suits (nI x) (nI y) U = some (r', W)) : r = r' ∧ (r = 0 ∨ r = 1) ∧ Tl T U V W := by
  have h72 := h.mt.n72
  obtain ⟨k, a, s, m, k2⟩ := (h.sk x hx).two
  have k6 := k2.k6
  obtain ⟨o1, o2, o3⟩ := okw_c (k := k) (by omega)
  rw [f_Bodies_suits.eq_1, isAs_c 96 (by omega) k2.ck k2.k6, bnd_r] at h1
  rw [f_M_suits.eq_1, inb_nI (by omega) (by omega), grT rfl, grT rfl, nI_clamp (by omega), k2.mkk] at h2
  by_cases c : 5 ≤ k
  · rw [if_pos (o1.mpr c), if_neg (by decide)] at h1
    rw [if_neg (show ¬ nI k < (5 : Int32) from fun z => by have := (nI_ltJ (b := 5) (by omega) (by omega)).mp z; omega)] at h2
    have hh := two_n h.e h1 h2
    clear h1 h2
    obtain ⟨V1, W1, t1, h1, h2⟩ := hh
    obtain ⟨rfl, rfl⟩ := so_i h1
    obtain ⟨rfl, rfl⟩ := so_i h2
    exact ⟨rfl, Or.inr rfl, t1⟩
  · rw [if_neg (fun z => c (o1.mp z)), if_pos rfl, kindOf_c (by omega) k2, bnd_r] at h1
    rw [if_pos (show nI k < (5 : Int32) from (nI_ltJ (b := 5) (by omega) (by omega)).mpr (by omega))] at h2
    by_cases d : nI k = 4
    · rw [if_pos d] at h1 h2
      have hh := two_n h.e h1 h2
      clear h1 h2
      obtain ⟨V1, W1, t1, h1, h2⟩ := hh
      have b := h.tl t1
      obtain ⟨k', a', s', m', k2'⟩ := (b.sk y hy).two
      have k6' := k2'.k6
      obtain ⟨p1, p2, p3⟩ := okw_c (k := k') (by omega)
      rw [isAs_c 6 (by omega) k2'.ck k2'.k6, bnd_r] at h1
      rw [inb_nI (by omega) (by omega), grT rfl, grT rfl, nI_clamp (by omega), k2'.mkk] at h2
      by_cases q : k' = 1 ∨ k' = 2
      · rw [if_pos (p2.mpr q), if_neg (by decide)] at h1
        obtain ⟨rfl, rfl⟩ := so_i h1
        have h2 : some ((0 : Int32), W1) = some (r', W) := by
          rcases q with rfl | rfl
          · rw [if_pos (by decide)] at h2; exact h2
          · rw [if_neg (by decide), if_pos (by decide)] at h2; exact h2
        obtain ⟨rfl, rfl⟩ := so_i h2
        exact ⟨rfl, Or.inl rfl, t1⟩
      · rw [if_neg (fun z => q (p2.mp z)), if_pos rfl] at h1
        rw [if_neg (show ¬ nI k' = 1 from fun z => q (Or.inl (nI_inj (b := 1) (by omega) (by omega) z))), if_neg (show ¬ nI k' = 2 from fun z => q (Or.inr (nI_inj (b := 2) (by omega) (by omega) z)))] at h2
        replace h1 := bnd_i h1
        obtain ⟨r11, V11, l1, h1⟩ := h1
        obtain ⟨rfl, q2, t2⟩ := wsuit_al b hx hy l1 h2
        rcases q2 with rfl | rfl
        · rw [if_pos rfl] at h1
          obtain ⟨rfl, rfl⟩ := so_i h1
          exact ⟨rfl, Or.inl rfl, t1.tr t2⟩
        · rw [if_neg (by decide)] at h1
          obtain ⟨rfl, rfl⟩ := so_i h1
          exact ⟨rfl, Or.inr rfl, t1.tr t2⟩
    · rw [if_neg d] at h1 h2
      replace h1 := bnd_i h1
      obtain ⟨r6, V5, l1, h1⟩ := h1
      obtain ⟨rfl, q2, t2⟩ := wsuit_al h hx hy l1 h2
      replace h1 := grd_i h1
      obtain ⟨-, h1⟩ := h1
      obtain ⟨rfl, rfl⟩ := so_i h1
      exact ⟨rfl, q2, t2⟩
/-! ===== changes that nothing looks at ===== -/
def Qc (T V : SS) : Prop := (∀ k, k ≠ 62 → k ≠ 68 → k ≠ 77 → k ≠ 103 → k ≠ 104 → V.1 k = T.1 k) ∧ (V.1 62 2 = T.1 62 2) ∧ (V.1 68 5 = T.1 68 5)
theorem Qc.r {T V : SS} (h_ : Qc T V) : ∀ k, k ≠ 62 → k ≠ 68 → k ≠ 77 → k ≠ 103 → k ≠ 104 → V.1 k = T.1 k := h_.1
theorem Qc.f2 {T V : SS} (h_ : Qc T V) : V.1 62 2 = T.1 62 2 := h_.2.1
theorem Qc.f5 {T V : SS} (h_ : Qc T V) : V.1 68 5 = T.1 68 5 := h_.2.2
theorem Qc.mk_ {T V : SS} (r_ : ∀ k, k ≠ 62 → k ≠ 68 → k ≠ 77 → k ≠ 103 → k ≠ 104 → V.1 k = T.1 k) (f2_ : V.1 62 2 = T.1 62 2) (f5_ : V.1 68 5 = T.1 68 5) : Qc T V := ⟨r_, f2_, f5_⟩
def Qm (U W : SS) : Prop := (∀ k, k ≠ 0 → k ≠ 1 → k ≠ 39 → k ≠ 43 → k ≠ 44 → k ≠ 45 → W.1 k = U.1 k) ∧ (∀ i, ¬ (i ≤ 3 ∨ i = 26 ∨ i = 27 ∨ i = 28 ∨ i = 54 ∨ i = 56 ∨ i = 57 ∨ i = 58 ∨ i = 66 ∨ i = 67 ∨ i = 70) → W.1 0 i = U.1 0 i)
theorem Qm.r {U W : SS} (h_ : Qm U W) : ∀ k, k ≠ 0 → k ≠ 1 → k ≠ 39 → k ≠ 43 → k ≠ 44 → k ≠ 45 → W.1 k = U.1 k := h_.1
theorem Qm.f {U W : SS} (h_ : Qm U W) : ∀ i, ¬ (i ≤ 3 ∨ i = 26 ∨ i = 27 ∨ i = 28 ∨ i = 54 ∨ i = 56 ∨ i = 57 ∨ i = 58 ∨ i = 66 ∨ i = 67 ∨ i = 70) → W.1 0 i = U.1 0 i := h_.2
theorem Qm.mk_ {U W : SS} (r_ : ∀ k, k ≠ 0 → k ≠ 1 → k ≠ 39 → k ≠ 43 → k ≠ 44 → k ≠ 45 → W.1 k = U.1 k) (f_ : ∀ i, ¬ (i ≤ 3 ∨ i = 26 ∨ i = 27 ∨ i = 28 ∨ i = 54 ∨ i = 56 ∨ i = 57 ∨ i = 58 ∨ i = 66 ∨ i = 67 ∨ i = 70) → W.1 0 i = U.1 0 i) : Qm U W := ⟨r_, f_⟩
theorem Qc.rf {T : SS} : Qc T T := ⟨fun _ _ _ _ _ _ => rfl, rfl, rfl⟩
theorem Qm.rf {T : SS} : Qm T T := ⟨fun _ _ _ _ _ _ _ => rfl, fun _ _ => rfl⟩
theorem Qc.tr {T V X : SS} (h : Qc T V) (g : Qc V X) : Qc T X := ⟨fun k a b c d e => (g.r k a b c d e).trans (h.r k a b c d e), g.f2.trans h.f2, g.f5.trans h.f5⟩
theorem Qm.tr {T V X : SS} (h : Qm T V) (g : Qm V X) : Qm T X := ⟨fun k a b c d e f => (g.r k a b c d e f).trans (h.r k a b c d e f), fun i a => (g.f i a).trans (h.f i a)⟩
theorem Qc.w {T V : SS} (h : Qc T V) {k i : Nat} {v : Int32} (hk : (k = 62 ∧ i ≠ 2) ∨ (k = 68 ∧ i ≠ 5) ∨ k = 77 ∨ k = 103 ∨ k = 104) : Qc T (st V k i v) := ⟨fun j a b c d e => by rw [st_row _ _ _ _ (by omega)]; exact h.r j a b c d e, by rw [st_no (by omega)]; exact h.f2, by rw [st_no (by omega)]; exact h.f5⟩
theorem Qm.w {T V : SS} (h : Qm T V) {k i : Nat} {v : Int32} (hk : k = 1 ∨ k = 39 ∨ k = 43 ∨ k = 44 ∨ k = 45) : Qm T (st V k i v) := ⟨fun j a b c d e f => by rw [st_row _ _ _ _ (by omega)]; exact h.r j a b c d e f, fun j a => by rw [st_row _ _ _ _ (by omega)]; exact h.f j a⟩
theorem Qm.wf {T V : SS} (h : Qm T V) {i : Nat} {v : Int32} (hi : i ≤ 3 ∨ i = 26 ∨ i = 27 ∨ i = 28 ∨ i = 54 ∨ i = 56 ∨ i = 57 ∨ i = 58 ∨ i = 66 ∨ i = 67 ∨ i = 70) : Qm T (st V 0 i v) := ⟨fun j a b c d e f => by rw [st_row _ _ _ _ a]; exact h.r j a b c d e f, fun j a => by rw [st_no (fun z => a (by rw [z.2]; exact hi))]; exact h.f j a⟩
theorem FcL.q {T V : SS} (h : FcL T V) : Qc T V := ⟨fun k _ b _ _ e => h.r k e b, by rw [h.r 62 (by decide) (by decide)], h.f 5 (by decide)⟩
theorem FmL.q {U W : SS} (h : FmL U W) : Qm U W := ⟨fun k a _ b _ _ _ => h.r k a b, fun i hi => h.f i (by omega) (by omega) (by omega)⟩
theorem Fn.q {U W : SS} (h : Fn U W) : Qm U W := ⟨fun k a _ _ _ _ _ => h.r k a, fun i hi => h.f i (by omega) (by omega) (by omega)⟩
theorem fnd_c {r q : Int32} {T V : SS} (h : f_Report_found r T = some (q, V)) : q = -2 ∧ Qc T V := by
  obtain ⟨T', e, h1, h2⟩ := rf_found r T
  rw [e] at h
  obtain ⟨rfl, rfl⟩ := so_i h
  exact ⟨rfl, fun k a _ c _ _ => h1 k a c, h2 2 (by decide), by rw [h1 68 (by decide) (by decide)]⟩
theorem fnd_m {r q : Int32} {U W : SS} (h : f_M_found r U = some (q, W)) : q = -2 ∧ Qm U W := by
  rw [f_M_found.eq_1, wr_r] at h
  have h := (grd_i (grd_i h).2).2
  rw [wr_r] at h
  obtain ⟨rfl, rfl⟩ := so_i h
  exact ⟨rfl, (Qm.rf.wf (by omega)).w (by omega)⟩
theorem ends_i {r q : Int32} {U W : SS} (h : f_M_ends r U = some (q, W)) : (r = 0 ∧ q = 0 ∧ W = U) ∨ (¬ r = 0 ∧ ¬ q = 0 ∧ Qm U W) := by
  by_cases c : r = 0
  · subst c
    rw [ends_0] at h
    obtain ⟨rfl, rfl⟩ := so_i h
    exact Or.inl ⟨rfl, rfl, rfl⟩
  · rw [f_M_ends.eq_1, if_neg c] at h
    replace h := bnd_i h
    obtain ⟨r2, W2, l, h⟩ := h
    rw [f_M_ends_j10.eq_1, if_neg c] at h
    obtain ⟨rfl, rfl⟩ := so_i h
    exact Or.inr ⟨c, by decide, (fnd_m l).2⟩
def Qz (T U V W : SS) : Prop := (Cfa T V) ∧ (Mf U W) ∧ (V.1 79 = T.1 79) ∧ (V.1 68 5 = T.1 68 5) ∧ (∀ k, (k = 10 ∨ k = 11 ∨ (19 ≤ k ∧ k ≤ 27) ∨ (30 ≤ k ∧ k ≤ 34)) → W.1 k = U.1 k) ∧ (∀ i, (i = 47 ∨ i = 48 ∨ i = 49) → W.1 0 i = U.1 0 i) ∧ (TrE V W)
theorem Qz.cf {T U V W : SS} (h_ : Qz T U V W) : Cfa T V := h_.1
theorem Qz.mf {T U V W : SS} (h_ : Qz T U V W) : Mf U W := h_.2.1
theorem Qz.c79 {T U V W : SS} (h_ : Qz T U V W) : V.1 79 = T.1 79 := h_.2.2.1
theorem Qz.c68 {T U V W : SS} (h_ : Qz T U V W) : V.1 68 5 = T.1 68 5 := h_.2.2.2.1
theorem Qz.mr {T U V W : SS} (h_ : Qz T U V W) : ∀ k, (k = 10 ∨ k = 11 ∨ (19 ≤ k ∧ k ≤ 27) ∨ (30 ≤ k ∧ k ≤ 34)) → W.1 k = U.1 k := h_.2.2.2.2.1
theorem Qz.f7 {T U V W : SS} (h_ : Qz T U V W) : ∀ i, (i = 47 ∨ i = 48 ∨ i = 49) → W.1 0 i = U.1 0 i := h_.2.2.2.2.2.1
theorem Qz.te {T U V W : SS} (h_ : Qz T U V W) : TrE V W := h_.2.2.2.2.2.2
theorem Qz.mk_ {T U V W : SS} (cf_ : Cfa T V) (mf_ : Mf U W) (c79_ : V.1 79 = T.1 79) (c68_ : V.1 68 5 = T.1 68 5) (mr_ : ∀ k, (k = 10 ∨ k = 11 ∨ (19 ≤ k ∧ k ≤ 27) ∨ (30 ≤ k ∧ k ≤ 34)) → W.1 k = U.1 k) (f7_ : ∀ i, (i = 47 ∨ i = 48 ∨ i = 49) → W.1 0 i = U.1 0 i) (te_ : TrE V W) : Qz T U V W := ⟨cf_, mf_, c79_, c68_, mr_, f7_, te_⟩
theorem Qz.of {T U V W : SS} (e : TrE T U) (c : Qc T V) (m : Qm U W) : Qz T U V W := ⟨fun k hk => c.r k (by unfold cdy at hk; omega) (by unfold cdy at hk; omega) (by unfold cdy at hk; omega) (by unfold cdy at hk; omega) (by unfold cdy at hk; omega), ⟨fun k k0 hk => m.r k k0 (by unfold mdy at hk; omega) (by unfold mdy at hk; omega) (by unfold mdy at hk; omega) (by unfold mdy at hk; omega) (by unfold mdy at hk; omega), fun i hi => m.f i (by unfold mdf at hi; omega)⟩, c.r 79 (by decide) (by decide) (by decide) (by decide) (by decide), c.f5, fun k hk => m.r k (by omega) (by omega) (by omega) (by omega) (by omega) (by omega), fun i hi => m.f i (by omega), ⟨by rw [c.f2, e.n, m.f 5 (by omega)], fun i => by rw [c.r 78 (by decide) (by decide) (by decide) (by decide) (by decide), e.r, m.r 2 (by decide) (by decide) (by decide) (by decide) (by decide) (by decide)]⟩⟩
theorem Tl.q {T U V W : SS} (t : Tl T U V W) : Qz T U V W := ⟨t.c.cf, t.m.mf, t.c.r 79 (by decide) (by decide), by rw [t.c.r 68 (by decide) (by decide)], fun k hk => t.m.r k (by omega) (by omega), fun i hi => t.m.f i (by omega) (by omega), t.e⟩
theorem Qz.tr {T U V W X Y : SS} (h : Qz T U V W) (g : Qz V W X Y) : Qz T U X Y := ⟨h.cf.tr g.cf, h.mf.tr g.mf, g.c79.trans h.c79, g.c68.trans h.c68, fun k hk => (g.mr k hk).trans (h.mr k hk), fun i hi => (g.f7 i hi).trans (h.f7 i hi), g.te⟩
theorem Qz.svE {T U V W : SS} (h : Qz T U V W) : sv W = sv U := funext fun j => by
  unfold sv
  rw [h.mr 19 (by omega), h.mr 20 (by omega), h.mr 21 (by omega), h.mr 22 (by omega), h.mr 23 (by omega), h.mr 24 (by omega), h.mr 25 (by omega), h.mr 26 (by omega), h.mr 27 (by omega), h.mr 30 (by omega), h.mr 31 (by omega), h.mr 32 (by omega), h.mr 33 (by omega), h.mr 34 (by omega), h.mr 10 (by omega), h.mr 11 (by omega), h.f7 48 (by omega)]
theorem Bo.te {n np nt : Nat} {T U : SS} (b : Bo n np nt T U) : TrE T U := ⟨b.tr, b.tc⟩
theorem Qz.rf {n np nt : Nat} {T U : SS} (b : Bo n np nt T U) : Qz T U T U := Qz.of b.te Qc.rf Qm.rf
theorem Bo.q {n np nt : Nat} {T U V W : SS} (b : Bo n np nt T U) (h : Qz T U V W) : Bo n np nt V W := by
  have e3 : W.1 3 = U.1 3 := h.mf.r 3 (by decide) (by unfold mdy; omega)
  have e18 : W.1 18 = U.1 18 := h.mf.r 18 (by decide) (by unfold mdy; omega)
  refine ⟨b.s.cm h.cf h.mf, ?_, ?_, h.te.n, h.te.r, ?_, ?_, ?_, ?_, ?_⟩
  · rw [e3, e18, h.f7 47 (by omega), h.svE, h.c79]; exact b.w
  · rw [h.mr 22 (by omega)]; exact b.lk
  · rw [h.c68, h.f7 49 (by omega)]; exact b.sr
  · rw [h.mr 10 (by omega)]; exact b.pb
  · rw [h.mr 23 (by omega)]; exact b.ac
  · rw [h.mr 27 (by omega)]; exact b.dg
  · rw [h.mr 26 (by omega)]; exact b.jm
/-- how the middle of an act ends -/
def En (n np nt : Nat) (T U V W : SS) : Prop := (Cfa T V) ∧ (Mf U W) ∧ (Rw n np nt (U.1 3) (U.1 18) (W.1 0 47).toInt (sv W) (V.1 79)) ∧ ((U.1 0 47).toInt ≤ (W.1 0 47).toInt) ∧ (TrE V W) ∧ (V.1 68 5 = W.1 0 49)
theorem En.cf {n np nt : Nat} {T U V W : SS} (h_ : En n np nt T U V W) : Cfa T V := h_.1
theorem En.mf {n np nt : Nat} {T U V W : SS} (h_ : En n np nt T U V W) : Mf U W := h_.2.1
theorem En.w {n np nt : Nat} {T U V W : SS} (h_ : En n np nt T U V W) : Rw n np nt (U.1 3) (U.1 18) (W.1 0 47).toInt (sv W) (V.1 79) := h_.2.2.1
theorem En.hB {n np nt : Nat} {T U V W : SS} (h_ : En n np nt T U V W) : (U.1 0 47).toInt ≤ (W.1 0 47).toInt := h_.2.2.2.1
theorem En.te {n np nt : Nat} {T U V W : SS} (h_ : En n np nt T U V W) : TrE V W := h_.2.2.2.2.1
theorem En.sr {n np nt : Nat} {T U V W : SS} (h_ : En n np nt T U V W) : V.1 68 5 = W.1 0 49 := h_.2.2.2.2.2
theorem En.mk_ {n np nt : Nat} {T U V W : SS} (cf_ : Cfa T V) (mf_ : Mf U W) (w_ : Rw n np nt (U.1 3) (U.1 18) (W.1 0 47).toInt (sv W) (V.1 79)) (hB_ : (U.1 0 47).toInt ≤ (W.1 0 47).toInt) (te_ : TrE V W) (sr_ : V.1 68 5 = W.1 0 49) : En n np nt T U V W := ⟨cf_, mf_, w_, hB_, te_, sr_⟩
theorem Bo.en {n np nt : Nat} {T U V W : SS} (b : Bo n np nt T U) (h : Qz T U V W) : En n np nt T U V W := by
  refine ⟨h.cf, h.mf, ?_, by rw [h.f7 47 (by omega)]; exact Int.le_refl _, h.te, ?_⟩
  · rw [h.f7 47 (by omega), h.svE, h.c79]; exact b.w
  · rw [h.c68, h.f7 49 (by omega)]; exact b.sr
theorem En.q {n np nt : Nat} {T U V W X Y : SS} (q : Qz T U V W) (h : En n np nt V W X Y) : En n np nt T U X Y := by
  have e3 : W.1 3 = U.1 3 := q.mf.r 3 (by decide) (by unfold mdy; omega)
  have e18 : W.1 18 = U.1 18 := q.mf.r 18 (by decide) (by unfold mdy; omega)
  refine ⟨q.cf.tr h.cf, q.mf.tr h.mf, ?_, by have := h.hB; rw [q.f7 47 (by omega)] at this; exact this, h.te, h.sr⟩
  rw [← e3, ← e18]; exact h.w
/-! ===== an act ===== -/
/-- what both worlds have in common between calls -/
def Dz (n np nt L : Nat) (S : SS) : Prop := (Rst n np nt S) ∧ (Lg S L) ∧ (TrE S S) ∧ (Sta n np nt S S) ∧ (S.1 68 5 = S.1 0 49) ∧ (∀ i, S.1 76 i = S.1 38 i)
theorem Dz.r {n np nt L : Nat} {S : SS} (h_ : Dz n np nt L S) : Rst n np nt S := h_.1
theorem Dz.l {n np nt L : Nat} {S : SS} (h_ : Dz n np nt L S) : Lg S L := h_.2.1
theorem Dz.e {n np nt L : Nat} {S : SS} (h_ : Dz n np nt L S) : TrE S S := h_.2.2.1
theorem Dz.s {n np nt L : Nat} {S : SS} (h_ : Dz n np nt L S) : Sta n np nt S S := h_.2.2.2.1
theorem Dz.sr {n np nt L : Nat} {S : SS} (h_ : Dz n np nt L S) : S.1 68 5 = S.1 0 49 := h_.2.2.2.2.1
theorem Dz.ro {n np nt L : Nat} {S : SS} (h_ : Dz n np nt L S) : ∀ i, S.1 76 i = S.1 38 i := h_.2.2.2.2.2
theorem Dz.mk_ {n np nt L : Nat} {S : SS} (r_ : Rst n np nt S) (l_ : Lg S L) (e_ : TrE S S) (s_ : Sta n np nt S S) (sr_ : S.1 68 5 = S.1 0 49) (ro_ : ∀ i, S.1 76 i = S.1 38 i) : Dz n np nt L S := ⟨r_, l_, e_, s_, sr_, ro_⟩
theorem rg_n {v : Int32} {b : Nat} (hb : b < 2 ^ 31) (h : rg v 0 b) : ∃ k, k ≤ b ∧ v = nI k := by
  obtain ⟨x, e, -, h1, -⟩ := rg_ex h (by omega)
  exact ⟨x, by omega, e⟩
theorem Dz.bo {n np nt L : Nat} {S T U : SS} (h : Dz n np nt L S) (hW : WR S) (hs : Sta n np nt T U) (c79 : T.1 79 = S.1 79) (c68 : T.1 68 5 = S.1 68 5) (te : TrE T U) (m3 : U.1 3 = S.1 3) (m18 : U.1 18 = S.1 18) (mr : ∀ k, (k = 10 ∨ k = 11 ∨ (19 ≤ k ∧ k ≤ 27) ∨ (30 ≤ k ∧ k ≤ 34)) → U.1 k = S.1 k) (f7 : ∀ i, (i = 47 ∨ i = 48 ∨ i = 49) → U.1 0 i = S.1 0 i) : Bo n np nt T U := by
  have hn := h.r.n72
  have hp := h.r.np40
  have esv : sv U = sv S := funext fun j => by
    unfold sv
    rw [mr 19 (by omega), mr 20 (by omega), mr 21 (by omega), mr 22 (by omega), mr 23 (by omega), mr 24 (by omega), mr 25 (by omega), mr 26 (by omega), mr 27 (by omega), mr 30 (by omega), mr 31 (by omega), mr 32 (by omega), mr 33 (by omega), mr 34 (by omega), mr 10 (by omega), mr 11 (by omega), f7 48 (by omega)]
  refine ⟨hs, ?_, fun x hx => ?_, te.n, te.r, ?_, fun p hp' => ?_, ?_, fun x hx => ?_, fun x hx => ?_⟩
  · rw [m3, m18, f7 47 (by omega), esv, c79]; exact h.r.w
  · rw [mr 22 (by omega)]
    obtain ⟨k, k1, k2⟩ := rg_n (b := 1) (by omega) (ro_22 hW x)
    exact ⟨k, by omega, k2⟩
  · rw [c68, f7 49 (by omega)]; exact h.sr
  · rw [mr 10 (by omega)]
    exact rg_n (b := 2) (by omega) (ro_10 hW p)
  · rw [mr 23 (by omega)]
    obtain ⟨n', hn', h29, hA, -⟩ := hW.2.1
    have : n = n' := nI_inj (by omega) (by omega) (h.r.mn.symm.trans h29)
    subst this
    exact hA
  · rw [mr 27 (by omega)]
    exact rg_n (b := 9) (by omega) (ro_27 hW x)
  · rw [mr 26 (by omega)]
    exact rg_n (b := 50) (by omega) (ro_26 hW x)
def Az (n np nt L : Nat) (r1 r2 : Int32) (S2 : SS) : Prop := r1 = r2 ∧ ∃ L', L' ≤ L + 1 ∧ Dz n np nt L' S2
theorem act_core {n np nt L u b o : Nat} {S T U S1 S2 V : SS} {r1 r2 rc act : Int32} {gM : SS → Option (Int32 × SS)} (h : Dz n np nt L S) (hL : L < 600) (hW : WR S) (hW2 : WR S2) (z : Fz S S1 S2) (h60 : S.1 0 60 = nI u) (h61 : S.1 0 61 = nI b) (kp : Kp n np nt (S.1 3) (S.1 18) (S.1 0 47).toInt u b o (S.1 40) (fun i => S.1 (81 + i))) (ba : BA S n u o T) (bm : BM S1 u U) (te : TrE T U) (wU : WR U)
    (body : Bo n np nt T U → WR U → AC n (S2.1 23) → gM U = some (r2, S2) → ∃ W, bnd (f_M_entered act rc W) (fun r S => some (r, S)) = some (r2, S2) ∧ En n np nt T U V W)
    (e1 : bnd (f_Yard_endAct act rc V) (fun r7 S6 => some (r7, S6)) = some (r1, S1))
    (e2 : gM U = some (r2, S2)) : Az n np nt L r1 r2 S2 := by
  have hn72 := h.r.n72
  have Tr : ∀ k, k ≠ 62 → k ≠ 64 → (k < 81 ∨ 88 < k) → T.1 k = S.1 k := ba.fr
  have Ur : ∀ k, k ≠ 0 → k ≠ 40 → k ≤ 60 → U.1 k = S.1 k := fun k k1 k2 k3 => by rw [bm.fr k k1 k2, z.row1 k3]
  have Uf : ∀ i, 5 < i → i ≠ 60 → i ≠ 61 → U.1 0 i = S.1 0 i := fun i a b c => by rw [bm.f0 i a b c, z.g1 0 i (by omega)]
  have bo : Bo n np nt T U := h.bo hW (h.s.fr (fun k hk => Tr k (by omega) (by omega) (by omega)) (fun k hk => Ur k (by omega) (by omega) (by omega)) (fun i hi => Uf i (by omega) (by omega) (by omega))) (Tr 79 (by decide) (by decide) (by omega)) (by rw [Tr 68 (by decide) (by decide) (by omega)]) te (Ur 3 (by decide) (by decide) (by omega)) (Ur 18 (by decide) (by decide) (by omega)) (fun k hk => Ur k (by omega) (by omega) (by omega)) (fun i hi => Uf i (by omega) (by omega) (by omega))
  have hA2 : AC n (S2.1 23) := by
    obtain ⟨n', hn', h29, hA, -⟩ := hW2.2.1
    have e29 : S2.1 0 29 = nI n := by rw [z.m29, z.g1 0 29 (by omega)]; exact h.r.mn
    have : n = n' := nI_inj (by omega) (by omega) (e29.symm.trans h29)
    subst this
    exact hA
  obtain ⟨W, ent, en⟩ := body bo wU hA2 e2
  have V4 : ∀ i, i ≠ 3 → i ≠ 6 → i ≠ 7 → V.1 64 i = S.1 64 i := fun i a b c => by rw [en.cf 64 (by unfold cdy; omega), ba.f4 i a b c]
  have W62 : W.1 0 62 = nI L := by rw [en.mf.f 62 (by unfold mdf; omega), Uf 62 (by omega) (by omega) (by omega)]; exact h.l.m
  rw [f_Yard_endAct.eq_1] at e1
  obtain ⟨Y, eY, cw⟩ := cw_write (S := V) act rc h.l.l6 (by rw [V4 4 (by decide) (by decide) (by decide)]; exact h.l.c4) (by rw [V4 5 (by decide) (by decide) (by decide)]; exact h.l.c5)
  rw [eY] at e1
  have e1 : some (rc, Y) = some (r1, S1) := e1
  obtain ⟨rfl, rfl⟩ := so_i e1
  obtain ⟨q, Z, eZ, q1, me⟩ := me_entered (S := W) act r1 h.l.l6 W62
  rw [eZ, bnd_r] at ent
  obtain ⟨rfl, rfl⟩ := so_i ent
  subst q1
  have hU3 : U.1 3 = S.1 3 := Ur 3 (by decide) (by decide) (by omega)
  have hU18 : U.1 18 = S.1 18 := Ur 18 (by decide) (by decide) (by omega)
  obtain ⟨q1, q2⟩ := act_fin h.r h60 h61 kp h.l hL z ba cw (fun k i hk => by rw [en.cf k (by unfold cdy; omega)]) bm me (fun k i hk => by
      by_cases k0 : k = 0
      · subst k0; exact en.mf.f i (by unfold mdf; omega)
      · rw [en.mf.r k k0 (by unfold mdy; omega)]) (by have := en.hB; rw [Uf 47 (by omega) (by omega) (by omega)] at this; exact this) (by have := en.w; rw [hU3, hU18] at this; exact this)
  have C2 : ∀ k, 61 ≤ k → k ≠ 64 → k ≠ 89 → k ≠ 90 → S2.1 k = V.1 k := fun k a b c d => by rw [z.row2 a, cw.fr k b c d]
  refine ⟨rfl, L + 1, Nat.le_refl _, q1, q2, ⟨?_, fun i => ?_⟩, ?_, ?_, fun i => ?_⟩
  · rw [C2 62 (by decide) (by decide) (by decide) (by decide), me.f0 5 (by decide)]; exact en.te.n
  · rw [C2 78 (by decide) (by decide) (by decide) (by decide), me.fr 2 (by decide) (by decide) (by decide)]; exact en.te.r i
  · exact (bo.s.cm en.cf en.mf).fr (fun k hk => C2 k (by omega) (by omega) (by omega) (by omega)) (fun k hk => me.fr k (by omega) (by omega) (by omega)) (fun i hi => me.f0 i (by omega))
  · rw [C2 68 (by decide) (by decide) (by decide) (by decide), me.f0 49 (by decide)]; exact en.sr
  · rw [C2 76 (by decide) (by decide) (by decide) (by decide), en.cf 76 (by unfold cdy; omega), Tr 76 (by decide) (by decide) (by omega), me.fr 38 (by decide) (by decide) (by decide), en.mf.r 38 (by decide) (by unfold mdy; omega), Ur 38 (by decide) (by decide) (by omega)]; exact h.ro i
theorem act_al {n np nt L : Nat} {S S1 S2 : SS} {r1 r2 act : Int32} {gC gM : SS → Option (Int32 × SS)} (h : Dz n np nt L S) (hL : L < 600) (hW : WR S) (hW1 : WR S1) (hW2 : WR S2) (z : Fz S S1 S2)
    (body : ∀ (T U V : SS) (rc : Int32), Bo n np nt T U → WR U → AC n (S2.1 23) → gC T = some (rc, V) → gM U = some (r2, S2) → ∃ W, bnd (f_M_entered act rc W) (fun r S => some (r, S)) = some (r2, S2) ∧ En n np nt T U V W)
    (e1 : bndv (f_Yard_beginAct S) (fun S3 => bnd (gC S3) (fun r5 S4 => bnd (f_Yard_endAct act r5 S4) (fun r7 S6 => some (r7, S6)))) = some (r1, S1))
    (e2 : bndv (f_M_begin S1) (fun S1 => bndv (f_M_keep S1) (fun S2 => gM S2)) = some (r2, S2)) : Az n np nt L r1 r2 S2 := by
  obtain ⟨u, b, o, h60, h61, h6, h7, h3, kp⟩ := h.r.k
  have hub := kp.ub
  have ho := kp.o8
  have hn72 := h.r.n72
  obtain ⟨T, eT, ba, tT⟩ := ba_act h.r.cn hn72 (u := u) (o := o) (by omega) ho h6 h3
  rw [eT, bndv_r] at e1
  obtain ⟨rc, V, g1, e1⟩ := bnd_i e1
  obtain ⟨X, U, eX, eU, bm, tU⟩ := bm_keep (u := u) hW1 (by omega) ((z.g1 0 60 (by omega)).trans h60)
  obtain ⟨X', eX', wX, -⟩ := t_M_begin hW1
  rw [eX] at eX'
  injection eX' with eX'
  subst eX'
  obtain ⟨U', eU', wU, -⟩ := t_M_keep wX
  rw [eU] at eU'
  injection eU' with eU'
  subst eU'
  rw [eX, bndv_r, eU, bndv_r] at e2
  refine act_core (gM := gM) h hL hW hW2 z h60 h61 kp ba bm ⟨by rw [tT, tU], fun i => ?_⟩ wU (fun b w a g2 => body T U V rc b w a g1 g2) e1 e2
  rw [ba.fr 78 (by decide) (by decide) (by omega), bm.fr 2 (by decide) (by decide), z.row1 (by omega)]; exact h.e.r i
theorem act_stp {n np nt L : Nat} {S S1 S2 : SS} {r1 r2 act : Int32} {gC gM : SS → Option (Int32 × SS)} (h : Dz n np nt L S) (hL : L < 600) (hW : WR S) (hW1 : WR S1) (hW2 : WR S2) (z : Fz S S1 S2)
    (body : ∀ (T U V : SS) (rc : Int32), Bo n np nt T U → WR U → AC n (S2.1 23) → gC T = some (rc, V) → gM U = some (r2, S2) → ∃ W, bnd (f_M_entered act rc W) (fun r S => some (r, S)) = some (r2, S2) ∧ En n np nt T U V W)
    (e1 : bndv (f_History_keep S) (fun S3 => bnd (gC S3) (fun r5 S4 => bnd (f_Yard_endAct act r5 S4) (fun r7 S6 => some (r7, S6)))) = some (r1, S1))
    (e2 : bndv (f_M_keep S1) (fun S2 => gM S2) = some (r2, S2)) : Az n np nt L r1 r2 S2 := by
  obtain ⟨u, b, o, h60, h61, h6, h7, h3, kp⟩ := h.r.k
  have hub := kp.ub
  have ho := kp.o8
  have hn72 := h.r.n72
  obtain ⟨T, eT, ba, tT⟩ := ba_step h.r.cn hn72 (u := u) (o := o) (by omega) ho h6 h3
  rw [eT, bndv_r] at e1
  obtain ⟨rc, V, g1, e1⟩ := bnd_i e1
  obtain ⟨U, eU, wU, bm, tU⟩ := bm_step (u := u) hW1 (by omega) ((z.g1 0 60 (by omega)).trans h60)
  rw [eU, bndv_r] at e2
  refine act_core (gM := gM) h hL hW hW2 z h60 h61 kp ba bm ⟨by rw [tT, tU, z.g1 0 5 (by omega)]; exact h.e.n, fun i => ?_⟩ wU (fun b w a g2 => body T U V rc b w a g1 g2) e1 e2
  rw [ba.fr 78 (by decide) (by decide) (by omega), bm.fr 2 (by decide) (by decide), z.row1 (by omega)]; exact h.e.r i
end
section
/-! ===== POINTS: turn ===== -/
theorem lt_e {a : Int32} {k : Nat} (hk : k < 2 ^ 31) (h0 : ¬ a < 0) (h1 : a < nI k) : ∃ x, x < k ∧ a = nI x := by
  have z0 : (0 : Int32).toInt = 0 := by decide
  rw [Int32.lt_iff_toInt_lt] at h0 h1
  rw [nI_ti hk] at h1
  refine ⟨a.toInt.toNat, by omega, ?_⟩
  apply Int32.toInt_inj.mp
  rw [nI_ti (by omega)]
  omega
theorem pt_al {n np nt : Nat} {T U : SS} (b : Bo n np nt T U) (a : Int32) : (∃ p, p < np ∧ a = nI p ∧ f_Layout_pointFinding a T = some (0, T) ∧ f_M_missPoint a U = some (0, U)) ∨ (∃ r, ¬ r = 0 ∧ f_Layout_pointFinding a T = some (r, T) ∧ f_M_missPoint a U = some (r, U)) := by
  have hp := b.s.np40
  rw [f_Layout_pointFinding.eq_1, f_M_missPoint.eq_1, b.s.cp, b.s.mp]
  by_cases c0 : a < 0
  · rw [if_pos c0, if_pos c0]; exact Or.inr ⟨3, by decide, rfl, rfl⟩
  · rw [if_neg c0, if_neg c0]
    by_cases c1 : a < (40 : Int32)
    · rw [if_pos c1, if_pos c1]
      obtain ⟨p, hp', rfl⟩ := lt_e (k := 40) (by omega) c0 c1
      by_cases d : p < np
      · rw [if_neg (nI_ge d (by omega)), if_pos ((nI_ltJ (by omega) (by omega)).mpr d)]
        exact Or.inl ⟨p, d, rfl, rfl, rfl⟩
      · rw [if_pos (nI_le (by omega) (by omega)), if_neg (fun z => d ((nI_ltJ (by omega) (by omega)).mp z))]
        exact Or.inr ⟨1, by decide, rfl, rfl⟩
    · rw [if_neg c1, if_neg c1]; exact Or.inr ⟨3, by decide, rfl, rfl⟩
theorem c_setting {n np nt : Nat} {T U : SS} {p : Nat} (b : Bo n np nt T U) (hp : p < np) : f_State_setting (nI p) T = some (U.1 10 p, T) := by
  have hnp := b.s.np40
  have e := (b.w.pt p hp).1
  rw [sv_s U (by omega)] at e
  rw [f_State_setting.eq_1, if_neg (nI_nn (by omega)), if_neg (show ¬ (40 : Int32) ≤ nI p from nI_ge (b := 40) (by omega) (by omega)), show (74 : Int32) + nI p = nI (74 + p) from nI_add 74 p, grT (inb_nI (by omega) (by omega)), nI_clamp (by omega), e]
theorem c_locker {n np nt : Nat} {T U : SS} {p : Nat} (b : Bo n np nt T U) (hp : p < np) : f_State_locker (nI p) T = some (U.1 11 p, T) := by
  have hnp := b.s.np40
  have e := (b.w.pt p hp).2
  rw [sv_l U (by omega)] at e
  rw [f_State_locker.eq_1, if_neg (nI_nn (by omega)), if_neg (show ¬ (40 : Int32) ≤ nI p from nI_ge (b := 40) (by omega) (by omega)), show (114 : Int32) + nI p = nI (114 + p) from nI_add 114 p, grT (inb_nI (by omega) (by omega)), nI_clamp (by omega), e]
theorem set_rd {a r : Int32} {T V : SS} (h : f_State_setting a T = some (r, V)) : V = T := by
  rw [f_State_setting.eq_1] at h
  by_cases c0 : a < 0
  · rw [if_pos c0] at h; exact (so_i h).2
  · rw [if_neg c0] at h
    by_cases c1 : (40 : Int32) ≤ a
    · rw [if_pos c1] at h; exact (so_i h).2
    · rw [if_neg c1] at h; exact (so_i (grd_i h).2).2
theorem c_setPt {T : SS} {p : Nat} (hp : p < 40) (k l : Int32) : f_State_setPoint (nI p) k l T = some (st (st T 79 (74 + p) k) 79 (114 + p) l) := by
  rw [f_State_setPoint.eq_1, if_neg (nI_nn (by omega)), if_neg (show ¬ (40 : Int32) ≤ nI p from nI_ge (b := 40) (by omega) (by omega)), show (74 : Int32) + nI p = nI (74 + p) from nI_add 74 p, grT (inb_nI (by omega) (by omega)), nI_clamp (by omega), wr_r, show (114 : Int32) + nI p = nI (114 + p) from nI_add 114 p, grT (inb_nI (by omega) (by omega)), nI_clamp (by omega), wr_r]
theorem Rw.pnt {n np nt : Nat} {pl kf : Nat → Int32} {B : Int} {K c K' c' : Nat → Int32} {p : Nat} {k l : Int32} (h : Rw n np nt pl kf B K c) (hn : n ≤ 72) (hnp : np ≤ 40) (hp : p < np) (eK : ∀ j, j < 1161 → K' j = if j = 1080 + 2 * p then k else if j = 1080 + 2 * p + 1 then l else K j) (ec : ∀ j, c' j = if j = 74 + p then k else if j = 114 + p then l else c j) : Rw n np nt pl kf B K' c' := by
  have kk : ∀ y d, y < n → d < 15 → K' (15 * y + d) = K (15 * y + d) := fun y d hy hd => by rw [eK _ (by omega), if_neg (by omega), if_neg (by omega)]
  have cc : ∀ j, j < 74 ∨ 154 ≤ j → c' j = c j := fun j hj => by rw [ec, if_neg (by omega), if_neg (by omega)]
  refine ⟨fun x hx => ?_, fun q hq => ?_, ?_, ?_, fun x s o hx hs ho q => ?_, fun y e hy h72 he => by rw [eK _ (by omega), if_neg (by omega), if_neg (by omega)]; exact h.nw y e hy h72 he⟩
  · have t := h.th x hx
    have k0 := kk x 0 hx (by omega)
    have d0 := cc (154 + 11 * x) (by omega)
    rw [Nat.add_zero] at k0
    have K1 : ∀ j, j < 15 → K' (15 * x + j) = K (15 * x + j) := fun j hj => kk x j hx hj
    have C1 : ∀ j, c' (154 + 11 * x + j) = c (154 + 11 * x + j) := fun j => cc _ (by omega)
    refine ⟨?_, ?_, ?_, ?_, ?_, ?_, ?_, ?_, ?_, ?_, ?_, ?_, ?_⟩
    · rw [k0, d0, K1 1 (by omega), K1 2 (by omega)]; exact t.at_
    · rw [C1, K1 3 (by omega)]; exact t.look
    · rw [C1, K1 4 (by omega)]; exact t.m0
    · rw [C1, K1 5 (by omega)]; exact t.m1
    · rw [C1, K1 6 (by omega)]; exact t.ser
    · rw [C1, K1 7 (by omega)]; exact t.flt
    · rw [C1, K1 8 (by omega)]; exact t.jam
    · rw [C1, K1 9 (by omega)]; exact t.dgr
    · rw [C1, K1 10 (by omega)]; exact t.run
    · rw [C1, K1 12 (by omega)]; exact t.rsd
    · rw [C1, K1 14 (by omega)]; exact t.tst
    · rw [K1 14 (by omega)]; exact t.tb
    · rw [k0, K1 11 (by omega), K1 10 (by omega), K1 4 (by omega), K1 5 (by omega), K1 12 (by omega)]; exact t.run0
  · rw [ec, ec, eK _ (by omega), eK _ (by omega)]
    by_cases e : q = p
    · subst e
      refine ⟨?_, ?_⟩
      · rw [if_pos (show 74 + q = 74 + q from rfl), if_pos (show 1080 + 2 * q = 1080 + 2 * q from rfl)]
      · rw [if_neg (show ¬ 114 + q = 74 + q by omega), if_pos (show 114 + q = 114 + q from rfl), if_neg (show ¬ 1080 + 2 * q + 1 = 1080 + 2 * q by omega), if_pos (show 1080 + 2 * q + 1 = 1080 + 2 * q + 1 from rfl)]
    · rw [if_neg (by omega), if_neg (by omega), if_neg (by omega), if_neg (by omega), if_neg (by omega), if_neg (by omega), if_neg (by omega), if_neg (by omega)]
      exact h.pt q hq
  · rw [cc 0 (by omega), eK _ (by omega), if_neg (by omega), if_neg (by omega)]; exact h.dmp
  · obtain ⟨r, g⟩ := h.rns
    have hl := g.le
    refine ⟨r, by rw [cc _ (by omega)]; exact g.len, fun i hi => by rw [cc _ (by omega)]; exact g.cell i hi, fun x => ?_, ?_, fun x hx => ?_⟩
    · by_cases hx : x < n
      · rw [kk x 11 hx (by omega)]; exact g.mem x
      · rw [g.mem x]; exact ⟨fun q => absurd q.1 hx, fun q => absurd q.1 hx⟩
    · refine g.srt.imp_of_mem (fun ha hb q => ?_)
      rw [kk _ 13 ((g.mem _).mp ha).1 (by omega), kk _ 13 ((g.mem _).mp hb).1 (by omega)]; exact q
    · rw [kk _ 13 ((g.mem _).mp hx).1 (by omega)]; exact g.pos x hx
  · have k0 := kk x 0 hx (by omega)
    have k1 := kk o 0 ho (by omega)
    rw [Nat.add_zero] at k0 k1
    rw [Nat.add_assoc, kk x (4 + s) hx (by omega), ← Nat.add_assoc] at q
    rw [k0, k1]; exact h.mt x s o hx hs ho q
/-- the END of a POINT, and its LINKS -/
theorem c_endOf {n np nt : Nat} {T U : SS} {p e : Nat} (b : Bo n np nt T U) (hp : p < np) (he : U.1 9 p = nI e) : f_Layout_endOf (nI p) T = some (nI e, T) := by
  have := b.s.np40
  rw [f_Layout_endOf.eq_1, if_neg (nI_nn (by omega)), b.s.cp, if_neg (nI_ge hp (by omega)), grT (inb_nI (by omega) (by omega)), nI_clamp (by omega), b.s.e9, he]
theorem c_links {n np nt : Nat} {T U : SS} {e : Nat} (b : Bo n np nt T U) (he : e < 48) : f_Layout_linksAt (nI e) T = some (U.1 6 e, T) := by
  rw [f_Layout_linksAt.eq_1, if_neg (nI_nn (by omega)), if_neg (show ¬ (48 : Int32) ≤ nI e from nI_ge (b := 48) he (by omega)), grT (inb_nI he (by omega)), nI_clamp (by omega), b.s.e6]
theorem c_hasLink {n np nt : Nat} {T U : SS} {p e : Nat} (b : Bo n np nt T U) (hp : p < np) (he : U.1 9 p = nI e) (h48 : e < 48) (k : Int32) : f_Routes_hasLink (nI p) k T = some (if k < 0 then 0 else if U.1 6 e ≤ k then 0 else 1, T) := by
  rw [f_Routes_hasLink.eq_1]
  by_cases c : k < 0
  · rw [if_pos c, if_pos c]
  · rw [if_neg c, if_neg c, c_endOf b hp he, bnd_r, c_links b h48, bnd_r]
    by_cases d : U.1 6 e ≤ k
    · rw [if_pos d, if_pos d]
    · rw [if_neg d, if_neg d]
theorem und_al {n np nt : Nat} {T U V W : SS} {p : Nat} {r r' : Int32} (b : Bo n np nt T U) (hp : p < np) (h1 : f_Routes_isUnder (nI p) T = some (r, V)) (h2 : f_M_isUnder (nI p) U = some (r', W)) : V = T ∧ W = U ∧ r' = r := by
  have hnp := b.s.np40
  have hnt := b.s.nt24
  obtain ⟨e, he, ee⟩ := b.s.pe p hp
  rw [f_Routes_isUnder.eq_1, c_endOf b hp ee, bnd_r, c_spotAt b he, bnd_r] at h1
  rw [f_M_isUnder.eq_1, grT (inb_nI (by omega) (by omega)), grT (inb_nI (by omega) (by omega)), nI_clamp (by omega), ee, m_plE b he rfl, bnd_r, n_d2 (by omega)] at h2
  replace h1 := bnd_i h1
  obtain ⟨r6, S5, l1, h1⟩ := h1
  obtain ⟨rfl, q1⟩ := c_stands b.s.cn b.s.n72 l1
  replace h2 := bnd_i h2
  obtain ⟨r4, S3, l2, h2⟩ := h2
  obtain ⟨qf, -, qf2, hqf⟩ := b.s.pl (e / 2) (by omega)
  have hpf := plE_lt b he hqf qf2
  obtain ⟨rfl, q2⟩ := m_stand b.s.mn b.s.n72 hnt b.w (by omega) (by omega) l2
  rw [← q1] at q2
  subst q2
  by_cases c : r4 = -4
  · rw [if_pos c] at h1 h2
    obtain ⟨rfl, rfl⟩ := so_i h1
    obtain ⟨rfl, rfl⟩ := so_i h2
    exact ⟨rfl, rfl, rfl⟩
  · rw [if_neg c] at h1 h2
    obtain ⟨rfl, rfl⟩ := so_i h1
    obtain ⟨rfl, rfl⟩ := so_i h2
    exact ⟨rfl, rfl, rfl⟩
/-- a POINT is set on both sides -/
theorem En.set {n np nt : Nat} {T0 U0 T U : SS} {p : Nat} {k l : Int32} (h : En n np nt T0 U0 T U) (h72 : n ≤ 72) (hnp : np ≤ 40) (hp : p < np) : En n np nt T0 U0 (st (st T 79 (74 + p) k) 79 (114 + p) l) (st (st U 10 p k) 11 p l) := by
  refine ⟨(h.cf.w (by unfold cdy; omega)).w (by unfold cdy; omega), (h.mf.w (by unfold mdy; omega)).w (by unfold mdy; omega), ?_, ?_, ⟨?_, fun i => ?_⟩, ?_⟩
  · rw [st_row _ _ _ _ (by decide), st_row _ _ _ _ (by decide)]
    refine h.w.pnt (k := k) (l := l) h72 hnp hp (fun j hj => ?_) (fun j => ?_)
    · rw [svw_l (by omega) j hj, svw_s (by omega) j hj]
      by_cases c1 : j = 1080 + 2 * p
      · rw [if_neg (by omega), if_pos c1, if_pos c1]
      · rw [if_neg c1, if_neg c1]
    · rw [st_at, if_pos rfl, st_at, if_pos rfl]
      by_cases c1 : j = 74 + p
      · rw [if_neg (by omega), if_pos c1, if_pos c1]
      · rw [if_neg c1, if_neg c1]
  · rw [st_row _ _ _ _ (by decide), st_row _ _ _ _ (by decide)]; exact h.hB
  · rw [st_row _ _ _ _ (by decide), st_row _ _ _ _ (by decide), st_row _ _ _ _ (by decide), st_row _ _ _ _ (by decide)]; exact h.te.n
  · rw [st_row _ _ _ _ (by decide), st_row _ _ _ _ (by decide), st_row _ _ _ _ (by decide), st_row _ _ _ _ (by decide)]; exact h.te.r i
  · rw [st_row _ _ _ _ (by decide), st_row _ _ _ _ (by decide), st_row _ _ _ _ (by decide), st_row _ _ _ _ (by decide)]; exact h.sr
theorem set_en {n np nt : Nat} {T U : SS} {p : Nat} {k l : Int32} (b : Bo n np nt T U) (hp : p < np) : En n np nt T U (st (st T 79 (74 + p) k) 79 (114 + p) l) (st (st U 10 p k) 11 p l) := (b.en (Qz.rf b)).set b.s.n72 b.s.np40 hp
theorem set_bo {n np nt : Nat} {T U : SS} {p k : Nat} {l : Int32} (b : Bo n np nt T U) (hp : p < np) (hk : k ≤ 2) : Bo n np nt (st (st T 79 (74 + p) (nI k)) 79 (114 + p) l) (st (st U 10 p (nI k)) 11 p l) := by
  have e := set_en (k := nI k) (l := l) b hp
  have r : ∀ j, j ≠ 10 → j ≠ 11 → (st (st U 10 p (nI k)) 11 p l).1 j = U.1 j := fun j a c => by rw [st_row _ _ _ _ c, st_row _ _ _ _ a]
  refine ⟨b.s.cm e.cf e.mf, ?_, ?_, e.te.n, e.te.r, e.sr, fun q hq => ?_, ?_, ?_, ?_⟩
  · have := e.w; rw [r 3 (by decide) (by decide), r 18 (by decide) (by decide)]; exact this
  · rw [r 22 (by decide) (by decide)]; exact b.lk
  · rw [st_row _ _ _ _ (by decide), st_at, if_pos rfl]
    by_cases c : q = p
    · rw [if_pos c]; exact ⟨k, hk, rfl⟩
    · rw [if_neg c]; exact b.pb q hq
  · rw [r 23 (by decide) (by decide)]; exact b.ac
  · rw [r 27 (by decide) (by decide)]; exact b.dg
  · rw [r 26 (by decide) (by decide)]; exact b.jm
theorem st_comm (S : SS) {k k' : Nat} (i i' : Nat) (v v' : Int32) (h : k ≠ k') : st (st S k i v) k' i' v' = st (st S k' i' v') k i v := by
  refine Prod.ext (funext fun a => funext fun b => ?_) rfl
  rw [st_at, st_at, st_at, st_at]
  by_cases c : a = k'
  · rw [if_pos c, if_pos c, if_neg (show ¬ a = k by omega), if_neg (show ¬ a = k by omega)]
  · rw [if_neg c, if_neg c]
theorem st_same (S : SS) (k i : Nat) : st S k i (S.1 k i) = S := by
  show ((fun a => if a = k then upd (S.1 k) i (S.1 k i) else S.1 a, S.2) : SS) = S
  refine Prod.ext (funext fun a => ?_) rfl
  show (if a = k then upd (S.1 k) i (S.1 k i) else S.1 a) = S.1 a
  by_cases c : a = k
  · rw [if_pos c, c]
    have e := st_self S k i (S.1 k i)
    funext b
    rw [← e, st_at, if_pos rfl]
    by_cases d : b = i
    · rw [if_pos d, d]
    · rw [if_neg d]
  · rw [if_neg c]
theorem turn_body {n np nt : Nat} {T U V S2 : SS} {a1 a2 rc r2 : Int32} (b : Bo n np nt T U) (h1 : f_Routes_turnPoint a1 a2 T = some (rc, V))
    (h2 : bnd (f_M_missTurn a1 a2 U) (fun r4 S3 => bnd (f_M_ends r4 S3) (fun r6 S5 => if r6 = 0 then grd (inb a1 40) (nm (S5.1 10 a1.toNatClampNeg) (fun z7 => grd (inb a1 40) (wr S5 10 a1.toNatClampNeg a2 (fun S8 => bnd (f_M_entered (3 : Int32) z7 S8) (fun r10 S9 => some (r10, S9)))))) else bnd (f_M_entered (3 : Int32) (-2 : Int32) S5) (fun r12 S11 => some (r12, S11)))) = some (r2, S2)) : ∃ W, bnd (f_M_entered 3 rc W) (fun r S => some (r, S)) = some (r2, S2) ∧ En n np nt T U V W := by
  have hnp := b.s.np40
  replace h2 := bnd_i h2
  obtain ⟨r4, S3, m1, h2⟩ := h2
  replace h2 := bnd_i h2
  obtain ⟨r6, S5, m2, h2⟩ := h2
  rw [f_Routes_turnPoint.eq_1] at h1
  rw [f_M_missTurn.eq_1] at m1
  have no : ∀ (x3 x4 : Int32) (T' : SS), Qc T T' → Qm U S3 → ¬ x3 = 0 → ¬ r4 = 0 → f_Routes_turnPoint_j50 a1 a2 x3 x4 T' = some (rc, V) → ∃ W, bnd (f_M_entered 3 rc W) (fun r S => some (r, S)) = some (r2, S2) ∧ En n np nt T U V W := fun x3 x4 T' qc qm hx hr h1 => by
    rw [f_Routes_turnPoint_j50.eq_1, if_neg hx] at h1
    replace h1 := bnd_i h1
    obtain ⟨r9, V9, l, h1⟩ := h1
    obtain ⟨rfl, rfl⟩ := so_i h1
    obtain ⟨rfl, qf⟩ := fnd_c l
    rcases ends_i m2 with ⟨q, -, -⟩ | ⟨-, q6, q5⟩
    · exact absurd q hr
    · rw [if_neg q6] at h2
      exact ⟨S5, h2, b.en (Qz.of b.te (qc.tr qf) (qm.tr q5))⟩
  rcases pt_al b a1 with ⟨p, hp, rfl, c1, c2⟩ | ⟨r, hr, c1, c2⟩
  · obtain ⟨e, he, ee⟩ := b.s.pe p hp
    have hnt := b.s.nt24
    have el := b.s.lm e (by omega)
    obtain ⟨m, hm, em⟩ := el
    rw [c1, bnd_r, if_pos rfl, c_hasLink b hp ee (by omega), bnd_r] at h1
    rw [c2, bnd_r, if_pos rfl] at m1
    have j24 : ∀ x3 : Int32, f_Routes_turnPoint_j24 (nI p) a2 x3 T = some (rc, V) → (if x3 = 0 then if U.1 10 p = a2 then f_Routes_turnPoint_j50 (nI p) a2 x3 (U.1 10 p) T else bnd (f_Routes_turnFinding (nI p) T) (fun r11 S10 => f_Routes_turnPoint_j50 (nI p) a2 r11 (U.1 10 p) S10) else f_Routes_turnPoint_j50 (nI p) a2 x3 (U.1 10 p) T) = some (rc, V) := fun x3 q => by
      rw [f_Routes_turnPoint_j24.eq_1, c_setting b hp, bnd_r] at q; exact q
    have bad : (if a2 < 0 then (0 : Int32) else if U.1 6 e ≤ a2 then 0 else 1) = 0 → r4 = 3 ∧ S3 = U → ∃ W, bnd (f_M_entered 3 rc W) (fun r S => some (r, S)) = some (r2, S2) ∧ En n np nt T U V W := fun q z => by
      rw [if_pos q] at h1
      replace h1 := j24 3 h1
      rw [if_neg (by decide)] at h1
      obtain ⟨rfl, rfl⟩ := z
      exact no 3 _ T Qc.rf Qm.rf (by decide) (by decide) h1
    by_cases k0 : a2 < 0
    · rw [if_pos k0] at m1
      obtain ⟨rfl, rfl⟩ := so_i m1
      exact bad (by rw [if_pos k0]) ⟨rfl, rfl⟩
    · rw [if_neg k0, grT (inb_nI (by omega) (by omega)), nI_clamp (by omega), ee, grT (inb_nI (by omega) (by omega)), nI_clamp (by omega)] at m1
      by_cases k1 : a2 < U.1 6 e
      · have k1' : ¬ U.1 6 e ≤ a2 := fun z => by rw [Int32.le_iff_toInt_le] at z; rw [Int32.lt_iff_toInt_lt] at k1; omega
        rw [if_pos k1, grT (inb_nI (by omega) (by omega))] at m1
        rw [if_neg k0, if_neg k1', if_neg (by decide)] at h1
        replace h1 := j24 0 h1
        rw [if_pos rfl] at h1
        -- what both do when it may be turned
        have yes : ∀ U', Qm U U' → S3 = U' → r4 = 0 → f_Routes_turnPoint_j50 (nI p) a2 0 (U.1 10 p) T = some (rc, V) → ∃ W, bnd (f_M_entered 3 rc W) (fun r S => some (r, S)) = some (r2, S2) ∧ En n np nt T U V W := fun U' qm e3 er h1 => by
          subst e3 er
          rcases ends_i m2 with ⟨-, q6, q5⟩ | ⟨q, -, -⟩
          · subst q6 q5
            have bq := b.q (Qz.of b.te Qc.rf qm)
            have e10 : S5.1 10 = U.1 10 := qm.r 10 (by decide) (by decide) (by decide) (by decide) (by decide) (by decide)
            have e11 : S5.1 11 = U.1 11 := qm.r 11 (by decide) (by decide) (by decide) (by decide) (by decide) (by decide)
            rw [if_pos rfl, grT (inb_nI (by omega) (by omega)), nmR, grT (inb_nI (by omega) (by omega)), wr_r, nI_clamp (by omega), e10] at h2
            rw [f_Routes_turnPoint_j50.eq_1, if_pos rfl, c_locker b hp, bnd_r, c_setPt (by omega), bndv_r] at h1
            obtain ⟨rfl, rfl⟩ := so_i h1
            have g := set_en (k := a2) (l := U.1 11 p) bq hp
            have e : st (st S5 10 p a2) 11 p (U.1 11 p) = st S5 10 p a2 := by
              have := st_same (st S5 10 p a2) 11 p
              rw [st_row _ _ _ _ (by decide), e11] at this
              exact this
            rw [e] at g
            exact ⟨_, h2, En.q (Qz.of b.te Qc.rf qm) g⟩
          · exact absurd rfl q
        by_cases k2 : U.1 10 p = a2
        · rw [if_pos k2] at h1
          rw [if_pos k2] at m1
          obtain ⟨rfl, rfl⟩ := so_i m1
          exact yes _ Qm.rf rfl rfl h1
        · rw [if_neg k2] at h1
          rw [if_neg k2, grT (inb_nI (by omega) (by omega)), wr_r, grT (inb_nI (by omega) (by omega)), st_row _ _ _ _ (by decide)] at m1
          have q3 : Qm U (st U 0 3 (U.1 11 p)) := Qm.rf.wf (by omega)
          replace h1 := bnd_i h1
          obtain ⟨r11, S10, l1, h1⟩ := h1
          rw [f_Routes_turnFinding.eq_1, c_locker b hp, bnd_r] at l1
          by_cases k3 : U.1 11 p = -4
          · rw [if_pos k3] at l1 m1
            replace l1 := bnd_i l1
            obtain ⟨ru, Vu, u1, l1⟩ := l1
            replace m1 := bnd_i m1
            obtain ⟨rv, Uv, u2, m1⟩ := m1
            obtain ⟨rfl, rfl, rfl⟩ := und_al (b.q (Qz.of b.te Qc.rf q3)) hp u1 u2
            by_cases k4 : rv = 0
            · rw [if_pos k4] at l1 m1
              obtain ⟨rfl, rfl⟩ := so_i l1
              obtain ⟨rfl, rfl⟩ := so_i m1
              exact yes _ q3 rfl rfl h1
            · rw [if_neg k4] at l1 m1
              obtain ⟨rfl, rfl⟩ := so_i l1
              obtain ⟨rfl, rfl⟩ := so_i m1
              exact no 12 _ _ Qc.rf q3 (by decide) (by decide) h1
          · rw [if_neg k3, c_locker b hp, bnd_r, f_Routes_lockedFinding.eq_1, wr_r, bnd_r] at l1
            rw [if_neg k3] at m1
            obtain ⟨rfl, rfl⟩ := so_i l1
            obtain ⟨rfl, rfl⟩ := so_i m1
            exact no 11 _ _ (Qc.rf.w (by omega)) q3 (by decide) (by decide) h1
      · have k1' : U.1 6 e ≤ a2 := by rw [Int32.le_iff_toInt_le]; rw [Int32.lt_iff_toInt_lt] at k1; omega
        rw [if_neg k1] at m1
        obtain ⟨rfl, rfl⟩ := so_i m1
        exact bad (by rw [if_neg k0, if_pos k1']) ⟨rfl, rfl⟩
  · rw [c1, bnd_r, if_neg hr, f_Routes_turnPoint_j24.eq_1] at h1
    replace h1 := bnd_i h1
    obtain ⟨r5, T5, l1, h1⟩ := h1
    have := set_rd l1
    subst this
    rw [if_neg hr] at h1
    rw [c2, bnd_r, if_neg hr] at m1
    obtain ⟨rfl, rfl⟩ := so_i m1
    exact no _ _ _ Qc.rf Qm.rf hr hr h1
theorem turn_st {n np nt L : Nat} {S S1 S2 : SS} {a1 a2 r1 r2 : Int32} (h : Dz n np nt L S) (hL : L < 600) (hW : WR S) (hW1 : WR S1) (hW2 : WR S2) (z : Fz S S1 S2) (e1 : f_Yard_turn a1 a2 S = some (r1, S1)) (e2 : f_M_turn a1 a2 S1 = some (r2, S2)) : Az n np nt L r1 r2 S2 := by
  rw [f_Yard_turn.eq_1] at e1
  rw [f_M_turn.eq_1] at e2
  exact act_al h hL hW hW1 hW2 z (fun T U V rc b _ _ g1 g2 => turn_body b g1 g2) e1 e2
/-! ===== ROUTES: lock, free ===== -/
theorem rt_al {n np nt : Nat} {T U : SS} (b : Bo n np nt T U) (a : Int32) : (∃ r m, r < 12 ∧ a = nI r ∧ m ≤ 8 ∧ U.1 12 r = nI m ∧ f_Routes_entriesOf a T = some (nI m, T) ∧ f_Routes_routeFinding a T = some (0, T) ∧ f_M_missRoute a U = some (0, U)) ∨ (∃ r, ¬ r = 0 ∧ f_Routes_routeFinding a T = some (r, T) ∧ f_M_missRoute a U = some (r, U)) := by
  obtain ⟨R, hR, eR, -⟩ := b.s.r19
  rw [f_Routes_routeFinding.eq_1, f_M_missRoute.eq_1, b.s.er, eR]
  by_cases c0 : a < 0
  · rw [if_pos c0, if_pos c0]; exact Or.inr ⟨3, by decide, rfl, rfl⟩
  · rw [if_neg c0, if_neg c0]
    by_cases c1 : a < (12 : Int32)
    · rw [if_pos c1, if_pos c1]
      obtain ⟨r, hr, rfl⟩ := lt_e (k := 12) (by omega) c0 c1
      by_cases d : r < R
      · rw [if_neg (nI_ge d (by omega)), if_pos ((nI_ltJ (by omega) (by omega)).mpr d)]
        obtain ⟨m, hm, em⟩ := b.s.en r hr
        refine Or.inl ⟨r, m, hr, rfl, hm, em, ?_, rfl, rfl⟩
        rw [f_Routes_entriesOf.eq_1, if_neg c0, b.s.er, eR, if_neg (nI_ge d (by omega)), grT (inb_nI hr (by omega)), nI_clamp (by omega), b.s.e12, em]
      · rw [if_pos (nI_le (by omega) (by omega)), if_neg (fun z => d ((nI_ltJ (by omega) (by omega)).mp z))]
        exact Or.inr ⟨1, by decide, rfl, rfl⟩
    · rw [if_neg c1, if_neg c1]; exact Or.inr ⟨3, by decide, rfl, rfl⟩
/-- whether an ENTRY may be locked -/
theorem lf_al {n np nt : Nat} {T U V W : SS} {j p l : Nat} {r r' : Int32} (b : Bo n np nt T U) (hj : j < 96) (hp : p < np) (e13 : U.1 13 j = nI p) (e14 : U.1 14 j = nI l) (hl : l ≤ 2) (h1 : f_Routes_lockFinding (nI p) (nI l) T = some (r, V)) (h2 : f_M_missEntry (nI j) U = some (r', W)) : r' = r ∧ Qc T V ∧ Qm U W ∧ V.1 103 = T.1 103 ∧ W.1 43 = U.1 43 := by
  have hnp := b.s.np40
  have hnt := b.s.nt24
  obtain ⟨e, he, ee⟩ := b.s.pe p hp
  rw [f_Routes_lockFinding.eq_1, c_locker b hp, bnd_r] at h1
  rw [f_M_missEntry.eq_1, grT (inb_nI hj (by omega)), nmR, grT (inb_nI hj (by omega)), nmR, nI_clamp (by omega), e13, e14, grT (inb_nI (by omega) (by omega)), nI_clamp (by omega)] at h2
  by_cases c : U.1 11 p = -4
  · rw [if_pos c, c_hasLink b hp ee (by omega), bnd_r, if_neg (nI_nn (by omega))] at h1
    rw [if_pos c, grT (inb_nI (by omega) (by omega)), ee, grT (inb_nI (by omega) (by omega)), nI_clamp (by omega)] at h2
    by_cases d : U.1 6 e ≤ nI l
    · rw [if_pos d, if_pos rfl] at h1
      rw [if_neg (fun z => by rw [Int32.le_iff_toInt_le] at d; rw [Int32.lt_iff_toInt_lt] at z; omega)] at h2
      obtain ⟨rfl, rfl⟩ := so_i h1
      obtain ⟨rfl, rfl⟩ := so_i h2
      exact ⟨rfl, Qc.rf, Qm.rf, rfl, rfl⟩
    · rw [if_neg d, if_neg (by decide), c_setting b hp, bnd_r] at h1
      rw [if_pos (by rw [Int32.le_iff_toInt_le] at d; rw [Int32.lt_iff_toInt_lt]; omega), grT (inb_nI (by omega) (by omega))] at h2
      by_cases g : U.1 10 p = nI l
      · rw [if_pos g] at h1 h2
        obtain ⟨rfl, rfl⟩ := so_i h1
        obtain ⟨rfl, rfl⟩ := so_i h2
        exact ⟨rfl, Qc.rf, Qm.rf, rfl, rfl⟩
      · rw [if_neg g] at h1 h2
        replace h1 := bnd_i h1
        obtain ⟨r8, V8, l1, h1⟩ := h1
        replace h2 := bnd_i h2
        obtain ⟨r4, W4, l2, h2⟩ := h2
        obtain ⟨rfl, rfl, rfl⟩ := und_al b hp l1 l2
        by_cases q : r4 = 0
        · rw [if_pos q] at h1 h2
          obtain ⟨rfl, rfl⟩ := so_i h1
          obtain ⟨rfl, rfl⟩ := so_i h2
          exact ⟨rfl, Qc.rf, Qm.rf, rfl, rfl⟩
        · rw [if_neg q] at h1 h2
          obtain ⟨rfl, rfl⟩ := so_i h1
          obtain ⟨rfl, rfl⟩ := so_i h2
          exact ⟨rfl, Qc.rf, Qm.rf, rfl, rfl⟩
  · rw [if_neg c, c_locker b hp, bnd_r, f_Routes_lockedFinding.eq_1, wr_r, bnd_r] at h1
    rw [if_neg c, grT (inb_nI (by omega) (by omega)), wr_r] at h2
    obtain ⟨rfl, rfl⟩ := so_i h1
    obtain ⟨rfl, rfl⟩ := so_i h2
    exact ⟨rfl, Qc.rf.w (by omega), Qm.rf.wf (by omega), by rw [st_row _ _ _ _ (by decide)], by rw [st_row _ _ _ _ (by decide)]⟩
/-- what was locked is given back -/
theorem gb_al {n np nt r k m : Nat} {T0 U0 V S2 : SS} {x4 r2 : Int32} (hs : Sta n np nt T0 U0) (hr : r < 12) (em : U0.1 12 r = nI m) (hm : m ≤ 8) (hk : k ≤ m) : ∀ (N M i : Nat) (T U : SS), En n np nt T0 U0 T U → (∀ j, j < k → T.1 103 j = U.1 43 j) → i ≤ k → f_Routes_giveBack_L2 N (nI (8 * r)) (nI k) (nI i) T = some V → f_M_lock_L72 M (nI r) (nI k) x4 (nI i) U = some (r2, S2) → ∃ W, En n np nt T0 U0 V W ∧ bnd (f_M_found x4 W) (fun r17 S16 => bnd (f_M_entered (4 : Int32) (-2 : Int32) S16) (fun r19 S18 => some (r19, S18))) = some (r2, S2)
  | 0, M, i, T, U, _, _, _, h1, h2 => by cases h1
  | N + 1, 0, i, T, U, _, _, _, h1, h2 => by cases h2
  | N + 1, M + 1, i, T, U, en, hb, hi, h1, h2 => by
    rw [f_Routes_giveBack_L2.eq_2] at h1
    rw [f_M_lock_L72.eq_2] at h2
    by_cases c : i = k
    · subst c
      rw [if_pos (nI_le (by omega) (by omega))] at h1 h2
      injection h1 with h1
      subst h1
      exact ⟨U, en, h2⟩
    · have s := hs.cm en.cf en.mf
      have hnp := s.np40
      have e12 : U.1 12 = U0.1 12 := en.mf.r 12 (by decide) (by unfold mdy; omega)
      obtain ⟨⟨p, hp, ep⟩, -⟩ := s.ep r i m hr (by rw [e12]; exact em) hm (by omega)
      have lt : ¬ nI k ≤ nI i := fun z => by have := (n_leJ (by omega) (by omega)).mp z; omega
      rw [if_neg lt, nI_add, grT (inb_nI (by omega) (by omega)), grT (inb_nI (by omega) (by omega)), nI_clamp (by omega), nI_clamp (by omega), s.e13, ep, c_setPt (by omega), bndv_r, nmR, nI_1, hb i (by omega)] at h1
      rw [if_neg lt, show (8 : Int32) * nI r = nI (8 * r) from nI_mul 8 r, nI_add, grT (inb_nI (by omega) (by omega)), nI_clamp (by omega), ep, grT (inb_nI (by omega) (by omega)), wr_r, grT (inb_nI (by omega) (by omega)), grT (inb_nI (by omega) (by omega)), st_row _ _ _ _ (by decide), ep, grT (inb_nI (by omega) (by omega)), wr_r, nmR, nI_1, nI_clamp (by omega), nI_clamp (by omega), st_row _ _ _ _ (by decide), st_comm _ _ _ _ _ (by decide)] at h2
      refine gb_al hs hr em hm hk N M (i + 1) _ _ (en.set (k := U.1 43 i) (l := -4) s.n72 hnp hp) (fun j hj => ?_) (by omega) h1 h2
      rw [st_row _ _ _ _ (by decide), st_row _ _ _ _ (by decide), st_row _ _ _ _ (by decide), st_row _ _ _ _ (by decide)]
      exact hb j hj
theorem lk_al {n np nt r m : Nat} {T0 U0 V S2 : SS} {rc r2 : Int32} (hr : r < 12) (em : U0.1 12 r = nI m) (hm : m ≤ 8) (hs : Sta n np nt T0 U0) : ∀ (N M k : Nat) (T U : SS), Bo n np nt T U → En n np nt T0 U0 T U → (∀ j, j < k → T.1 103 j = U.1 43 j) → k ≤ m → f_Routes_lockAll_L34 N (nI r) (nI m) (nI (8 * r)) (nI k) T = some (rc, V) → f_M_lock_L30 M (nI r) (nI k) U = some (r2, S2) → ∃ W, bnd (f_M_entered 4 rc W) (fun r S => some (r, S)) = some (r2, S2) ∧ En n np nt T0 U0 V W
  | 0, M, k, T, U, _, _, _, _, h1, h2 => by cases h1
  | N + 1, 0, k, T, U, _, _, _, _, h1, h2 => by cases h2
  | N + 1, M + 1, k, T, U, b, en, hb, hk, h1, h2 => by
    have hnp := b.s.np40
    have em' : U.1 12 r = nI m := by rw [en.mf.r 12 (by decide) (by unfold mdy; omega)]; exact em
    rw [f_Routes_lockAll_L34.eq_2] at h1
    rw [f_M_lock_L30.eq_2, grT (inb_nI hr (by omega)), nI_clamp (n := r) (by omega), em'] at h2
    by_cases c : k = m
    · subst c
      rw [if_pos (nI_le (by omega) (by omega))] at h1 h2
      replace h2 := grd_i h2
      obtain ⟨-, h2⟩ := h2
      obtain ⟨rfl, rfl⟩ := so_i h1
      exact ⟨U, h2, en⟩
    · obtain ⟨⟨p, hp, ep⟩, l, hl, el⟩ := b.s.ep r k m hr em' hm (by omega)
      have lt : ¬ nI m ≤ nI k := fun z => by have := (n_leJ (by omega) (by omega)).mp z; omega
      rw [if_neg lt, nI_add, grT (inb_nI (by omega) (by omega)), nmR, nI_clamp (n := 8 * r + k) (by omega), grT (inb_nI (by omega) (by omega)), b.s.e13, ep, b.s.e14, el] at h1
      rw [if_neg lt, show (8 : Int32) * nI r = nI (8 * r) from nI_mul 8 r, nI_add, grT (inb_nI (by omega) (by omega)), nmR, nI_clamp (n := 8 * r + k) (by omega), ep] at h2
      replace h1 := bnd_i h1
      obtain ⟨r8, S7, l1, h1⟩ := h1
      replace h2 := bnd_i h2
      obtain ⟨r11, S10, l2, h2⟩ := h2
      obtain ⟨rfl, qc, qm, k3, k4⟩ := lf_al b (by omega) hp ep el hl l1 l2
      have q := Qz.of b.te qc qm
      have b1 := b.q q
      have en1 : En n np nt T0 U0 S7 S10 := by
        refine ⟨en.cf.tr q.cf, en.mf.tr q.mf, ?_, ?_, q.te, b1.sr⟩
        · have := b1.w; rw [q.mf.r 3 (by decide) (by unfold mdy; omega), q.mf.r 18 (by decide) (by unfold mdy; omega), en.mf.r 3 (by decide) (by unfold mdy; omega), en.mf.r 18 (by decide) (by unfold mdy; omega)] at this; exact this
        · rw [q.f7 47 (by omega)]; exact en.hB
      by_cases g : r11 = 0
      · rw [if_pos g, c_setting b1 hp, bnd_r, grT (inb_nI (by omega) (by omega)), wr_r, grT (inb_nI (by omega) (by omega)), nI_clamp (n := k) (by omega), st_row _ _ _ _ (by decide), b1.s.e14, qm.r 14 (by decide) (by decide) (by decide) (by decide) (by decide) (by decide), el, c_setPt (by omega), bndv_r, nmR, nI_1] at h1
        rw [if_pos g, grT (inb_nI (by omega) (by omega)), grT (inb_nI (by omega) (by omega)), wr_r, grT (inb_nI (by omega) (by omega)), grT (inb_nI (by omega) (by omega)), wr_r, grT (inb_nI (by omega) (by omega)), wr_r, nmR, nI_1, nI_clamp (n := k) (by omega), nI_clamp (n := p) (by omega), st_row _ _ _ _ (by decide), qm.r 14 (by decide) (by decide) (by decide) (by decide) (by decide) (by decide), el] at h2
        have q2 : Qz S7 S10 (st S7 103 k (S10.1 10 p)) (st S10 43 k (S10.1 10 p)) := Qz.of b1.te (Qc.rf.w (by omega)) (Qm.rf.w (by omega))
        have b2 := b1.q q2
        have en2 : En n np nt T0 U0 (st S7 103 k (S10.1 10 p)) (st S10 43 k (S10.1 10 p)) := by
          refine ⟨en1.cf.tr q2.cf, en1.mf.tr q2.mf, ?_, ?_, q2.te, b2.sr⟩
          · have := b2.w; rw [q2.mf.r 3 (by decide) (by unfold mdy; omega), q2.mf.r 18 (by decide) (by unfold mdy; omega), en1.mf.r 3 (by decide) (by unfold mdy; omega), en1.mf.r 18 (by decide) (by unfold mdy; omega)] at this; exact this
          · rw [q2.f7 47 (by omega)]; exact en1.hB
        refine lk_al hr em hm hs N M (k + 1) _ _ (set_bo b2 hp hl) (en2.set b.s.n72 hnp hp) (fun j hj => ?_) (by omega) h1 h2
        rw [st_row _ 79 _ _ (by decide), st_row _ 79 _ _ (by decide), st_row _ 11 _ _ (by decide), st_row _ 10 _ _ (by decide), st_at, st_at, if_pos rfl, if_pos rfl]
        by_cases d : j = k
        · rw [if_pos d, if_pos d]
        · rw [if_neg d, if_neg d, k3, k4]; exact hb j (by omega)
      · rw [if_neg g] at h1 h2
        replace h1 := bndv_i h1
        obtain ⟨V1, l3, h1⟩ := h1
        rw [f_Routes_giveBack.eq_1] at l3
        obtain ⟨W1, en2, h2⟩ := gb_al hs hr em hm hk NF NF 0 _ _ en1 (fun j hj => by rw [k3, k4]; exact hb j hj) (by omega) l3 h2
        replace h1 := bnd_i h1
        obtain ⟨r16, V2, l4, h1⟩ := h1
        obtain ⟨rfl, rfl⟩ := so_i h1
        obtain ⟨rfl, qf⟩ := fnd_c l4
        replace h2 := bnd_i h2
        obtain ⟨r17, W2, l5, h2⟩ := h2
        obtain ⟨-, qg⟩ := fnd_m l5
        have q3 := Qz.of en2.te qf qg
        refine ⟨W2, h2, en2.cf.tr q3.cf, en2.mf.tr q3.mf, ?_, ?_, q3.te, ?_⟩
        · rw [q3.f7 47 (by omega), q3.svE, q3.c79]; exact en2.w
        · rw [q3.f7 47 (by omega)]; exact en2.hB
        · rw [q3.c68, q3.f7 49 (by omega)]; exact en2.sr
theorem lock_body {n np nt : Nat} {T U V S2 : SS} {a1 rc r2 : Int32} (b : Bo n np nt T U) (h1 : f_Routes_lockAll a1 T = some (rc, V))
    (h2 : bnd (f_M_missRoute a1 U) (fun r4 S3 => bnd (f_M_ends r4 S3) (fun r6 S5 => if r6 = 0 then f_M_lock_L30 NF a1 (0 : Int32) S5 else bnd (f_M_entered (4 : Int32) (-2 : Int32) S5) (fun r24 S23 => some (r24, S23)))) = some (r2, S2)) : ∃ W, bnd (f_M_entered 4 rc W) (fun r S => some (r, S)) = some (r2, S2) ∧ En n np nt T U V W := by
  rw [f_Routes_lockAll.eq_1] at h1
  rcases rt_al b a1 with ⟨r, m, hr, rfl, hm, em, ce, c1, c2⟩ | ⟨r, hr, c1, c2⟩
  · rw [c1, bnd_r, if_pos rfl, ce, bnd_r, nmR, show (8 : Int32) * nI r = nI (8 * r) from nI_mul 8 r] at h1
    rw [c2, bnd_r, ends_0, bnd_r, if_pos rfl] at h2
    exact lk_al hr em hm b.s NF NF 0 T U b (b.en (Qz.rf b)) (fun j hj => by omega) (by omega) h1 h2
  · rw [c1, bnd_r, if_neg hr] at h1
    replace h1 := bnd_i h1
    obtain ⟨q, V1, l, h1⟩ := h1
    obtain ⟨rfl, rfl⟩ := so_i h1
    obtain ⟨rfl, qf⟩ := fnd_c l
    rw [c2, bnd_r] at h2
    replace h2 := bnd_i h2
    obtain ⟨r6, S5, m2, h2⟩ := h2
    rcases ends_i m2 with ⟨z, -, -⟩ | ⟨-, q6, q5⟩
    · exact absurd z hr
    · rw [if_neg q6] at h2
      exact ⟨S5, h2, b.en (Qz.of b.te qf q5)⟩
theorem lock_st {n np nt L : Nat} {S S1 S2 : SS} {a1 r1 r2 : Int32} (h : Dz n np nt L S) (hL : L < 600) (hW : WR S) (hW1 : WR S1) (hW2 : WR S2) (z : Fz S S1 S2) (e1 : f_Yard_lock a1 S = some (r1, S1)) (e2 : f_M_lock a1 S1 = some (r2, S2)) : Az n np nt L r1 r2 S2 := by
  rw [f_Yard_lock.eq_1] at e1
  rw [f_M_lock.eq_1] at e2
  exact act_al h hL hW hW1 hW2 z (fun T U V rc b _ _ g1 g2 => lock_body b g1 g2) e1 e2
/-- how many POINTS a ROUTE locks, from p on -/
def cnF (f : Nat → Int32) (a : Int32) : Nat → Nat → Nat
  | 0, _ => 0
  | m + 1, p => (if f p = a then 1 else 0) + cnF f a m (p + 1)
theorem cnF_le (f : Nat → Int32) (a : Int32) : ∀ m p, cnF f a m p ≤ m
  | 0, _ => Nat.le_refl _
  | m + 1, p => by
    have := cnF_le f a m (p + 1)
    show (if f p = a then 1 else 0) + cnF f a m (p + 1) ≤ m + 1
    split <;> omega
theorem c_lockedBy_L {n np nt : Nat} {T U : SS} (b : Bo n np nt T U) (a : Int32) : ∀ (N s p : Nat) (r : Int32) (V : SS), p ≤ np → f_Routes_lockedBy_L4 N a (nI s) (nI p) T = some (r, V) → V = T ∧ r = nI (s + cnF (U.1 11) a (np - p) p)
  | 0, s, p, r, V, _, h => by cases h
  | N + 1, s, p, r, V, hp, h => by
    have hnp := b.s.np40
    rw [f_Routes_lockedBy_L4.eq_2, b.s.cp] at h
    by_cases c : p = np
    · subst c
      rw [if_pos (nI_le (by omega) (by omega))] at h
      rw [Nat.sub_self]
      exact ⟨(so_i h).2, (so_i h).1⟩
    · rw [if_neg (nI_ge (by omega) (by omega)), c_locker b (by omega), bnd_r] at h
      rw [show np - p = (np - (p + 1)) + 1 by omega]
      show V = T ∧ r = nI (s + ((if U.1 11 p = a then 1 else 0) + cnF (U.1 11) a (np - (p + 1)) (p + 1)))
      by_cases d : U.1 11 p = a
      · rw [if_pos d, nmR, nI_1, f_Routes_lockedBy_j30.eq_1, nmR, nI_1] at h
        obtain ⟨g1, g2⟩ := c_lockedBy_L b a N (s + 1) (p + 1) r V (by omega) h
        exact ⟨g1, by rw [g2, if_pos d]; exact congrArg nI (by omega)⟩
      · rw [if_neg d, f_Routes_lockedBy_j30.eq_1, nmR, nI_1] at h
        obtain ⟨g1, g2⟩ := c_lockedBy_L b a N s (p + 1) r V (by omega) h
        exact ⟨g1, by rw [g2, if_neg d]; exact congrArg nI (by omega)⟩
theorem fr_al {n np nt : Nat} {T0 U0 V S2 : SS} {a rc r2 : Int32} : ∀ (N M s p : Nat) (T U : SS), Bo n np nt T U → En n np nt T0 U0 T U → p ≤ np → f_Routes_freeAll_L28 N a (nI (s + cnF (U.1 11) a (np - p) p)) (nI p) T = some (rc, V) → f_M_free_L32 M a (nI s) (nI p) U = some (r2, S2) → ∃ W, bnd (f_M_entered 5 rc W) (fun r S => some (r, S)) = some (r2, S2) ∧ En n np nt T0 U0 V W
  | 0, M, s, p, T, U, _, _, _, h1, h2 => by cases h1
  | N + 1, 0, s, p, T, U, _, _, _, h1, h2 => by cases h2
  | N + 1, M + 1, s, p, T, U, b, en, hp, h1, h2 => by
    have hnp := b.s.np40
    rw [f_Routes_freeAll_L28.eq_2, b.s.cp] at h1
    rw [f_M_free_L32.eq_2, b.s.mp] at h2
    by_cases c : p = np
    · subst c
      rw [if_pos (nI_le (by omega) (by omega))] at h1 h2
      rw [Nat.sub_self] at h1
      obtain ⟨rfl, rfl⟩ := so_i h1
      exact ⟨U, h2, en⟩
    · have hpn : p < np := by omega
      rw [if_neg (nI_ge (by omega) (by omega)), c_locker b hpn, bnd_r] at h1
      rw [if_neg (nI_ge (by omega) (by omega)), grT (inb_nI (by omega) (by omega)), nI_clamp (n := p) (by omega)] at h2
      have cs : cnF (U.1 11) a (np - p) p = (if U.1 11 p = a then 1 else 0) + cnF (U.1 11) a (np - (p + 1)) (p + 1) := by
        rw [show np - p = (np - (p + 1)) + 1 by omega]; rfl
      have cg : ∀ (v : Int32) (m q : Nat), p < q → cnF ((st U 11 p v).1 11) a m q = cnF (U.1 11) a m q := fun v m => by
        induction m with
        | zero => intro q _; rfl
        | succ m ih =>
          intro q hq
          show (if (st U 11 p v).1 11 q = a then 1 else 0) + _ = (if U.1 11 q = a then 1 else 0) + _
          rw [st_no (by omega), ih (q + 1) (by omega)]
      by_cases d : U.1 11 p = a
      · obtain ⟨k, hk, ek⟩ := b.pb p hpn
        rw [if_pos d, c_setting b hpn, bnd_r, c_setPt (by omega), bndv_r, f_Routes_freeAll_j73.eq_1, nmR, nI_1, cs, if_pos d, ek] at h1
        rw [if_pos d, f_M_free_j56.eq_1, nmR, grT (inb_nI (by omega) (by omega)), nI_clamp (n := p) (by omega), if_pos d, f_M_free_j84.eq_1, grT (inb_nI (by omega) (by omega)), wr_r, nmR, nI_1, nI_1, nI_clamp (n := p) (by omega)] at h2
        have e10 : st (st U 10 p (nI k)) 11 p (-4) = st U 11 p (-4) := by rw [← ek, st_same]
        have b2 := set_bo (l := -4) b hpn hk
        have n2 := en.set (k := nI k) (l := -4) b.s.n72 hnp hpn
        rw [e10] at b2 n2
        refine fr_al N M (s + 1) (p + 1) _ _ b2 n2 (by omega) ?_ h2
        rw [cg _ _ _ (by omega), show s + 1 + cnF (U.1 11) a (np - (p + 1)) (p + 1) = s + (1 + cnF (U.1 11) a (np - (p + 1)) (p + 1)) by omega]
        exact h1
      · rw [if_neg d, f_Routes_freeAll_j73.eq_1, nmR, nI_1, cs, if_neg d, Nat.zero_add] at h1
        rw [if_neg d, f_M_free_j56.eq_1, nmR, grT (inb_nI (by omega) (by omega)), nI_clamp (n := p) (by omega), if_neg d, grT (inb_nI (by omega) (by omega)), f_M_free_j84.eq_1, grT (inb_nI (by omega) (by omega)), wr_r, nmR, nI_1, nI_clamp (n := p) (by omega), st_same, show nI s + (0 : Int32) = nI (s + 0) from nI_add s 0, Nat.add_zero] at h2
        exact fr_al N M s (p + 1) T U b en (by omega) h1 h2
theorem free_body {n np nt : Nat} {T U V S2 : SS} {a1 rc r2 : Int32} (b : Bo n np nt T U) (h1 : f_Routes_freeAll a1 T = some (rc, V))
    (h2 : bnd (f_M_missRoute a1 U) (fun r4 S3 => bnd (f_M_ends r4 S3) (fun r6 S5 => if r6 = 0 then f_M_free_L32 NF a1 (0 : Int32) (0 : Int32) S5 else bnd (f_M_entered (5 : Int32) (-2 : Int32) S5) (fun r24 S23 => some (r24, S23)))) = some (r2, S2)) : ∃ W, bnd (f_M_entered 5 rc W) (fun r S => some (r, S)) = some (r2, S2) ∧ En n np nt T U V W := by
  rw [f_Routes_freeAll.eq_1] at h1
  rcases rt_al b a1 with ⟨r, m, hr, rfl, hm, em, ce, c1, c2⟩ | ⟨r, hr, c1, c2⟩
  · rw [c1, bnd_r, if_pos rfl] at h1
    rw [c2, bnd_r, ends_0, bnd_r, if_pos rfl] at h2
    replace h1 := bnd_i h1
    obtain ⟨r4, T4, l, h1⟩ := h1
    rw [f_Routes_lockedBy.eq_1] at l
    obtain ⟨rfl, rfl⟩ := c_lockedBy_L b (nI r) NF 0 0 r4 T4 (by omega) l
    exact fr_al NF NF 0 0 _ U b (b.en (Qz.rf b)) (by omega) h1 h2
  · rw [c1, bnd_r, if_neg hr] at h1
    replace h1 := bnd_i h1
    obtain ⟨q, V1, l, h1⟩ := h1
    obtain ⟨rfl, rfl⟩ := so_i h1
    obtain ⟨rfl, qf⟩ := fnd_c l
    rw [c2, bnd_r] at h2
    replace h2 := bnd_i h2
    obtain ⟨r6, S5, m2, h2⟩ := h2
    rcases ends_i m2 with ⟨z, -, -⟩ | ⟨-, q6, q5⟩
    · exact absurd z hr
    · rw [if_neg q6] at h2
      exact ⟨S5, h2, b.en (Qz.of b.te qf q5)⟩
theorem free_st {n np nt L : Nat} {S S1 S2 : SS} {a1 r1 r2 : Int32} (h : Dz n np nt L S) (hL : L < 600) (hW : WR S) (hW1 : WR S1) (hW2 : WR S2) (z : Fz S S1 S2) (e1 : f_Yard_free a1 S = some (r1, S1)) (e2 : f_M_free a1 S1 = some (r2, S2)) : Az n np nt L r1 r2 S2 := by
  rw [f_Yard_free.eq_1] at e1
  rw [f_M_free.eq_1] at e2
  exact act_al h hL hW hW1 hW2 z (fun T U V rc b _ _ g1 g2 => free_body b g1 g2) e1 e2
/-! ===== who is named, for a pair of worlds ===== -/
def thU (U : SS) (x : Nat) : Prop := ¬ U.1 19 x = 0
def kfU (U : SS) (x : Nat) : Nat := (U.1 18 x).toNatClampNeg
theorem Bo.thc {n np nt : Nat} {T U : SS} (b : Bo n np nt T U) : ∀ x, x < n → (T.1 79 (154 + 11 * x) < 0 ↔ ¬ thU U x) := fun x hx => by
  have hn := b.s.n72
  have ht := b.s.nt24
  unfold thU
  rcases (b.w.th x hx).at_ with ⟨a, q⟩ | ⟨a, t, p, q, h1, h2, h3, h4, -, -, e⟩
  · rw [show (15 * x : Nat) = 15 * x + 0 from rfl, sv_0 U (by omega)] at a
    rw [q]
    have : U.1 19 x = 0 := Classical.byContradiction (fun q => by rw [if_neg q] at a; exact absurd a (by decide))
    rw [this]
    exact ⟨fun _ q => q rfl, fun _ => by decide⟩
  · rw [show (15 * x : Nat) = 15 * x + 0 from rfl, sv_0 U (by omega)] at a
    rw [e]
    have : ¬ U.1 19 x = 0 := fun q => by rw [if_pos q] at a; exact absurd a (by decide)
    exact ⟨fun q => absurd q (nI_nn (by omega)), fun q => absurd this q⟩
theorem Bo.kc {n np nt : Nat} {T U : SS} (b : Bo n np nt T U) : ∀ x, x < n → T.1 91 (6 * x) = nI (kfU U x) ∧ kfU U x ≤ 6 := fun x hx => by
  obtain ⟨k, h1, h2, h3⟩ := (b.s.sk x hx).kd_
  have : kfU U x = k := by unfold kfU; rw [h3, nI_clamp (by omega)]
  rw [this]; exact ⟨h2, h1⟩
theorem Bo.km {n np nt : Nat} {T U : SS} (b : Bo n np nt T U) : ∀ x, x < n → U.1 18 x = nI (kfU U x) ∧ kfU U x ≤ 6 := fun x hx => by
  obtain ⟨k, h1, h2, h3⟩ := (b.s.sk x hx).kd_
  have : kfU U x = k := by unfold kfU; rw [h3, nI_clamp (by omega)]
  rw [this]; exact ⟨h3, h1⟩
theorem named_al {n np nt : Nat} {T U : SS} (b : Bo n np nt T U) (a : Int32) {w v : Int32} (hw : (w, v) ∈ wpr) : (∃ x, x < n ∧ a = nI x ∧ thU U x ∧ okw w (kfU U x) = true ∧ f_Yard_named a w T = some (0, T) ∧ f_M_missThing a v U = some (0, U)) ∨ (∃ rc rm, ¬ rc = 0 ∧ ¬ rm = 0 ∧ f_Yard_named a w T = some (rc, T) ∧ f_M_missThing a v U = some (rm, U)) := by
  have h72 := b.s.n72
  have hm : ∀ x, x < n → (U.1 19 x = 0 ↔ ¬ thU U x) := fun x _ => by unfold thU; exact ⟨fun a b => b a, fun a => Classical.byContradiction a⟩
  rcases named_c (P := thU U) (kf := kfU U) a w b.s.cn h72 b.thc b.kc with ⟨c1, c2⟩ | ⟨c1, rc, c3, c2⟩
  · rcases named_m (P := thU U) (kf := kfU U) a hw b.s.mn h72 hm b.km with ⟨-, d2⟩ | ⟨d1, -⟩
    · obtain ⟨x, hx, e, p1, p2⟩ := c1
      exact Or.inl ⟨x, hx, e, p1, p2, c2, d2⟩
    · exact absurd c1 d1
  · rcases named_m (P := thU U) (kf := kfU U) a hw b.s.mn h72 hm b.km with ⟨d1, -⟩ | ⟨-, rm, d3, d4, d2⟩
    · exact absurd d1 c1
    · exact Or.inr ⟨rc, rm, c3, d3, c2, d2⟩
theorem side_al {n np nt : Nat} {T U : SS} (b : Bo n np nt T U) (a s : Int32) {w v : Int32} (hw : (w, v) ∈ wpr) : (∃ x d, x < n ∧ d < 2 ∧ a = nI x ∧ s = nI d ∧ thU U x ∧ okw w (kfU U x) = true ∧ f_Yard_namedSide a w s T = some (0, T) ∧ f_M_missSide a v s U = some (0, U)) ∨ (∃ rc rm, ¬ rc = 0 ∧ ¬ rm = 0 ∧ f_Yard_namedSide a w s T = some (rc, T) ∧ f_M_missSide a v s U = some (rm, U)) := by
  rw [f_Yard_namedSide.eq_1, f_M_missSide.eq_1]
  rcases named_al b a hw with ⟨x, hx, e, p1, p2, c1, c2⟩ | ⟨rc, rm, r1, r2, c1, c2⟩
  · rw [c1, c2, bnd_r, bnd_r, if_pos rfl, if_pos rfl, in_v, bnd_r, f_M_isSide.eq_1]
    by_cases q0 : s = 0
    · have i0 : inV s 0 1 = 0 := by rw [q0]; decide
      rw [if_pos i0, if_pos q0, bnd_r, if_neg (show ¬ (1 : Int32) = 0 by decide)]
      exact Or.inl ⟨x, 0, hx, by omega, e, q0, p1, p2, rfl, rfl⟩
    · rw [if_neg q0]
      by_cases q1 : s = 1
      · have i0 : inV s 0 1 = 0 := by rw [q1]; decide
        rw [if_pos i0, if_pos q1, bnd_r, if_neg (show ¬ (1 : Int32) = 0 by decide)]
        exact Or.inl ⟨x, 1, hx, by omega, e, q1, p1, p2, rfl, rfl⟩
      · rw [if_neg q1, bnd_r, if_pos rfl, if_neg (fun z => by
          obtain ⟨j, -, h, ej⟩ := in_n (l := 0) (h := 1) rfl rfl (by omega) (by omega) z
          rcases (show j = 0 ∨ j = 1 by omega) with rfl | rfl
          · exact q0 ej
          · exact q1 ej)]
        exact Or.inr ⟨3, 3, by decide, by decide, rfl, rfl⟩
  · rw [c1, c2, bnd_r, bnd_r, if_neg r1, if_neg r2]
    exact Or.inr ⟨rc, rm, r1, r2, rfl, rfl⟩
/-- who isn't named: the act ends with a FINDING on both sides -/
theorem no_al {n np nt : Nat} {T U V S2 W : SS} {rc rm q q6 r2 act : Int32} (b : Bo n np nt T U) (l : f_Report_found rc T = some (q, V)) (hr : ¬ rm = 0) (m2 : f_M_ends rm U = some (q6, W)) {g : SS → Option (Int32 × SS)} (h2 : (if q6 = 0 then g W else bnd (f_M_entered act (-2 : Int32) W) (fun r S => some (r, S))) = some (r2, S2)) : ∃ W, bnd (f_M_entered act q W) (fun r S => some (r, S)) = some (r2, S2) ∧ En n np nt T U V W := by
  obtain ⟨rfl, qf⟩ := fnd_c l
  rcases ends_i m2 with ⟨z, -, -⟩ | ⟨-, z, q5⟩
  · exact absurd z hr
  · rw [if_neg z] at h2
    exact ⟨W, h2, b.en (Qz.of b.te qf q5)⟩
/-! ===== the line ===== -/
theorem c_hook {n m i : Nat} {hk : Nat → Nat} {T U : SS} (l : Ln n T U m hk) (hi : i < m) : f_Trains_hookInLine (nI i) T = some (nI (hk i), T) := by
  have := l.m72
  rw [f_Trains_hookInLine.eq_1, if_neg (nI_nn (by omega)), l.cl, if_neg (nI_ge hi (by omega)), if_pos (show nI i < (72 : Int32) from (nI_ltJ (b := 72) (by omega) (by omega)).mpr (by omega)), grT (inb_nI (by omega) (by omega)), nI_clamp (by omega), l.cr i hi]
theorem c_inL {n m i : Nat} {hk : Nat → Nat} {T U : SS} (l : Ln n T U m hk) (h72 : n ≤ 72) (hi : i < m) : f_Trains_inLine (nI i) T = some (nI (hk i / 2), T) := by
  have := l.lt i hi
  rw [f_Trains_inLine.eq_1, c_hook l hi, bnd_r, if_neg (nI_m4 (by omega)), n_shr (by omega)]
theorem Ln.fr {n m : Nat} {hk : Nat → Nat} {T U V W : SS} (l : Ln n T U m hk) (c1 : V.1 104 = T.1 104) (c2 : V.1 68 4 = T.1 68 4) (m1 : W.1 39 = U.1 39) (mf : ∀ i, i = 56 ∨ i = 57 ∨ i = 58 → W.1 0 i = U.1 0 i) (m23 : W.1 23 = U.1 23) : Ln n V W m hk := by
  obtain ⟨h1, h2, h3, h4, h5, h6, h7, h8, h9, h10, h11⟩ := l
  exact ⟨h1, h2, h3, h4, by rw [c2]; exact h5, by rw [c1]; exact h6, by rw [mf 56 (by omega)]; exact h7, by rw [m1]; exact h8, by rw [mf 57 (by omega)]; exact h9, by rw [mf 58 (by omega)]; exact h10, by rw [m23]; exact h11⟩
theorem Ln.tl {n m : Nat} {hk : Nat → Nat} {T U V W : SS} (l : Ln n T U m hk) (t : Tl T U V W) : Ln n V W m hk := l.fr (t.c.r 104 (by decide) (by decide)) (by rw [t.c.r 68 (by decide) (by decide)]) (t.m.r 39 (by decide) (by decide)) (fun i hi => t.m.f i (by omega) (by omega)) (t.m.r 23 (by decide) (by decide))
/-- the line of a THING that is there -/
theorem Bo.line {n np nt : Nat} {T U V W : SS} {x : Nat} (b : Bo n np nt T U) (hx : x < n) (h1 : f_Trains_lineUp (nI (2 * x)) T = some V) (h2 : f_M_lineUp (nI x) U = some W) : ∃ m hk, Ln n V W m hk ∧ (∀ i, i < m → (thU U (hk i / 2) ↔ thU U x)) ∧ FcL T V ∧ FmL U W ∧ Qz T U V W := by
  have h72 := b.s.n72
  obtain ⟨m, hk, g1, g2, g3, g4⟩ := line_al (P := thU U) (b.w.mates h72 b.s.cn) b.ac (fun x s o hx hs ho e => by
    have q := b.w.mt x s o hx hs ho (by
      rcases (show s = 0 ∨ s = 1 by omega) with rfl | rfl
      · rw [Nat.add_zero, sv_4 U (by omega)]; exact e
      · rw [show 15 * x + 4 + 1 = 15 * x + 5 by omega, sv_5 U (by omega)]; exact e)
    rw [show (15 * o : Nat) = 15 * o + 0 from rfl, show (15 * x : Nat) = 15 * x + 0 from rfl, sv_0 U (by omega), sv_0 U (by omega)] at q
    unfold thU
    by_cases c1 : U.1 19 o = 0
    · rw [if_pos c1] at q
      have : U.1 19 x = 0 := Classical.byContradiction (fun c => by rw [if_neg c] at q; exact absurd q (by decide))
      rw [c1, this]
    · rw [if_neg c1] at q
      have : ¬ U.1 19 x = 0 := fun c => by rw [if_pos c] at q; exact absurd q (by decide)
      exact ⟨fun _ => this, fun _ => c1⟩) hx h1 h2
  exact ⟨m, hk, g1, g2, g3, g4, Qz.of b.te g3.q g4.q⟩
/-! ===== many plain fields at once ===== -/
theorem Rw.gen {n np nt : Nat} {pl kf : Nat → Int32} {B : Int} {K c K' c' : Nat → Int32} (h : Rw n np nt pl kf B K c) (hn : n ≤ 72) (hnp : np ≤ 40) (kk : ∀ y d, y < n → d < 15 → (d ≤ 2 ∨ d = 4 ∨ d = 5 ∨ (10 ≤ d ∧ d ≤ 13)) → K' (15 * y + d) = K (15 * y + d)) (cc : ∀ y f, y < n → (f = 0 ∨ f = 2 ∨ f = 3 ∨ f = 8 ∨ f = 9) → c' (154 + 11 * y + f) = c (154 + 11 * y + f)) (p3 : ∀ y, y < n → c' (154 + 11 * y + 1) = K' (15 * y + 3)) (p6 : ∀ y, y < n → c' (154 + 11 * y + 4) = K' (15 * y + 6)) (p7 : ∀ y, y < n → c' (154 + 11 * y + 5) = K' (15 * y + 7)) (p8 : ∀ y, y < n → c' (154 + 11 * y + 6) = K' (15 * y + 8)) (p9 : ∀ y, y < n → c' (154 + 11 * y + 7) = K' (15 * y + 9)) (p14 : ∀ y, y < n → c' (154 + 11 * y + 10) = K' (15 * y + 14)) (tb : ∀ y, y < n → K' (15 * y + 14) = 0 ∨ K' (15 * y + 14) = 1) (lo : ∀ j, j < 154 → c' j = c j) (hi : ∀ j, 1080 ≤ j → j < 1161 → K' j = K j) (nn : ∀ y d, n ≤ y → y < 72 → d < 15 → K' (15 * y + d) = K (15 * y + d)) : Rw n np nt pl kf B K' c' := by
  refine ⟨fun y hy => ?_, fun p hp' => ?_, ?_, ?_, fun y s o hy hs ho q => ?_, fun y e hy h72 he => by rw [nn y e hy h72 (by omega)]; exact h.nw y e hy h72 he⟩
  · have t := h.th y hy
    have k0 := kk y 0 hy (by omega) (by omega)
    have c0 := cc y 0 hy (by omega)
    rw [Nat.add_zero] at k0 c0
    refine ⟨?_, ?_, ?_, ?_, ?_, ?_, ?_, ?_, ?_, ?_, ?_, ?_, ?_⟩
    · rw [k0, c0, kk y 1 hy (by omega) (by omega), kk y 2 hy (by omega) (by omega)]; exact t.at_
    · exact p3 y hy
    · rw [cc y 2 hy (by omega), kk y 4 hy (by omega) (by omega)]; exact t.m0
    · rw [cc y 3 hy (by omega), kk y 5 hy (by omega) (by omega)]; exact t.m1
    · exact p6 y hy
    · exact p7 y hy
    · exact p8 y hy
    · exact p9 y hy
    · rw [cc y 8 hy (by omega), kk y 10 hy (by omega) (by omega)]; exact t.run
    · rw [cc y 9 hy (by omega), kk y 12 hy (by omega) (by omega)]; exact t.rsd
    · exact p14 y hy
    · exact tb y hy
    · rw [k0, kk y 11 hy (by omega) (by omega), kk y 10 hy (by omega) (by omega), kk y 4 hy (by omega) (by omega), kk y 5 hy (by omega) (by omega), kk y 12 hy (by omega) (by omega)]; exact t.run0
  · rw [lo _ (by omega), lo _ (by omega), hi _ (by omega) (by omega), hi _ (by omega) (by omega)]; exact h.pt p hp'
  · rw [lo _ (by omega), hi _ (by omega) (by omega)]; exact h.dmp
  · obtain ⟨l, r⟩ := h.rns
    have hl := r.le
    refine ⟨l, by rw [lo _ (by omega)]; exact r.len, fun i hi => by rw [lo _ (by omega)]; exact r.cell i hi, fun y => ?_, ?_, fun y hy => ?_⟩
    · by_cases hy : y < n
      · rw [kk y 11 hy (by omega) (by omega)]; exact r.mem y
      · rw [r.mem y]; exact ⟨fun q => absurd q.1 hy, fun q => absurd q.1 hy⟩
    · refine r.srt.imp_of_mem (fun ha hb q => ?_)
      rw [kk _ 13 ((r.mem _).mp ha).1 (by omega) (by omega), kk _ 13 ((r.mem _).mp hb).1 (by omega) (by omega)]; exact q
    · rw [kk _ 13 ((r.mem _).mp hy).1 (by omega) (by omega)]; exact r.pos y hy
  · have k0 := kk y 0 hy (by omega) (by omega)
    have k1 := kk o 0 ho (by omega) (by omega)
    rw [Nat.add_zero] at k0 k1
    rw [Nat.add_assoc, kk y (4 + s) hy (by omega) (by omega), ← Nat.add_assoc] at q
    rw [k0, k1]; exact h.mt y s o hy hs ho q
/-- the class sets a field of all in the line -/
def SLn (T : SS) (m : Nat) (hk : Nat → Nat) (f : Nat) (v : Int32) (V : SS) : Prop := (∀ i, i < m → V.1 79 (154 + 11 * (hk i / 2) + f) = v) ∧ (∀ j, (∀ i, i < m → j ≠ 154 + 11 * (hk i / 2) + f) → V.1 79 j = T.1 79 j) ∧ (∀ k, k ≠ 79 → V.1 k = T.1 k)
theorem SLn.yes {T : SS} {m : Nat} {hk : Nat → Nat} {f : Nat} {v : Int32} {V : SS} (h_ : SLn T m hk f v V) : ∀ i, i < m → V.1 79 (154 + 11 * (hk i / 2) + f) = v := h_.1
theorem SLn.no {T : SS} {m : Nat} {hk : Nat → Nat} {f : Nat} {v : Int32} {V : SS} (h_ : SLn T m hk f v V) : ∀ j, (∀ i, i < m → j ≠ 154 + 11 * (hk i / 2) + f) → V.1 79 j = T.1 79 j := h_.2.1
theorem SLn.fr {T : SS} {m : Nat} {hk : Nat → Nat} {f : Nat} {v : Int32} {V : SS} (h_ : SLn T m hk f v V) : ∀ k, k ≠ 79 → V.1 k = T.1 k := h_.2.2
theorem SLn.mk_ {T : SS} {m : Nat} {hk : Nat → Nat} {f : Nat} {v : Int32} {V : SS} (yes_ : ∀ i, i < m → V.1 79 (154 + 11 * (hk i / 2) + f) = v) (no_ : ∀ j, (∀ i, i < m → j ≠ 154 + 11 * (hk i / 2) + f) → V.1 79 j = T.1 79 j) (fr_ : ∀ k, k ≠ 79 → V.1 k = T.1 k) : SLn T m hk f v V := ⟨yes_, no_, fr_⟩
theorem c_setL {n m f : Nat} {hk : Nat → Nat} {U : SS} {v : Int32} (h72 : n ≤ 72) (hf : f < 11) : ∀ (N i : Nat) (T V : SS), Ln n T U m hk → T.1 63 1 = nI n → i ≤ m → f_Trains_setLine_L2 N (nI f) v (nI i) T = some V → (∀ j, i ≤ j → j < m → V.1 79 (154 + 11 * (hk j / 2) + f) = v) ∧ (∀ j, (∀ k, i ≤ k → k < m → j ≠ 154 + 11 * (hk k / 2) + f) → V.1 79 j = T.1 79 j) ∧ (∀ k, k ≠ 79 → V.1 k = T.1 k)
  | 0, i, T, V, _, _, _, h => by cases h
  | N + 1, i, T, V, l, hn, hi, h => by
    have hm := l.m72
    rw [f_Trains_setLine_L2.eq_2, l.cl] at h
    by_cases c : i = m
    · subst c
      rw [if_pos (nI_le (by omega) (by omega))] at h
      injection h with h
      subst h
      exact ⟨fun j a b => by omega, fun j _ => rfl, fun k _ => rfl⟩
    · have hx : hk i / 2 < n := by have := l.lt i (by omega); omega
      rw [if_neg (nI_ge (by omega) (by omega)), c_inL l h72 (by omega), bnd_r, sset (nI f) v rfl hn h72 hx hf, bndv_r, nmR, nI_1] at h
      obtain ⟨g1, g2, g3⟩ := c_setL h72 hf N (i + 1) _ V (l.fr (V := st T 79 (154 + 11 * (hk i / 2) + f) v) (W := U) (by rw [st_row _ _ _ _ (by decide)]) (by rw [st_row _ _ _ _ (by decide)]) rfl (fun _ _ => rfl) rfl) (by rw [st_row _ _ _ _ (by decide)]; exact hn) (by omega) h
      refine ⟨fun j a b => ?_, fun j a => ?_, fun k a => by rw [g3 k a, st_row _ _ _ _ a]⟩
      · by_cases e : j = i
        · subst e
          rw [g2 _ (fun k k1 k2 q => by have := l.nd j k (by omega) k2 (by omega); omega), st_here]
        · exact g1 j (by omega) b
      · rw [g2 j (fun k k1 k2 => a k (by omega) k2), st_no (fun q => a i (Nat.le_refl _) (by omega) q.2)]
theorem setL {n m f : Nat} {hk : Nat → Nat} {T U V : SS} {v a : Int32} (l : Ln n T U m hk) (h72 : n ≤ 72) (hf : f < 11) (ha : a = nI f) (hn : T.1 63 1 = nI n) (h : f_Trains_setLine a v T = some V) : SLn T m hk f v V := by
  subst ha
  rw [f_Trains_setLine.eq_1] at h
  obtain ⟨g1, g2, g3⟩ := c_setL h72 hf NF 0 T V l hn (by omega) h
  exact ⟨fun i hi => g1 i (by omega) hi, fun j q => g2 j (fun k _ k2 => q k k2), g3⟩
/-! ===== rows and numbers ===== -/
def rwd (d : Nat) : Nat := if d = 0 then 19 else if d = 1 then 20 else if d = 2 then 21 else if d = 3 then 22 else if d = 4 then 23 else if d = 5 then 23 else if d = 6 then 24 else if d = 7 then 25 else if d = 8 then 26 else if d = 9 then 27 else if d = 10 then 30 else if d = 11 then 31 else if d = 12 then 32 else if d = 13 then 33 else 34
theorem sv_row {W U : SS} {y d : Nat} (hy : y < 72) (hd : d < 15) (e : W.1 (rwd d) = U.1 (rwd d)) : sv W (15 * y + d) = sv U (15 * y + d) := by
  rcases (show d = 0 ∨ d = 1 ∨ d = 2 ∨ d = 3 ∨ d = 4 ∨ d = 5 ∨ d = 6 ∨ d = 7 ∨ d = 8 ∨ d = 9 ∨ d = 10 ∨ d = 11 ∨ d = 12 ∨ d = 13 ∨ d = 14 by omega) with rfl | rfl | rfl | rfl | rfl | rfl | rfl | rfl | rfl | rfl | rfl | rfl | rfl | rfl | rfl
  · have e : W.1 19 = U.1 19 := e
    rw [sv_0 W hy, sv_0 U hy, e]
  · have e : W.1 20 = U.1 20 := e
    rw [sv_1 W hy, sv_1 U hy, e]
  · have e : W.1 21 = U.1 21 := e
    rw [sv_2 W hy, sv_2 U hy, e]
  · have e : W.1 22 = U.1 22 := e
    rw [sv_3 W hy, sv_3 U hy, e]
  · have e : W.1 23 = U.1 23 := e
    rw [sv_4 W hy, sv_4 U hy, e]
  · have e : W.1 23 = U.1 23 := e
    rw [sv_5 W hy, sv_5 U hy, e]
  · have e : W.1 24 = U.1 24 := e
    rw [sv_6 W hy, sv_6 U hy, e]
  · have e : W.1 25 = U.1 25 := e
    rw [sv_7 W hy, sv_7 U hy, e]
  · have e : W.1 26 = U.1 26 := e
    rw [sv_8 W hy, sv_8 U hy, e]
  · have e : W.1 27 = U.1 27 := e
    rw [sv_9 W hy, sv_9 U hy, e]
  · have e : W.1 30 = U.1 30 := e
    rw [sv_10 W hy, sv_10 U hy, e]
  · have e : W.1 31 = U.1 31 := e
    rw [sv_11 W hy, sv_11 U hy, e]
  · have e : W.1 32 = U.1 32 := e
    rw [sv_12 W hy, sv_12 U hy, e]
  · have e : W.1 33 = U.1 33 := e
    rw [sv_13 W hy, sv_13 U hy, e]
  · have e : W.1 34 = U.1 34 := e
    rw [sv_14 W hy, sv_14 U hy, e]
theorem sv_pt {W U : SS} {y d : Nat} (hy : y < 72) (hd : d < 15) (e : W.1 (rwd d) y = U.1 (rwd d) y) (e23 : W.1 23 = U.1 23) : sv W (15 * y + d) = sv U (15 * y + d) := by
  rcases (show d = 0 ∨ d = 1 ∨ d = 2 ∨ d = 3 ∨ d = 4 ∨ d = 5 ∨ d = 6 ∨ d = 7 ∨ d = 8 ∨ d = 9 ∨ d = 10 ∨ d = 11 ∨ d = 12 ∨ d = 13 ∨ d = 14 by omega) with rfl | rfl | rfl | rfl | rfl | rfl | rfl | rfl | rfl | rfl | rfl | rfl | rfl | rfl | rfl
  · have e : W.1 19 y = U.1 19 y := e
    rw [sv_0 W hy, sv_0 U hy, e]
  · have e : W.1 20 y = U.1 20 y := e
    rw [sv_1 W hy, sv_1 U hy, e]
  · have e : W.1 21 y = U.1 21 y := e
    rw [sv_2 W hy, sv_2 U hy, e]
  · have e : W.1 22 y = U.1 22 y := e
    rw [sv_3 W hy, sv_3 U hy, e]
  · have e : W.1 23 y = U.1 23 y := e
    rw [sv_4 W hy, sv_4 U hy, e23]
  · have e : W.1 23 y = U.1 23 y := e
    rw [sv_5 W hy, sv_5 U hy, e23]
  · have e : W.1 24 y = U.1 24 y := e
    rw [sv_6 W hy, sv_6 U hy, e]
  · have e : W.1 25 y = U.1 25 y := e
    rw [sv_7 W hy, sv_7 U hy, e]
  · have e : W.1 26 y = U.1 26 y := e
    rw [sv_8 W hy, sv_8 U hy, e]
  · have e : W.1 27 y = U.1 27 y := e
    rw [sv_9 W hy, sv_9 U hy, e]
  · have e : W.1 30 y = U.1 30 y := e
    rw [sv_10 W hy, sv_10 U hy, e]
  · have e : W.1 31 y = U.1 31 y := e
    rw [sv_11 W hy, sv_11 U hy, e]
  · have e : W.1 32 y = U.1 32 y := e
    rw [sv_12 W hy, sv_12 U hy, e]
  · have e : W.1 33 y = U.1 33 y := e
    rw [sv_13 W hy, sv_13 U hy, e]
  · have e : W.1 34 y = U.1 34 y := e
    rw [sv_14 W hy, sv_14 U hy, e]
theorem sv_hi {W U : SS} {j : Nat} (h1 : 1080 ≤ j) (h2 : j < 1161) (e10 : W.1 10 = U.1 10) (e11 : W.1 11 = U.1 11) (e0 : W.1 0 48 = U.1 0 48) : sv W j = sv U j := by
  unfold sv
  have h : ¬ j < 1080 := by omega
  rw [if_neg h, if_neg h, e10, e11, e0]
theorem rwd_14 {g : Nat} (h : g < 14) : rwd g ≠ 34 := by
  have : ∀ g : Fin 14, rwd g.1 ≠ 34 := by decide
  exact this ⟨g, h⟩
/-! ===== test ===== -/
def SMn (U : SS) (m : Nat) (hk : Nat → Nat) (R : Nat) (v : Int32) (W : SS) : Prop := (∀ i, i < m → W.1 R (hk i / 2) = v) ∧ (∀ x, (∀ i, i < m → x ≠ hk i / 2) → W.1 R x = U.1 R x) ∧ (∀ k, k ≠ R → W.1 k = U.1 k)
theorem SMn.yes {U : SS} {m : Nat} {hk : Nat → Nat} {R : Nat} {v : Int32} {W : SS} (h_ : SMn U m hk R v W) : ∀ i, i < m → W.1 R (hk i / 2) = v := h_.1
theorem SMn.no {U : SS} {m : Nat} {hk : Nat → Nat} {R : Nat} {v : Int32} {W : SS} (h_ : SMn U m hk R v W) : ∀ x, (∀ i, i < m → x ≠ hk i / 2) → W.1 R x = U.1 R x := h_.2.1
theorem SMn.fr {U : SS} {m : Nat} {hk : Nat → Nat} {R : Nat} {v : Int32} {W : SS} (h_ : SMn U m hk R v W) : ∀ k, k ≠ R → W.1 k = U.1 k := h_.2.2
theorem SMn.mk_ {U : SS} {m : Nat} {hk : Nat → Nat} {R : Nat} {v : Int32} {W : SS} (yes_ : ∀ i, i < m → W.1 R (hk i / 2) = v) (no_ : ∀ x, (∀ i, i < m → x ≠ hk i / 2) → W.1 R x = U.1 R x) (fr_ : ∀ k, k ≠ R → W.1 k = U.1 k) : SMn U m hk R v W := ⟨yes_, no_, fr_⟩
theorem in_line (m : Nat) (hk : Nat → Nat) (x : Nat) : (∃ i, i < m ∧ x = hk i / 2) ∨ (∀ i, i < m → x ≠ hk i / 2) := by
  by_cases h : ∃ i, i < m ∧ x = hk i / 2
  · exact Or.inl h
  · exact Or.inr (fun i hi e => h ⟨i, hi, e⟩)
theorem t119 {n m : Nat} {hk : Nat → Nat} {T S2 : SS} {r2 x2 v : Int32} (h72 : n ≤ 72) (hv : v = if x2 = nI m then 1 else 0) : ∀ (M i : Nat) (U : SS), Ln n T U m hk → i ≤ m → f_M_test_L119 M x2 (nI i) U = some (r2, S2) → ∃ W, bnd (f_M_entered 11 x2 W) (fun r S => some (r, S)) = some (r2, S2) ∧ (∀ j, i ≤ j → j < m → W.1 34 (hk j / 2) = v) ∧ (∀ x, (∀ k, i ≤ k → k < m → x ≠ hk k / 2) → W.1 34 x = U.1 34 x) ∧ (∀ k, k ≠ 34 → W.1 k = U.1 k)
  | 0, i, U, _, _, h => by cases h
  | M + 1, i, U, l, hi, h => by
    have hm := l.m72
    rw [f_M_test_L119.eq_2, l.ml] at h
    by_cases c : i = m
    · subst c
      rw [if_pos (nI_le (by omega) (by omega))] at h
      exact ⟨U, h, fun j a b => by omega, fun x _ => rfl, fun k _ => rfl⟩
    · have hx : hk i / 2 < n := by have := l.lt i (by omega); omega
      rw [if_neg (nI_ge (by omega) (by omega)), grT (inb_nI (by omega) (by omega)), nI_clamp (by omega), l.mr i (by omega)] at h
      have h' : f_M_test_L119 M x2 (nI (i + 1)) (st U 34 (hk i / 2) v) = some (r2, S2) := by
        by_cases q : x2 = nI m
        · rw [if_pos q, f_M_test_j150.eq_1, grT (inb_nI (by omega) (by omega)), wr_r, nmR, nI_1, nI_clamp (by omega), show vp_nar .boolean (1 : Int32) = 1 from by decide] at h
          rw [hv, if_pos q]; exact h
        · rw [if_neg q, f_M_test_j150.eq_1, grT (inb_nI (by omega) (by omega)), wr_r, nmR, nI_1, nI_clamp (by omega), show vp_nar .boolean (0 : Int32) = 0 from by decide] at h
          rw [hv, if_neg q]; exact h
      obtain ⟨W, g0, g1, g2, g3⟩ := t119 h72 hv M (i + 1) _ (l.fr (V := T) (W := st U 34 (hk i / 2) v) rfl rfl (by rw [st_row _ _ _ _ (by decide)]) (fun j _ => by rw [st_row _ _ _ _ (by decide)]) (by rw [st_row _ _ _ _ (by decide)])) (by omega) h'
      refine ⟨W, g0, fun j a b => ?_, fun x a => ?_, fun k a => by rw [g3 k a, st_row _ _ _ _ a]⟩
      · by_cases e : j = i
        · subst e
          rw [g2 _ (fun k k1 k2 q => by have := l.nd j k (by omega) k2 q; omega), st_here]
        · exact g1 j (by omega) b
      · rw [g2 x (fun k k1 k2 => a k (by omega) k2), st_no (fun q => a i (Nat.le_refl _) (by omega) q.2)]
/-- TESTED of a whole line -/
theorem tst_en {n np nt m : Nat} {hk : Nat → Nat} {T U V W : SS} {v : Int32} (b : Bo n np nt T U) (l : Ln n T U m hk) (hv : v = 0 ∨ v = 1) (c : SLn T m hk 10 v V) (d : SMn U m hk 34 v W) : En n np nt T U V W := by
  have h72 := b.s.n72
  refine ⟨fun k hk => c.fr k (by unfold cdy at hk; omega), ⟨fun k k0 hk => d.fr k (by unfold mdy at hk; omega), fun i _ => by rw [d.fr 0 (by decide)]⟩, ?_, by rw [d.fr 0 (by decide)]; exact Int.le_refl _, ⟨by rw [c.fr 62 (by decide), d.fr 0 (by decide)]; exact b.tr, fun i => by rw [c.fr 78 (by decide), d.fr 2 (by decide)]; exact b.tc i⟩, by rw [c.fr 68 (by decide), d.fr 0 (by decide)]; exact b.sr⟩
  rw [d.fr 0 (by decide)]
  have kk : ∀ y g, y < n → g < 14 → sv W (15 * y + g) = sv U (15 * y + g) := fun y g hy hg => sv_row (by omega) (by omega) (d.fr _ (rwd_14 hg))
  have cc : ∀ y g, g < 10 → V.1 79 (154 + 11 * y + g) = T.1 79 (154 + 11 * y + g) := fun y g hg => c.no _ (fun i _ => by omega)
  have p14 : ∀ y, y < n → V.1 79 (154 + 11 * y + 10) = sv W (15 * y + 14) ∧ (sv W (15 * y + 14) = 0 ∨ sv W (15 * y + 14) = 1) := fun y hy => by
    rw [sv_14 W (by omega)]
    refine ⟨?_, by by_cases z : W.1 34 y = 0
                   · rw [if_pos z]; exact Or.inl rfl
                   · rw [if_neg z]; exact Or.inr rfl⟩
    rcases in_line m hk y with ⟨i, hi, e⟩ | no
    · subst e
      rw [c.yes i hi, d.yes i hi]
      rcases hv with rfl | rfl <;> decide
    · rw [c.no _ (fun i hi e => no i hi (by omega)), d.no y no]
      have t := (b.w.th y hy).tst
      rw [sv_14 U (by omega)] at t
      exact t
  have t := fun y hy => b.w.th y hy
  refine b.w.gen h72 b.s.np40 (fun y g hy hg z => kk y g hy (by omega)) (fun y g hy hg => cc y g (by omega)) (fun y hy => ?_) (fun y hy => ?_) (fun y hy => ?_) (fun y hy => ?_) (fun y hy => ?_) (fun y hy => (p14 y hy).1) (fun y hy => (p14 y hy).2) (fun j hj => c.no _ (fun i _ => by omega)) (fun j h1 h2 => sv_hi h1 h2 (d.fr _ (by decide)) (d.fr _ (by decide)) (by rw [d.fr _ (by decide)])) (fun y g hy h72' hg => sv_pt h72' hg (by
    by_cases e : rwd g = 34
    · rw [e]; exact d.no y (fun i hi q => by have := l.lt i hi; omega)
    · rw [d.fr _ e]) (d.fr _ (by decide)))
  · rw [cc y 1 (by omega), kk y 3 hy (by omega)]; exact (t y hy).look
  · rw [cc y 4 (by omega), kk y 6 hy (by omega)]; exact (t y hy).ser
  · rw [cc y 5 (by omega), kk y 7 hy (by omega)]; exact (t y hy).flt
  · rw [cc y 6 (by omega), kk y 8 hy (by omega)]; exact (t y hy).jam
  · rw [cc y 7 (by omega), kk y 9 hy (by omega)]; exact (t y hy).dgr
theorem test_L {n np nt m : Nat} {hk : Nat → Nat} {T0 U0 V S2 : SS} {rc r2 : Int32} : ∀ (N M i g : Nat) (T U : SS), Bo n np nt T U → Ln n T U m hk → Qz T0 U0 T U → i ≤ m → g ≤ i → f_Yard_testAll_L36 N (nI g) (nI i) T = some (rc, V) → f_M_test_L39 M (nI g) (nI i) U = some (r2, S2) → ∃ W, bnd (f_M_entered 11 rc W) (fun r S => some (r, S)) = some (r2, S2) ∧ En n np nt T0 U0 V W
  | 0, M, i, g, T, U, _, _, _, _, _, h1, h2 => by cases h1
  | N + 1, 0, i, g, T, U, _, _, _, _, _, h1, h2 => by cases h2
  | N + 1, M + 1, i, g, T, U, b, l, q, hi, hg, h1, h2 => by
    have h72 := b.s.n72
    have hm := l.m72
    rw [f_Yard_testAll_L36.eq_2, l.cl] at h1
    rw [f_M_test_L39.eq_2, l.ml] at h2
    by_cases c : i = m
    · subst c
      rw [if_pos (nI_le (by omega) (by omega))] at h1 h2
      obtain ⟨W, g0, g1, g2, g3⟩ := t119 h72 rfl NF 0 U l (by omega) h2
      have fin : ∀ (v : Int32) (V' : SS), v = (if nI g = nI i then 1 else 0) → f_Trains_setLine 10 v T = some V' → some (nI g, V') = some (rc, V) → ∃ W, bnd (f_M_entered 11 rc W) (fun r S => some (r, S)) = some (r2, S2) ∧ En n np nt T0 U0 V W := fun v V' hv e h => by
        obtain ⟨rfl, rfl⟩ := so_i h
        have sl := setL l h72 (by omega) (show (10 : Int32) = nI 10 from rfl) b.s.cn e
        refine ⟨W, g0, En.q q (tst_en b l (v := v) ?_ sl ⟨fun j hj => by rw [hv]; exact g1 j (by omega) hj, fun x hx => g2 x (fun k _ k2 => hx k k2), g3⟩)⟩
        rw [hv]
        by_cases z : nI g = nI i
        · rw [if_pos z]; exact Or.inr rfl
        · rw [if_neg z]; exact Or.inl rfl
      by_cases z : nI g = nI i
      · rw [if_pos z] at h1
        replace h1 := bndv_i h1
        obtain ⟨V', e, h1⟩ := h1
        exact fin 1 V' (by rw [if_pos z]) e h1
      · rw [if_neg z] at h1
        replace h1 := bndv_i h1
        obtain ⟨V', e, h1⟩ := h1
        exact fin 0 V' (by rw [if_neg z]) e h1
    · have hx : hk i / 2 < n := by have := l.lt i (by omega); omega
      obtain ⟨k, a, s, w, k2⟩ := (b.s.sk (hk i / 2) hx).two
      rw [if_neg (nI_ge (by omega) (by omega)), c_inL l h72 (by omega), bnd_r] at h1
      rw [if_neg (nI_ge (by omega) (by omega)), grT (inb_nI (by omega) (by omega)), nI_clamp (by omega), l.mr i (by omega)] at h2
      replace h1 := bnd_i h1
      obtain ⟨rb, T1, b1, h1⟩ := h1
      replace h2 := bnd_i h2
      obtain ⟨rb', U1, b2, h2⟩ := h2
      obtain ⟨rfl, -, t1⟩ := brake_al (by omega) b.te k2 b1 b2
      have l1 := l.tl t1
      rw [c_inL l1 h72 (by omega), bnd_r] at h1
      rw [grT (inb_nI (by omega) (by omega)), l1.mr i (by omega)] at h2
      replace h1 := bnd_i h1
      obtain ⟨rp, T2, p1, h1⟩ := h1
      replace h2 := bnd_i h2
      obtain ⟨rp', U2, p2, h2⟩ := h2
      obtain ⟨z, t2⟩ := perAxle_al (by omega) t1.e (k2.tl t1) p1 p2
      have t := t1.tr t2
      have b3 := b.q t.q
      have l3 := l.tl t
      have q3 := q.tr t.q
      rcases z with ⟨z1, z2⟩ | ⟨z1, rfl, z2⟩
      · rw [if_pos z1] at h1
        rw [if_neg z2] at h2
        replace h1 := bnd_i h1
        obtain ⟨q1, V1, l4, h1⟩ := h1
        obtain ⟨rfl, rfl⟩ := so_i h1
        obtain ⟨rfl, qf⟩ := fnd_c l4
        replace h2 := bnd_i h2
        obtain ⟨q2, W1, l5, h2⟩ := h2
        obtain ⟨-, qg⟩ := fnd_m l5
        exact ⟨W1, h2, En.q q3 (b3.en (Qz.of b3.te qf qg))⟩
      · rw [if_neg z1] at h1
        rw [if_pos z2] at h2
        by_cases u : (2 : Int32) * rb < rp
        · rw [if_pos u, f_Yard_testAll_j113.eq_1, nmR, nI_1] at h1
          rw [if_pos u, f_M_test_j109.eq_1, nmR, nmR, nI_1, show nI g + (0 : Int32) = nI (g + 0) from nI_add g 0, Nat.add_zero] at h2
          exact test_L N M (i + 1) g T2 U2 b3 l3 q3 (by omega) (by omega) h1 h2
        · rw [if_neg u, nmR, nI_1, f_Yard_testAll_j113.eq_1, nmR, nI_1] at h1
          rw [if_neg u, f_M_test_j109.eq_1, nmR, nmR, nI_1, nI_1] at h2
          exact test_L N M (i + 1) (g + 1) T2 U2 b3 l3 q3 (by omega) (by omega) h1 h2
theorem test_body {n np nt : Nat} {T U V S2 : SS} {a1 rc r2 : Int32} (b : Bo n np nt T U) (h1 : f_Yard_testAll a1 T = some (rc, V))
    (h2 : bnd (f_M_missThing a1 (0 : Int32) U) (fun r4 S3 => bnd (f_M_ends r4 S3) (fun r6 S5 => if r6 = 0 then bndv (f_M_lineUp a1 S5) (fun S7 => f_M_test_L39 NF (0 : Int32) (0 : Int32) S7) else bnd (f_M_entered (11 : Int32) (-2 : Int32) S5) (fun r23 S22 => some (r23, S22)))) = some (r2, S2)) : ∃ W, bnd (f_M_entered 11 rc W) (fun r S => some (r, S)) = some (r2, S2) ∧ En n np nt T U V W := by
  rw [f_Yard_testAll.eq_1] at h1
  rcases named_al b a1 (w := 127) (v := 0) (by decide) with ⟨x, hx, rfl, p1, p2, c1, c2⟩ | ⟨r, r', n1, n2, c1, c2⟩
  · rw [c1, bnd_r, if_pos rfl, nM2] at h1
    rw [c2, bnd_r, ends_0, bnd_r, if_pos rfl] at h2
    replace h1 := bndv_i h1
    obtain ⟨T1, l1, h1⟩ := h1
    replace h2 := bndv_i h2
    obtain ⟨U1, l2, h2⟩ := h2
    obtain ⟨m, hk, l, -, -, -, q⟩ := b.line hx l1 l2
    exact test_L NF NF 0 0 T1 U1 (b.q q) l q (by omega) (by omega) h1 h2
  · rw [c1, bnd_r, if_neg n1] at h1
    replace h1 := bnd_i h1
    obtain ⟨q, V1, l, h1⟩ := h1
    obtain ⟨rfl, rfl⟩ := so_i h1
    rw [c2, bnd_r] at h2
    replace h2 := bnd_i h2
    obtain ⟨r6, S5, m2, h2⟩ := h2
    exact no_al b l n2 m2 (g := fun S5 => bndv (f_M_lineUp a1 S5) (fun S7 => f_M_test_L39 NF (0 : Int32) (0 : Int32) S7)) h2
theorem test_st {n np nt L : Nat} {S S1 S2 : SS} {a1 r1 r2 : Int32} (h : Dz n np nt L S) (hL : L < 600) (hW : WR S) (hW1 : WR S1) (hW2 : WR S2) (z : Fz S S1 S2) (e1 : f_Yard_test a1 S = some (r1, S1)) (e2 : f_M_test a1 S1 = some (r2, S2)) : Az n np nt L r1 r2 S2 := by
  rw [f_Yard_test.eq_1] at e1
  rw [f_M_test.eq_1] at e2
  exact act_al h hL hW hW1 hW2 z (fun T U V rc b _ _ g1 g2 => test_body b g1 g2) e1 e2
/-! ===== leave ===== -/
theorem Bo.pos {n np nt : Nat} {T U : SS} {x : Nat} (b : Bo n np nt T U) (hx : x < n) (h : thU U x) : ∃ t p q, t < nt ∧ U.1 3 t = nI q ∧ q ≤ 24 ∧ p < q ∧ U.1 20 x = nI t ∧ U.1 21 x = nI p ∧ T.1 79 (154 + 11 * x) = nI (24 * t + p) := by
  have hn := b.s.n72
  rcases (b.w.th x hx).at_ with ⟨a, -⟩ | ⟨-, t, p, q, h1, h2, h3, h4, h5, h6, h7⟩
  · rw [show (15 * x : Nat) = 15 * x + 0 from rfl, sv_0 U (by omega), if_neg h] at a
    exact absurd a (by decide)
  · rw [sv_1 U (by omega)] at h5
    rw [sv_2 U (by omega)] at h6
    exact ⟨t, p, q, h1, h2, h3, h4, h5, h6, h7⟩
theorem way_al {n np nt : Nat} {T U : SS} {x s : Nat} (b : Bo n np nt T U) (hx : x < n) (hs : s < 2) : ∃ d, d < 2 ∧ f_State_looks (nI (2 * x + s)) T = some (nI d, T) ∧ ∀ U' : SS, U'.1 22 = U.1 22 → f_M_wayOf (nI x) (nI s) U' = some (nI d, U') := by
  have hn := b.s.n72
  obtain ⟨l, hl, el⟩ := b.lk x hx
  have cl := (b.w.th x hx).look
  rw [sv_3 U (by omega), el] at cl
  refine ⟨if s = 0 then l else 1 - l, by split <;> omega, ?_, fun U' e => ?_⟩
  · rw [f_State_looks.eq_1, n_shr (by omega), n_and (by omega), show (2 * x + s) / 2 = x by omega, show (2 * x + s) % 2 = s by omega, sg (f := 1) 1 rfl b.s.cn hn hx (by omega), bnd_r, cl, n_xr hl hs]
  · rw [f_M_wayOf.eq_1, grT (inb_nI (by omega) (by omega)), nI_clamp (by omega), e, el]
    by_cases c : s = 0
    · subst c
      rw [if_pos (by rfl), if_pos rfl]
    · rw [if_neg (n_ne0 (by omega) c), if_neg c, n1m hl, grT (inb_nI (by omega) (by omega))]
theorem c_endNext {n np nt : Nat} {T U : SS} {t p d q : Nat} (b : Bo n np nt T U) (ht : t < nt) (hq : U.1 3 t = nI q) (hq2 : q ≤ 24) (hp : p < q) (hd : d < 2) : f_Layout_endNextTo (nI (24 * t + p)) (nI d) T = some (if p = (if d = 0 then 0 else q - 1) then nI (2 * t + d) else -4, T) := by
  have hnt := b.s.nt24
  rw [f_Layout_endNextTo.eq_1, f_Layout_trackOf.eq_1, bnd_r, n_d24 (by omega), show (24 * t + p) / 24 = t by omega]
  have j : ∀ y, y < 24 → f_Layout_endNextTo_j20 (nI (24 * t + p)) (nI d) (nI t) (nI y) T = some (if p = y then nI (2 * t + d) else -4, T) := fun y hy => by
    rw [f_Layout_endNextTo_j20.eq_1, f_Layout_placeOf.eq_1, bnd_r, n_r24 (by omega), show (24 * t + p) % 24 = p by omega, nM2, nI_add]
    by_cases c : p = y
    · rw [if_pos (by rw [c]), if_pos c]
    · rw [if_neg (fun z => c (nI_inj (by omega) (by omega) z)), if_neg c]
  by_cases c : d = 0
  · rw [if_pos (by rw [c]; rfl), if_pos c]; exact j 0 (by omega)
  · rw [if_neg (n_ne0 (by omega) c), if_neg c, c_places b ht hq, bnd_r, n_m1 (by omega) (by omega)]; exact j (q - 1) (by omega)
theorem out_al {n np nt : Nat} {T U V W : SS} {x s : Nat} {r r' : Int32} (b : Bo n np nt T U) (hx : x < n) (h : thU U x) (hs : s < 2) (h1 : f_Trains_looksOut (nI (2 * x + s)) T = some (r, V)) (h2 : f_M_mayLeave (nI x) (nI s) U = some (r', W)) : V = T ∧ W = U ∧ (r = 0 ↔ r' = 0) := by
  have hn := b.s.n72
  have hnt := b.s.nt24
  obtain ⟨t, p, q, ht, hq, hq2, hp, e20, e21, e79⟩ := b.pos hx h
  obtain ⟨d, hd, w1, w2⟩ := way_al b hx hs
  rw [f_Trains_looksOut.eq_1, n_shr (by omega), show (2 * x + s) / 2 = x by omega, sg (f := 0) 0 rfl b.s.cn hn hx (by omega), bnd_r, Nat.add_zero, e79, w1, bnd_r, f_Layout_isWayOut.eq_1, c_endNext b ht hq hq2 hp hd, bnd_r] at h1
  rw [f_M_mayLeave.eq_1, grT (inb_nI (by omega) (by omega)), w2 U rfl, bnd_r, nmR, nI_clamp (by omega), e20, n2, grT (inb_nI (by omega) (by omega)), nI_clamp (by omega)] at h2
  have pe : f_M_placeAtEnd (nI (2 * t + d)) U = some (nI (plE U (2 * t + d)), U) := m_plE b (by omega) rfl
  have pl : plE U (2 * t + d) = if d = 0 then 0 else q - 1 := by
    unfold plE
    rw [show (2 * t + d) % 2 = d by omega, show (2 * t + d) / 2 = t by omega, hq, nI_clamp (by omega)]
  by_cases c : p = (if d = 0 then 0 else q - 1)
  · rw [if_pos c, f_Layout_isEnd.eq_1, if_neg (nI_nn (by omega)), if_neg (show ¬ (48 : Int32) ≤ nI (2 * t + d) from nI_ge (b := 48) (by omega) (by omega)), bnd_r, if_neg (by decide), grT (inb_nI (by omega) (by omega)), nI_clamp (by omega), b.s.e4] at h1
    by_cases g : U.1 4 (2 * t + d) = 0
    · rw [if_pos g, bnd_r] at h1
      rw [if_pos g] at h2
      obtain ⟨-, h1⟩ := grd_i h1
      obtain ⟨rfl, rfl⟩ := so_i h1
      obtain ⟨rfl, rfl⟩ := so_i h2
      exact ⟨rfl, rfl, Iff.rfl⟩
    · rw [if_neg g, bnd_r] at h1
      rw [if_neg g, grT (inb_nI (by omega) (by omega)), pe, bnd_r, e21, pl, ← c, if_pos rfl] at h2
      obtain ⟨-, h1⟩ := grd_i h1
      obtain ⟨rfl, rfl⟩ := so_i h1
      obtain ⟨rfl, rfl⟩ := so_i h2
      exact ⟨rfl, rfl, Iff.rfl⟩
  · rw [if_neg c, f_Layout_isEnd.eq_1, if_pos (by decide), bnd_r, if_pos rfl, bnd_r] at h1
    obtain ⟨-, h1⟩ := grd_i h1
    obtain ⟨rfl, rfl⟩ := so_i h1
    by_cases g : U.1 4 (2 * t + d) = 0
    · rw [if_pos g] at h2
      obtain ⟨rfl, rfl⟩ := so_i h2
      exact ⟨rfl, rfl, Iff.rfl⟩
    · rw [if_neg g, grT (inb_nI (by omega) (by omega)), pe, bnd_r, e21, pl, if_neg (fun z => c (nI_inj (by omega) (by split <;> omega) z))] at h2
      obtain ⟨rfl, rfl⟩ := so_i h2
      exact ⟨rfl, rfl, Iff.rfl⟩
theorem lvf_al {n np nt m : Nat} {hk : Nat → Nat} {T U : SS} (b : Bo n np nt T U) (l : Ln n T U m hk) (ht : ∀ i, i < m → thU U (hk i / 2)) : ∀ (N M i : Nat) (r r' : Int32) (V W : SS), i ≤ m → f_Trains_leaveFinding_L2 N (nI i) T = some (r, V) → f_M_missLeave_L20 M (nI i) U = some (r', W) → V = T ∧ W = U ∧ (r = 0 ↔ r' = 0)
  | 0, M, i, r, r', V, W, _, h1, h2 => by cases h1
  | N + 1, 0, i, r, r', V, W, _, h1, h2 => by cases h2
  | N + 1, M + 1, i, r, r', V, W, hi, h1, h2 => by
    have hn := b.s.n72
    have hm := l.m72
    have hm1 := l.m1
    rw [f_Trains_leaveFinding_L2.eq_2, l.cl] at h1
    rw [f_M_missLeave_L20.eq_2, l.ml] at h2
    by_cases c : i = m
    · subst c
      have x0 := l.lt 0 (by omega)
      have x1 := l.lt (i - 1) (by omega)
      have k0 : f_Trains_hookInLine 0 T = some (nI (hk 0), T) := c_hook l (i := 0) (by omega)
      rw [if_pos (nI_le (by omega) (by omega)), k0, bnd_r] at h1
      rw [if_pos (nI_le (by omega) (by omega)), grT (by decide), show (0 : Int32).toNatClampNeg = 0 from rfl, l.mr 0 (by omega), l.fs] at h2
      replace h1 := bnd_i h1
      obtain ⟨ra, T1, a1, h1⟩ := h1
      replace h2 := bnd_i h2
      obtain ⟨rb, U1, a2, h2⟩ := h2
      rw [show nI (hk 0) = nI (2 * (hk 0 / 2) + hk 0 % 2) from congrArg nI (by omega)] at a1
      obtain ⟨rfl, rfl, z⟩ := out_al b (by omega) (ht 0 (by omega)) (by omega) a1 a2
      by_cases g : ra = 0
      · rw [if_pos g, l.cl, n_m1 (by omega) (by omega), c_hook l (by omega), bnd_r, n_xor (by omega)] at h1
        rw [if_pos (z.mp g), l.ml, n_m1 (by omega) (by omega), grT (inb_nI (by omega) (by omega)), nI_clamp (by omega), l.mr (i - 1) (by omega), l.ls] at h2
        replace h1 := bnd_i h1
        obtain ⟨rc, T2, a3, h1⟩ := h1
        replace h2 := bnd_i h2
        obtain ⟨rd, U2, a4, h2⟩ := h2
        obtain ⟨rfl, rfl, z2⟩ := out_al b (by omega) (ht (i - 1) (by omega)) (by omega) a3 a4
        by_cases g2 : rc = 0
        · rw [if_pos g2] at h1
          rw [if_pos (z2.mp g2)] at h2
          obtain ⟨rfl, rfl⟩ := so_i h1
          obtain ⟨rfl, rfl⟩ := so_i h2
          exact ⟨rfl, rfl, Iff.rfl⟩
        · rw [if_neg g2] at h1
          rw [if_neg (fun q => g2 (z2.mpr q))] at h2
          obtain ⟨rfl, rfl⟩ := so_i h1
          obtain ⟨rfl, rfl⟩ := so_i h2
          exact ⟨rfl, rfl, Iff.rfl⟩
      · rw [if_neg g] at h1
        rw [if_neg (fun q => g (z.mpr q))] at h2
        obtain ⟨rfl, rfl⟩ := so_i h1
        obtain ⟨rfl, rfl⟩ := so_i h2
        exact ⟨rfl, rfl, Iff.rfl⟩
    · have hx : hk i / 2 < n := by have := l.lt i (by omega); omega
      have t := (b.w.th _ hx).tst
      rw [sv_14 U (by omega)] at t
      rw [if_neg (nI_ge (by omega) (by omega)), c_inL l hn (by omega), bnd_r, sg (f := 10) 10 rfl b.s.cn hn hx (by omega), bnd_r, t] at h1
      rw [if_neg (nI_ge (by omega) (by omega)), grT (inb_nI (by omega) (by omega)), nI_clamp (by omega), l.mr i (by omega), grT (inb_nI (by omega) (by omega)), nI_clamp (by omega)] at h2
      by_cases g : U.1 34 (hk i / 2) = 0
      · rw [if_pos g, if_pos rfl] at h1
        rw [if_pos g] at h2
        obtain ⟨rfl, rfl⟩ := so_i h1
        obtain ⟨rfl, rfl⟩ := so_i h2
        exact ⟨rfl, rfl, Iff.rfl⟩
      · rw [if_neg g, if_neg (by decide), nmR, nI_1] at h1
        rw [if_neg g, nmR, nI_1] at h2
        exact lvf_al b l ht N M (i + 1) r r' V W (by omega) h1 h2
theorem l31 {n m : Nat} {hk : Nat → Nat} {T S2 : SS} {r2 : Int32} (h72 : n ≤ 72) : ∀ (M i : Nat) (U : SS), Ln n T U m hk → i ≤ m → f_M_leave_L31 M (nI i) U = some (r2, S2) → ∃ W, bnd (f_M_entered 12 (nI m) W) (fun r S => some (r, S)) = some (r2, S2) ∧ (∀ j, i ≤ j → j < m → W.1 19 (hk j / 2) = 0) ∧ (∀ x, (∀ k, i ≤ k → k < m → x ≠ hk k / 2) → W.1 19 x = U.1 19 x) ∧ (∀ k, k ≠ 19 → W.1 k = U.1 k)
  | 0, i, U, _, _, h => by cases h
  | M + 1, i, U, l, hi, h => by
    have hm := l.m72
    rw [f_M_leave_L31.eq_2, l.ml] at h
    by_cases c : i = m
    · subst c
      rw [if_pos (nI_le (by omega) (by omega))] at h
      exact ⟨U, h, fun j a b => by omega, fun x _ => rfl, fun k _ => rfl⟩
    · have hx : hk i / 2 < n := by have := l.lt i (by omega); omega
      rw [if_neg (nI_ge (by omega) (by omega)), grT (inb_nI (by omega) (by omega)), nI_clamp (by omega), l.mr i (by omega), grT (inb_nI (by omega) (by omega)), wr_r, nmR, nI_1, nI_clamp (by omega), show vp_nar .boolean (0 : Int32) = 0 from by decide] at h
      obtain ⟨W, g0, g1, g2, g3⟩ := l31 h72 M (i + 1) _ (l.fr (V := T) (W := st U 19 (hk i / 2) 0) rfl rfl (by rw [st_row _ _ _ _ (by decide)]) (fun j _ => by rw [st_row _ _ _ _ (by decide)]) (by rw [st_row _ _ _ _ (by decide)])) (by omega) h
      refine ⟨W, g0, fun j a b => ?_, fun x a => ?_, fun k a => by rw [g3 k a, st_row _ _ _ _ a]⟩
      · by_cases e : j = i
        · subst e
          rw [g2 _ (fun k k1 k2 q => by have := l.nd j k (by omega) k2 q; omega), st_here]
        · exact g1 j (by omega) b
      · rw [g2 x (fun k k1 k2 => a k (by omega) k2), st_no (fun q => a i (Nat.le_refl _) (by omega) q.2)]
theorem rwd_0 {g : Nat} (h : g < 15) (h0 : g ≠ 0) : rwd g ≠ 19 := by
  have : ∀ g : Fin 15, g.1 ≠ 0 → rwd g.1 ≠ 19 := by decide
  exact this ⟨g, h⟩ h0
/-- a whole line that doesn't RUN leaves -/
theorem lv_en {n np nt m : Nat} {hk : Nat → Nat} {T U V W : SS} (b : Bo n np nt T U) (nr : ∀ i, i < m → U.1 31 (hk i / 2) = 0) (cl : ∀ i d, i < m → d < 2 → U.1 23 (2 * (hk i / 2) + d) = -4 ∨ ∃ k, k < m ∧ U.1 23 (2 * (hk i / 2) + d) = nI (hk k / 2)) (hl : ∀ i, i < m → hk i / 2 < n) (c : SLn T m hk 0 (-1) V) (d : SMn U m hk 19 0 W) : En n np nt T U V W := by
  have h72 := b.s.n72
  have hnp := b.s.np40
  refine ⟨fun k hk => c.fr k (by unfold cdy at hk; omega), ⟨fun k k0 hk => d.fr k (by unfold mdy at hk; omega), fun i _ => by rw [d.fr 0 (by decide)]⟩, ?_, by rw [d.fr 0 (by decide)]; exact Int.le_refl _, ⟨by rw [c.fr 62 (by decide), d.fr 0 (by decide)]; exact b.tr, fun i => by rw [c.fr 78 (by decide), d.fr 2 (by decide)]; exact b.tc i⟩, by rw [c.fr 68 (by decide), d.fr 0 (by decide)]; exact b.sr⟩
  rw [d.fr 0 (by decide)]
  have kk : ∀ y g, y < n → g < 15 → g ≠ 0 → sv W (15 * y + g) = sv U (15 * y + g) := fun y g hy hg h0 => sv_row (by omega) (by omega) (d.fr _ (rwd_0 hg h0))
  have cc : ∀ y g, g < 11 → g ≠ 0 → V.1 79 (154 + 11 * y + g) = T.1 79 (154 + 11 * y + g) := fun y g hg h0 => c.no _ (fun i _ => by omega)
  have lo : ∀ j, j < 154 → V.1 79 j = T.1 79 j := fun j hj => c.no _ (fun i _ => by omega)
  have hi : ∀ j, 1080 ≤ j → j < 1161 → sv W j = sv U j := fun j h1 h2 => sv_hi h1 h2 (d.fr _ (by decide)) (d.fr _ (by decide)) (by rw [d.fr _ (by decide)])
  have k0i : ∀ i, i < m → sv W (15 * (hk i / 2)) = 0 := fun i hi => by
    have := hl i hi
    have e := sv_0 W (x := hk i / 2) (by omega)
    rw [d.yes i hi, if_pos rfl] at e
    exact e
  have k0n : ∀ y, y < n → (∀ i, i < m → y ≠ hk i / 2) → sv W (15 * y) = sv U (15 * y) := fun y hy no => by
    have e := sv_0 W (x := y) (by omega)
    have e' := sv_0 U (x := y) (by omega)
    rw [d.no y no] at e
    exact e.trans e'.symm
  refine ⟨fun y hy => ?_, fun p hp' => ?_, ?_, ?_, fun y s o hy hs ho q => ?_, fun y g hy h72' hg => by
    rw [sv_pt (W := W) (U := U) h72' (by omega) (by
      by_cases e : rwd g = 19
      · rw [e]; exact d.no y (fun i hi q => by have := hl i hi; omega)
      · rw [d.fr _ e]) (d.fr _ (by decide))]
    exact b.w.nw y g hy h72' hg⟩
  · have t := b.w.th y hy
    have run' : (sv W (15 * y + 11) = 0 ∧ sv W (15 * y + 10) = 0) ∨ (sv W (15 * y + 11) = 1 ∧ 0 < (sv W (15 * y + 10)).toInt ∧ sv W (15 * y) = 1 ∧ sv W (15 * y + 4) = -4 ∧ sv W (15 * y + 5) = -4 ∧ (∃ s, s < 2 ∧ sv W (15 * y + 12) = nI s) ∧ ∃ k, k ≤ 4 ∧ U.1 18 y = nI k) := by
      rw [kk y 11 hy (by omega) (by omega), kk y 10 hy (by omega) (by omega), kk y 4 hy (by omega) (by omega), kk y 5 hy (by omega) (by omega), kk y 12 hy (by omega) (by omega)]
      rcases in_line m hk y with ⟨i, hi, e⟩ | no
      · subst e
        left
        rcases t.run0 with r | r
        · exact r
        · have := r.1
          rw [sv_11 U (by omega), nr i hi, if_pos rfl] at this
          exact absurd this (by decide)
      · rw [k0n y hy no]; exact t.run0
    refine ⟨?_, ?_, ?_, ?_, ?_, ?_, ?_, ?_, ?_, ?_, ?_, ?_, ?_⟩
    · rcases in_line m hk y with ⟨i, hi, e⟩ | no
      · subst e
        exact Or.inl ⟨k0i i hi, c.yes i hi⟩
      · have cn := c.no (154 + 11 * y) (fun i hi e => no i hi (by omega))
        rw [k0n y hy no, kk y 1 hy (by omega) (by omega), kk y 2 hy (by omega) (by omega), cn]; exact t.at_
    · rw [cc y 1 (by omega) (by omega), kk y 3 hy (by omega) (by omega)]; exact t.look
    · rw [cc y 2 (by omega) (by omega), kk y 4 hy (by omega) (by omega)]; exact t.m0
    · rw [cc y 3 (by omega) (by omega), kk y 5 hy (by omega) (by omega)]; exact t.m1
    · rw [cc y 4 (by omega) (by omega), kk y 6 hy (by omega) (by omega)]; exact t.ser
    · rw [cc y 5 (by omega) (by omega), kk y 7 hy (by omega) (by omega)]; exact t.flt
    · rw [cc y 6 (by omega) (by omega), kk y 8 hy (by omega) (by omega)]; exact t.jam
    · rw [cc y 7 (by omega) (by omega), kk y 9 hy (by omega) (by omega)]; exact t.dgr
    · rw [cc y 8 (by omega) (by omega), kk y 10 hy (by omega) (by omega)]; exact t.run
    · rw [cc y 9 (by omega) (by omega), kk y 12 hy (by omega) (by omega)]; exact t.rsd
    · rw [cc y 10 (by omega) (by omega), kk y 14 hy (by omega) (by omega)]; exact t.tst
    · rw [kk y 14 hy (by omega) (by omega)]; exact t.tb
    · exact run'
  · rw [lo _ (by omega), lo _ (by omega), hi _ (by omega) (by omega), hi _ (by omega) (by omega)]; exact b.w.pt p hp'
  · rw [lo _ (by omega), hi _ (by omega) (by omega)]; exact b.w.dmp
  · obtain ⟨l, r⟩ := b.w.rns
    have hl := r.le
    refine ⟨l, by rw [lo _ (by omega)]; exact r.len, fun i hi => by rw [lo _ (by omega)]; exact r.cell i hi, fun y => ?_, ?_, fun y hy => ?_⟩
    · by_cases hy : y < n
      · rw [kk y 11 hy (by omega) (by omega)]; exact r.mem y
      · rw [r.mem y]; exact ⟨fun q => absurd q.1 hy, fun q => absurd q.1 hy⟩
    · refine r.srt.imp_of_mem (fun ha hb q => ?_)
      rw [kk _ 13 ((r.mem _).mp ha).1 (by omega) (by omega), kk _ 13 ((r.mem _).mp hb).1 (by omega) (by omega)]; exact q
    · rw [kk _ 13 ((r.mem _).mp hy).1 (by omega) (by omega)]; exact r.pos y hy
  · rw [Nat.add_assoc, kk y (4 + s) hy (by omega) (by omega), ← Nat.add_assoc] at q
    have e := b.w.mt y s o hy hs ho q
    have q23 : U.1 23 (2 * y + s) = nI o := by
      rcases (show s = 0 ∨ s = 1 by omega) with rfl | rfl
      · rw [Nat.add_zero, sv_4 U (by omega)] at q; exact q
      · rw [show 15 * y + 4 + 1 = 15 * y + 5 by omega, sv_5 U (by omega)] at q; exact q
    rcases in_line m hk y with ⟨i, hi, ey⟩ | no
    · subst ey
      rcases cl i s hi hs with z | ⟨k, hk', z⟩
      · exact absurd (q23.symm.trans z) (nI_m4 (by omega))
      · have := hl k hk'
        have : o = hk k / 2 := nI_inj (by omega) (by omega) (q23.symm.trans z)
        rw [k0i i hi, this, k0i k hk']
    · have no' : ∀ i, i < m → o ≠ hk i / 2 := fun i hi eo => by
        obtain ⟨pos, dir, hA⟩ := b.ac
        obtain ⟨o', t', ho', ht', z1, z2, -⟩ := ac_next hA h72 hy hs (by rw [q23]; exact nI_m4 (by omega))
        have : o = o' := nI_inj (by omega) (by omega) (q23.symm.trans z1)
        subst this
        rw [eo] at z2
        rcases cl i t' hi ht' with z | ⟨k, hk', z⟩
        · exact absurd (z2.symm.trans z) (nI_m4 (by omega))
        · have := hl k hk'
          exact no k hk' (nI_inj (by omega) (by omega) (z2.symm.trans z))
      rw [k0n y hy no, k0n o ho no']; exact e
theorem leave_body {n np nt : Nat} {T U V S2 : SS} {a1 rc r2 : Int32} (b : Bo n np nt T U) (hU : WR U) (h1 : f_Yard_leaveYard a1 T = some (rc, V))
    (h2 : bnd (f_M_missLeave a1 U) (fun r4 S3 => bnd (f_M_ends r4 S3) (fun r6 S5 => if r6 = 0 then f_M_leave_L31 NF (0 : Int32) S5 else bnd (f_M_entered (12 : Int32) (-2 : Int32) S5) (fun r12 S11 => some (r12, S11)))) = some (r2, S2)) : ∃ W, bnd (f_M_entered 12 rc W) (fun r S => some (r, S)) = some (r2, S2) ∧ En n np nt T U V W := by
  have h72 := b.s.n72
  rw [f_Yard_leaveYard.eq_1] at h1
  rw [f_M_missLeave.eq_1] at h2
  rcases named_al b a1 (w := 96) (v := 2) (by decide) with ⟨x, hx, rfl, p1, p2, c1, c2⟩ | ⟨r, r', n1, n2, c1, c2⟩
  · rw [c1, bnd_r, if_pos rfl, nM2] at h1
    rw [c2, bnd_r, if_pos rfl] at h2
    replace h1 := bndv_i h1
    obtain ⟨T1, l1, h1⟩ := h1
    replace h1 := bnd_i h1
    obtain ⟨r8, T2, f1, h1⟩ := h1
    replace h2 := bnd_i h2
    obtain ⟨r4, S3, f2, h2⟩ := h2
    replace f2 := bndv_i f2
    obtain ⟨U1, l2, f2⟩ := f2
    replace h2 := bnd_i h2
    obtain ⟨r6, S5, m2, h2⟩ := h2
    obtain ⟨m, hk, l, th, -, FM, q⟩ := b.line hx l1 l2
    have b1 := b.q q
    have th1 : ∀ i, i < m → thU U1 (hk i / 2) := fun i hi => by
      have := (th i hi).mpr p1
      unfold thU at this ⊢
      rw [q.mr 19 (by omega)]; exact this
    rw [f_Trains_leaveFinding.eq_1] at f1
    obtain ⟨rfl, rfl, z⟩ := lvf_al b1 l th1 NF NF 0 r8 r4 T2 S3 (by omega) f1 f2
    rw [f_Yard_leaveYard_j30.eq_1] at h1
    by_cases g : r8 = 0
    · have g4 := z.mp g
      subst g4
      rw [ends_0] at m2
      obtain ⟨rfl, rfl⟩ := so_i m2
      rw [if_pos g] at h1
      rw [if_pos rfl] at h2
      replace h1 := bndv_i h1
      obtain ⟨V1, s1, h1⟩ := h1
      obtain ⟨rfl, rfl⟩ := so_i h1
      have sl := setL l h72 (by omega) (show (0 : Int32) = nI 0 from rfl) b1.s.cn s1
      obtain ⟨W, g0, g1, g2, g3⟩ := l31 h72 NF 0 _ l (by omega) h2
      -- the line holds all that it is coupled to
      obtain ⟨U', eU', -, -, n', x', m', hn', h29, ex, hx', hm1, hm2, h56, lu, k, hk', ek⟩ := u_M_lineUp (a1 := nI x) hU (rg_nI (j := x) (by omega) (by omega) (by omega)) (fun zz => absurd zz (by rw [b.s.mn]; exact nI_ge hx (by omega)))
      rw [l2] at eU'
      injection eU' with eU'
      subst eU'
      have e1 : n = n' := nI_inj (by omega) (by omega) (b.s.mn.symm.trans h29)
      have e2 : m = m' := nI_inj (by have := l.m72; omega) (by omega) (l.ml.symm.trans h56)
      have e3 : x = x' := nI_inj (by omega) (by omega) ex
      subst e1 e2 e3
      have e23 : S5.1 23 = U.1 23 := q.mr 23 (by omega)
      have hl : ∀ i, i < m → hk i / 2 < n := fun i hi => by have := l.lt i hi; omega
      have cl : ∀ i d, i < m → d < 2 → S5.1 23 (2 * (hk i / 2) + d) = -4 ∨ ∃ k, k < m ∧ S5.1 23 (2 * (hk i / 2) + d) = nI (hk k / 2) := fun i d hi hd => by
        obtain ⟨y, hy, ey, cy⟩ := lu i hi
        have := hl i hi
        have : y = hk i / 2 := nI_inj (by omega) (by omega) (ey.symm.trans (l.mr i hi))
        subst this
        rw [e23]
        rcases cy d hd with z | ⟨k', hk'', z⟩
        · exact Or.inl z
        · exact Or.inr ⟨k', hk'', z.trans (l.mr k' hk'')⟩
      have nr : ∀ i, i < m → S5.1 31 (hk i / 2) = 0 := fun i hi => by
        have hxi := hl i hi
        rcases (b1.w.th _ hxi).run0 with ⟨r0, -⟩ | ⟨-, -, -, u4, u5, -, kk, k4, ekk⟩
        · rw [sv_11 S5 (by omega)] at r0
          exact Classical.byContradiction (fun c => by rw [if_neg c] at r0; exact absurd r0 (by decide))
        · exfalso
          rw [sv_4 S5 (by omega)] at u4
          rw [sv_5 S5 (by omega)] at u5
          have no : ∀ s, s < 2 → S5.1 23 (2 * (hk i / 2) + s) = -4 := fun s hs => by
            rcases (show s = 0 ∨ s = 1 by omega) with rfl | rfl
            · exact u4
            · exact u5
          by_cases m1 : m = 1
          · subst m1
            have : i = 0 := by omega
            subst this
            have : k = 0 := by omega
            subst this
            have ex0 : hk 0 / 2 = x := nI_inj (by omega) (by omega) ((l.mr 0 (by omega)).symm.trans ek)
            have o := (okw_c (k := kfU U x) (by have := (b.km x hx).2; omega)).1.mp p2
            have k2 := (b.km x hx).1
            rw [ex0, q.mf.r 18 (by decide) (by unfold mdy; omega), k2] at ekk
            have := nI_inj (by have := (b.km x hx).2; omega) (by omega) ekk
            omega
          · by_cases il : i + 1 < m
            · obtain ⟨⟨s, hs, es⟩, -⟩ := l.cp i il
              have := hl (i + 1) il
              exact absurd ((no s hs).symm.trans es) (fun z => nI_m4 (by omega) z.symm)
            · obtain ⟨-, s, hs, es⟩ := l.cp (i - 1) (by omega)
              rw [show i - 1 + 1 = i by omega] at es
              have := hl (i - 1) (by omega)
              exact absurd ((no s hs).symm.trans es) (fun z => nI_m4 (by omega) z.symm)
      rw [sl.fr 68 (by decide), l.cl]
      exact ⟨W, g0, En.q q (lv_en b1 nr cl hl sl ⟨fun j hj => g1 j (by omega) hj, fun y hy => g2 y (fun k _ k2 => hy k k2), g3⟩)⟩
    · rw [if_neg g] at h1
      replace h1 := bnd_i h1
      obtain ⟨q1, V1, l4, h1⟩ := h1
      obtain ⟨rfl, rfl⟩ := so_i h1
      obtain ⟨W, g0, en⟩ := no_al b1 l4 (fun zz => g (z.mpr zz)) m2 (g := fun S5 => f_M_leave_L31 NF (0 : Int32) S5) h2
      exact ⟨W, g0, En.q q en⟩
  · rw [c1, bnd_r, if_neg n1, f_Yard_leaveYard_j30.eq_1, if_neg n1] at h1
    replace h1 := bnd_i h1
    obtain ⟨q, V1, l, h1⟩ := h1
    obtain ⟨rfl, rfl⟩ := so_i h1
    rw [c2, bnd_r, if_neg n2, bnd_r] at h2
    replace h2 := bnd_i h2
    obtain ⟨r6, S5, m2, h2⟩ := h2
    exact no_al b l n2 m2 (g := fun S5 => f_M_leave_L31 NF (0 : Int32) S5) h2
theorem leave_st {n np nt L : Nat} {S S1 S2 : SS} {a1 r1 r2 : Int32} (h : Dz n np nt L S) (hL : L < 600) (hW : WR S) (hW1 : WR S1) (hW2 : WR S2) (z : Fz S S1 S2) (e1 : f_Yard_leave a1 S = some (r1, S1)) (e2 : f_M_leave a1 S1 = some (r2, S2)) : Az n np nt L r1 r2 S2 := by
  rw [f_Yard_leave.eq_1] at e1
  rw [f_M_leave.eq_1] at e2
  exact act_al h hL hW hW1 hW2 z (fun T U V rc b w _ g1 g2 => leave_body b w g1 g2) e1 e2
/-! ===== the hook ahead ===== -/
theorem nf_rd {n np nt : Nat} {T U V : SS} {x s : Nat} {r : Int32} (b : Bo n np nt T U) (hx : x < n) (h : thU U x) (hs : s < 2) (h1 : f_Trains_nextFrom (nI (2 * x + s)) T = some (r, V)) : V = T := by
  have hn := b.s.n72
  have hnt := b.s.nt24
  obtain ⟨t, p, q, ht, hq, hq2, hp, e20, e21, e79⟩ := b.pos hx h
  obtain ⟨d, hd, w1, w2⟩ := way_al b hx hs
  rw [f_Trains_nextFrom.eq_1, n_shr (by omega), show (2 * x + s) / 2 = x by omega, sg (f := 0) 0 rfl b.s.cn hn hx (by omega), bnd_r, Nat.add_zero, e79, w1, bnd_r] at h1
  replace h1 := bnd_i h1
  obtain ⟨r1, T1, h0, h1⟩ := h1
  obtain ⟨-, rfl⟩ := so_i h1
  rw [f_Layout_nextPlace.eq_1, c_endNext b ht hq hq2 hp hd, bnd_r] at h0
  by_cases c : p = (if d = 0 then 0 else q - 1)
  · rw [if_pos c, if_neg (nI_m4 (by omega))] at h0
    replace h0 := bnd_i h0
    obtain ⟨r4, V3, l1, h0⟩ := h0
    obtain ⟨e3, m, hm, em, l2⟩ := c_leads b (by omega) l1
    rw [e3] at h0
    rcases l2 with ⟨l3, rfl⟩ | ⟨l3, rfl⟩
    · rw [if_pos rfl] at h0
      exact (so_i h0).2
    · obtain ⟨f, hf, hfe, ef⟩ := b.s.lt (2 * t + d) _ m (by omega) em hm l3
      rw [ef, if_neg (nI_m4 (by omega))] at h0
      replace h0 := bnd_i h0
      obtain ⟨r6, V5, k1, h0⟩ := h0
      obtain ⟨e5, -⟩ := c_leads b (by omega) k1
      rw [e5] at h0
      by_cases z : r6 = nI (2 * t + d)
      · rw [if_pos z, c_spotAt b hf, bnd_r] at h0
        by_cases y : nI (24 * (f / 2) + plE U f) = nI (24 * t + p)
        · rw [if_pos y] at h0; exact (so_i h0).2
        · rw [if_neg y, c_spotAt b hf, bnd_r] at h0; exact (so_i h0).2
      · rw [if_neg z] at h0; exact (so_i h0).2
  · rw [if_neg c, if_pos rfl] at h0
    exact (so_i h0).2
theorem nf_al {n np nt : Nat} {T U V W : SS} {x s : Nat} {r wy bo : Int32} (b : Bo n np nt T U) (hx : x < n) (h : thU U x) (hs : s < 2) (h1 : f_Trains_nextFrom (nI (2 * x + s)) T = some (r, V)) (hw : f_M_wayOf (nI x) (nI s) U = some (wy, U)) (h2 : f_M_isOpen (U.1 20 x) (U.1 21 x) wy U = some (bo, W)) : V = T ∧ Fn U W ∧ Nxt nt (U.1 3) r bo W := by
  have hn := b.s.n72
  obtain ⟨t, p, q, ht, hq, hq2, hp, e20, e21, e79⟩ := b.pos hx h
  obtain ⟨d, hd, w1, w2⟩ := way_al b hx hs
  rw [f_Trains_nextFrom.eq_1, n_shr (by omega), show (2 * x + s) / 2 = x by omega, sg (f := 0) 0 rfl b.s.cn hn hx (by omega), bnd_r, Nat.add_zero, e79, w1, bnd_r] at h1
  replace h1 := bnd_i h1
  obtain ⟨r1, T1, h0, h1⟩ := h1
  obtain ⟨rfl, rfl⟩ := so_i h1
  rw [w2 U rfl] at hw
  obtain ⟨rfl, -⟩ := so_i hw
  rw [e20, e21] at h2
  exact next_al b ht hq hq2 hp hd h0 h2
theorem c_run {n np nt : Nat} {T U : SS} {x : Nat} (b : Bo n np nt T U) (hx : x < n) : f_State_isRunning (nI x) T = some (if U.1 31 x = 0 then 0 else 1, T) := by
  have hn := b.s.n72
  have t := b.w.th x hx
  rw [f_State_isRunning.eq_1, sg (f := 8) 8 rfl b.s.cn hn hx (by omega), bnd_r, t.run]
  rcases t.run0 with ⟨a, c⟩ | ⟨a, c, -⟩
  · rw [sv_11 U (by omega)] at a
    have : U.1 31 x = 0 := Classical.byContradiction (fun z => by rw [if_neg z] at a; exact absurd a (by decide))
    rw [c, if_pos (by decide), if_pos this]
  · rw [sv_11 U (by omega)] at a
    have : ¬ U.1 31 x = 0 := fun z => by rw [if_pos z] at a; exact absurd a (by decide)
    rw [if_neg this, if_neg (fun z => by
      rw [Int32.le_iff_toInt_le] at z
      have : (0 : Int32).toInt = 0 := by decide
      omega)]
theorem c_cpd {n np nt : Nat} {T U : SS} {x s : Nat} (b : Bo n np nt T U) (hx : x < n) (hs : s < 2) : f_Trains_isCoupled (nI (2 * x + s)) T = some (if U.1 23 (2 * x + s) = -4 then 0 else 1, T) := by
  have hn := b.s.n72
  have h := b.w.mates hn b.s.cn
  rw [f_Trains_isCoupled.eq_1, n_shr (by omega), n_and (by omega), show (2 * x + s) / 2 = x by omega, show (2 * x + s) % 2 = s by omega, show (2 : Int32) + nI s = nI (2 + s) from nI_add 2 s, sg (f := 2 + s) _ rfl b.s.cn hn hx (by omega), bnd_r, h.mc x s hx hs]
  by_cases c : U.1 23 (2 * x + s) = -4
  · rw [if_pos c, if_pos c]
  · rw [if_neg c, if_neg c]
/-- what stands at a place: class and reference -/
theorem stand_al {n np nt : Nat} {T U V W : SS} {t p q : Nat} {r r' : Int32} (b : Bo n np nt T U) (ht : t < nt) (hp : p < q) (hq : q ≤ 24) (h1 : f_State_standsAt (nI (24 * t + p)) T = some (r, V)) (h2 : f_M_standing (nI t) (nI p) U = some (r', W)) : V = T ∧ W = U ∧ r' = r ∧ (r = -4 ∨ ∃ o, o < n ∧ r = nI o ∧ thU U o ∧ T.1 79 (154 + 11 * o) = nI (24 * t + p)) := by
  have hnt := b.s.nt24
  obtain ⟨rfl, e1⟩ := c_stands b.s.cn b.s.n72 h1
  obtain ⟨rfl, e2⟩ := m_stand b.s.mn b.s.n72 hnt b.w (by omega) (by omega) h2
  refine ⟨rfl, rfl, e2.trans e1.symm, ?_⟩
  rcases stA_or (V.1 79) (nI (24 * t + p)) n 0 with z | ⟨o, -, ho, z1, z2⟩
  · exact Or.inl (e1.trans z)
  · refine Or.inr ⟨o, by omega, e1.trans z1, ?_, z2⟩
    have := b.thc o (by omega)
    rw [z2] at this
    exact Classical.byContradiction (fun c => nI_nn (by omega) (this.mpr c))
theorem stA_rd {n np nt : Nat} {T U V : SS} {s r : Int32} (b : Bo n np nt T U) (h1 : f_State_standsAt s T = some (r, V)) : V = T := (c_stands b.s.cn b.s.n72 h1).1
/-- whether o is of the line -/
theorem one_c {n m o : Nat} {hk : Nat → Nat} {T U : SS} (l : Ln n T U m hk) (h72 : n ≤ 72) (ho : o < n) : ∀ (N i : Nat) (r : Int32) (V : SS), i ≤ m → f_Trains_areOne_L9 N (nI o) (nI i) T = some (r, V) → V = T ∧ (r = 0 ↔ ∀ k, i ≤ k → k < m → hk k / 2 ≠ o)
  | 0, i, r, V, _, h => by cases h
  | N + 1, i, r, V, hi, h => by
    have hm := l.m72
    rw [f_Trains_areOne_L9.eq_2, l.cl] at h
    by_cases c : i = m
    · subst c
      rw [if_pos (nI_le (by omega) (by omega))] at h
      obtain ⟨rfl, rfl⟩ := so_i h
      exact ⟨rfl, fun _ k a b => by omega, fun _ => rfl⟩
    · have hx : hk i / 2 < n := by have := l.lt i (by omega); omega
      rw [if_neg (nI_ge (by omega) (by omega)), c_inL l h72 (by omega), bnd_r] at h
      by_cases d : hk i / 2 = o
      · rw [if_pos (congrArg nI d)] at h
        obtain ⟨rfl, rfl⟩ := so_i h
        exact ⟨rfl, fun z => absurd z (by decide), fun z => absurd d (z i (Nat.le_refl _) (by omega))⟩
      · rw [if_neg (fun z => d (nI_inj (by omega) (by omega) z)), nmR, nI_1] at h
        obtain ⟨g1, g2⟩ := one_c l h72 ho N (i + 1) r V (by omega) h
        refine ⟨g1, g2.trans ⟨fun z k a b => ?_, fun z k a b => z k (by omega) b⟩⟩
        by_cases e : k = i
        · subst e; exact d
        · exact z k (by omega) b
theorem one_m {n m o : Nat} {hk : Nat → Nat} {T U : SS} (l : Ln n T U m hk) (h72 : n ≤ 72) (ho : o < n) : ∀ (M i : Nat) (y r : Int32) (W : SS), i ≤ m → f_M_areTogether_L10 M (nI o) y (nI i) U = some (r, W) → W = U ∧ (r = 0 ↔ y = 0 ∧ ∀ k, i ≤ k → k < m → hk k / 2 ≠ o)
  | 0, i, y, r, W, _, h => by cases h
  | M + 1, i, y, r, W, hi, h => by
    have hm := l.m72
    rw [f_M_areTogether_L10.eq_2, l.ml] at h
    by_cases c : i = m
    · subst c
      rw [if_pos (nI_le (by omega) (by omega))] at h
      obtain ⟨-, h⟩ := grd_i h
      obtain ⟨rfl, rfl⟩ := so_i h
      exact ⟨rfl, fun z => ⟨z, fun k a b => by omega⟩, fun z => z.1⟩
    · have hx : hk i / 2 < n := by have := l.lt i (by omega); omega
      rw [if_neg (nI_ge (by omega) (by omega))] at h
      have nx : ∀ y', f_M_areTogether_j39 (fun v0 v1 v2 S => f_M_areTogether_L10 M v0 v1 v2 S) (nI o) (nI i) y' U = some (r, W) → W = U ∧ (r = 0 ↔ y' = 0 ∧ ∀ k, i + 1 ≤ k → k < m → hk k / 2 ≠ o) := fun y' h => by
        rw [f_M_areTogether_j39.eq_1, nmR, nI_1] at h
        exact one_m l h72 ho M (i + 1) y' r W (by omega) h
      by_cases g : y = 0
      · rw [if_pos g, grT (inb_nI (by omega) (by omega)), nI_clamp (by omega), l.mr i (by omega)] at h
        by_cases d : hk i / 2 = o
        · rw [if_pos (congrArg nI d), f_M_areTogether_j34.eq_1] at h
          obtain ⟨g1, g2⟩ := nx 1 h
          exact ⟨g1, g2.trans ⟨fun z => absurd z.1 (by decide), fun z => absurd d (z.2 i (Nat.le_refl _) (by omega))⟩⟩
        · rw [if_neg (fun z => d (nI_inj (by omega) (by omega) z))] at h
          obtain ⟨g1, g2⟩ := nx 0 h
          refine ⟨g1, g2.trans ⟨fun z => ⟨g, fun k a b => ?_⟩, fun z => ⟨rfl, fun k a b => z.2 k (by omega) b⟩⟩⟩
          by_cases e : k = i
          · subst e; exact d
          · exact z.2 k (by omega) b
      · rw [if_neg g, f_M_areTogether_j34.eq_1] at h
        obtain ⟨g1, g2⟩ := nx 1 h
        exact ⟨g1, g2.trans ⟨fun z => absurd z.1 (by decide), fun z => absurd z.1 g⟩⟩
theorem one_al {n np nt : Nat} {T U V W : SS} {x o : Nat} {r r' : Int32} (b : Bo n np nt T U) (hx : x < n) (ho : o < n) (h1 : f_Trains_areOne (nI x) (nI o) T = some (r, V)) (h2 : f_M_areTogether (nI x) (nI o) U = some (r', W)) : (r = 0 ↔ r' = 0) ∧ FcL T V ∧ FmL U W := by
  rw [f_Trains_areOne.eq_1, nM2] at h1
  rw [f_M_areTogether.eq_1] at h2
  replace h1 := bndv_i h1
  obtain ⟨T1, l1, h1⟩ := h1
  replace h2 := bndv_i h2
  obtain ⟨U1, l2, h2⟩ := h2
  obtain ⟨m, hk, l, -, F1, F2, -⟩ := b.line hx l1 l2
  obtain ⟨rfl, g1⟩ := one_c l b.s.n72 ho NF 0 r V (by omega) h1
  obtain ⟨rfl, g2⟩ := one_m l b.s.n72 ho NF 0 0 r' W (by omega) h2
  exact ⟨g1.trans ⟨fun z => g2.mpr ⟨rfl, z⟩, fun z => (g2.mp z).2⟩, F1, F2⟩
/-! ===== couplings change ===== -/
theorem Rw.mat {n np nt : Nat} {pl kf : Nat → Int32} {B : Int} {K c K' c' : Nat → Int32} {x s : Nat} {v : Int32} (h : Rw n np nt pl kf B K c) (hn : n ≤ 72) (hnp : np ≤ 40) (hx : x < n) (hs : s < 2) (hv : v = -4 ∨ (K (15 * x + 11) = 0 ∧ ∀ o, o < n → v = nI o → K (15 * o) = K (15 * x))) (eK : ∀ j, j < 1161 → K' j = if j = 15 * x + (4 + s) then v else K j) (ec : ∀ j, c' j = if j = 154 + 11 * x + (2 + s) then v else c j) : Rw n np nt pl kf B K' c' := by
  have kk : ∀ y e, y < n → e < 15 → ¬ (y = x ∧ e = 4 + s) → K' (15 * y + e) = K (15 * y + e) := fun y e hy he q => by rw [eK _ (by omega), if_neg (by omega)]
  have cc : ∀ y g, g < 11 → ¬ (y = x ∧ g = 2 + s) → c' (154 + 11 * y + g) = c (154 + 11 * y + g) := fun y g hg q => by rw [ec, if_neg (by omega)]
  have lo : ∀ j, j < 154 → c' j = c j := fun j hj => by rw [ec, if_neg (by omega)]
  have hi : ∀ j, 1080 ≤ j → j < 1161 → K' j = K j := fun j h1 h2 => by rw [eK _ h2, if_neg (by omega)]
  have k0 : ∀ y, y < n → K' (15 * y) = K (15 * y) := fun y hy => kk y 0 hy (by omega) (by omega)
  have pr : ∀ y d, y < n → d < 2 → c (154 + 11 * y + (2 + d)) = K (15 * y + (4 + d)) → c' (154 + 11 * y + (2 + d)) = K' (15 * y + (4 + d)) := fun y d hy hd t => by
    by_cases r : y = x ∧ d = s
    · rw [eK _ (by omega), if_pos (by omega), ec, if_pos (by omega)]
    · rw [kk y (4 + d) hy (by omega) (by omega), cc y (2 + d) (by omega) (by omega)]; exact t
  refine ⟨fun y hy => ?_, fun p hp' => ?_, ?_, ?_, fun y d o hy hd ho q => ?_, fun y e hy h72 he => by rw [eK _ (by omega), if_neg (by omega)]; exact h.nw y e hy h72 he⟩
  · have t := h.th y hy
    have c0 := cc y 0 (by omega) (by omega)
    rw [Nat.add_zero] at c0
    refine ⟨?_, ?_, ?_, ?_, ?_, ?_, ?_, ?_, ?_, ?_, ?_, ?_, ?_⟩
    · rw [k0 y hy, c0, kk y 1 hy (by omega) (by omega), kk y 2 hy (by omega) (by omega)]; exact t.at_
    · rw [cc y 1 (by omega) (by omega), kk y 3 hy (by omega) (by omega)]; exact t.look
    · exact pr y 0 hy (by omega) t.m0
    · exact pr y 1 hy (by omega) t.m1
    · rw [cc y 4 (by omega) (by omega), kk y 6 hy (by omega) (by omega)]; exact t.ser
    · rw [cc y 5 (by omega) (by omega), kk y 7 hy (by omega) (by omega)]; exact t.flt
    · rw [cc y 6 (by omega) (by omega), kk y 8 hy (by omega) (by omega)]; exact t.jam
    · rw [cc y 7 (by omega) (by omega), kk y 9 hy (by omega) (by omega)]; exact t.dgr
    · rw [cc y 8 (by omega) (by omega), kk y 10 hy (by omega) (by omega)]; exact t.run
    · rw [cc y 9 (by omega) (by omega), kk y 12 hy (by omega) (by omega)]; exact t.rsd
    · rw [cc y 10 (by omega) (by omega), kk y 14 hy (by omega) (by omega)]; exact t.tst
    · rw [kk y 14 hy (by omega) (by omega)]; exact t.tb
    · rw [k0 y hy, kk y 11 hy (by omega) (by omega), kk y 10 hy (by omega) (by omega), kk y 12 hy (by omega) (by omega)]
      rcases t.run0 with r | ⟨r1, r2, r3, r4, r5, r6⟩
      · exact Or.inl r
      · have m : ∀ d, d < 2 → K (15 * y + (4 + d)) = -4 → K' (15 * y + (4 + d)) = -4 := fun d hd z => by
          by_cases r : y = x ∧ d = s
          · rw [eK _ (by omega), if_pos (by omega)]
            rcases hv with e | ⟨e, -⟩
            · exact e
            · rw [← r.1, r1] at e; exact absurd e (by decide)
          · rw [kk y (4 + d) hy (by omega) (by omega)]; exact z
        exact Or.inr ⟨r1, r2, r3, m 0 (by omega) r4, m 1 (by omega) r5, r6⟩
  · rw [lo _ (by omega), lo _ (by omega), hi _ (by omega) (by omega), hi _ (by omega) (by omega)]; exact h.pt p hp'
  · rw [lo _ (by omega), hi _ (by omega) (by omega)]; exact h.dmp
  · obtain ⟨l, r⟩ := h.rns
    have hl := r.le
    refine ⟨l, by rw [lo _ (by omega)]; exact r.len, fun i hi => by rw [lo _ (by omega)]; exact r.cell i hi, fun y => ?_, ?_, fun y hy => ?_⟩
    · by_cases hy : y < n
      · rw [kk y 11 hy (by omega) (by omega)]; exact r.mem y
      · rw [r.mem y]; exact ⟨fun q => absurd q.1 hy, fun q => absurd q.1 hy⟩
    · refine r.srt.imp_of_mem (fun ha hb q => ?_)
      rw [kk _ 13 ((r.mem _).mp ha).1 (by omega) (by omega), kk _ 13 ((r.mem _).mp hb).1 (by omega) (by omega)]; exact q
    · rw [kk _ 13 ((r.mem _).mp hy).1 (by omega) (by omega)]; exact r.pos y hy
  · rw [k0 y hy, k0 o ho]
    by_cases r : y = x ∧ d = s
    · rw [Nat.add_assoc, eK _ (by omega), if_pos (by omega)] at q
      rcases hv with e | ⟨-, e⟩
      · exact absurd (q.symm.trans e) (nI_m4 (by omega))
      · rw [r.1]; exact e o ho q
    · rw [Nat.add_assoc, kk y (4 + d) hy (by omega) (by omega), ← Nat.add_assoc] at q
      exact h.mt y d o hy hd ho q
theorem svw_45 {U : SS} {x s : Nat} {v : Int32} (hx : x < 72) (hs : s < 2) : ∀ j, j < 1161 → sv (st U 23 (2 * x + s) v) j = if j = 15 * x + (4 + s) then v else sv U j := by
  rcases (show s = 0 ∨ s = 1 by omega) with rfl | rfl
  · exact svw_4 hx
  · exact svw_5 hx
theorem En.mat {n np nt : Nat} {T0 U0 T U : SS} {x s : Nat} {v : Int32} (h : En n np nt T0 U0 T U) (h72 : n ≤ 72) (hnp : np ≤ 40) (hx : x < n) (hs : s < 2) (hv : v = -4 ∨ (U.1 31 x = 0 ∧ ∀ o, o < n → v = nI o → (thU U o ↔ thU U x))) : En n np nt T0 U0 (st T 79 (154 + 11 * x + (2 + s)) v) (st U 23 (2 * x + s) v) := by
  refine ⟨h.cf.w (by unfold cdy; omega), h.mf.w (by unfold mdy; omega), ?_, ?_, ⟨?_, fun i => ?_⟩, ?_⟩
  · rw [st_row _ _ _ _ (by decide)]
    refine h.w.mat (v := v) h72 hnp hx hs ?_ (fun j hj => svw_45 (by omega) hs j hj) (fun j => by rw [st_at, if_pos rfl])
    rcases hv with e | ⟨e1, e2⟩
    · exact Or.inl e
    · refine Or.inr ⟨by rw [sv_11 U (by omega), if_pos e1], fun o ho eo => ?_⟩
      have := e2 o ho eo
      rw [show (15 * o : Nat) = 15 * o + 0 from rfl, show (15 * x : Nat) = 15 * x + 0 from rfl, sv_0 U (by omega), sv_0 U (by omega)]
      unfold thU at this
      by_cases c : U.1 19 o = 0
      · rw [if_pos c, if_pos (Classical.byContradiction (fun z => this.mpr z c))]
      · rw [if_neg c, if_neg (this.mp c)]
  · rw [st_row _ _ _ _ (by decide)]; exact h.hB
  · rw [st_row _ _ _ _ (by decide), st_row _ _ _ _ (by decide)]; exact h.te.n
  · rw [st_row _ _ _ _ (by decide), st_row _ _ _ _ (by decide)]; exact h.te.r i
  · rw [st_row _ _ _ _ (by decide), st_row _ _ _ _ (by decide)]; exact h.sr
/-! ===== frames of the reference's walks ===== -/
theorem fmL81 : ∀ (N : Nat) (x s : Int32) (U W : SS), f_M_lineUp_L81 N x s U = some W → FmL U W
  | 0, x, s, U, W, h => by cases h
  | N + 1, x, s, U, W, h => by
    rw [f_M_lineUp_L81.eq_2] at h
    obtain ⟨-, h⟩ := grd_i h
    by_cases c : U.1 23 (2 * x + s).toNatClampNeg = -4
    · rw [if_pos c, wr_r] at h
      injection h with h
      subst h
      exact FmL.rf.w2 (by omega)
    · rw [if_neg c] at h
      replace h := (grd_i h).2
      rw [nmR] at h
      replace h := bnd_i h
      obtain ⟨r9, S8, e, h⟩ := h
      rw [f_M_sideTo.eq_1] at e
      replace e := (grd_i e).2
      have e8 : S8 = U := by
        by_cases d : U.1 23 ((2 : Int32) * U.1 23 (2 * x + s).toNatClampNeg).toNatClampNeg = x
        · rw [if_pos d] at e; exact (so_i e).2
        · rw [if_neg d] at e; exact (so_i e).2
      rw [e8, nmR] at h
      replace h := (grd_i h).2
      rw [wr_r, wr_r] at h
      exact (FmL.rf.w1.w2 (by omega)).tr (fmL81 N _ _ _ W h)
theorem fmL4 : ∀ (N : Nat) (x s : Int32) (U W : SS), f_M_lineUp_L4 N x s U = some W → FmL U W
  | 0, x, s, U, W, h => by cases h
  | N + 1, x, s, U, W, h => by
    rw [f_M_lineUp_L4.eq_2] at h
    obtain ⟨-, h⟩ := grd_i h
    by_cases c : U.1 23 (2 * x + s).toNatClampNeg = -4
    · rw [if_pos c, wr_r, wr_r, nmR] at h
      replace h := (grd_i h).2
      rw [wr_r, wr_r] at h
      exact ((((FmL.rf.w2 (by omega)).w2 (by omega)).w1).w2 (by omega)).tr (fmL81 _ _ _ _ W h)
    · rw [if_neg c] at h
      replace h := (grd_i h).2
      rw [nmR] at h
      replace h := bnd_i h
      obtain ⟨r9, S8, e, h⟩ := h
      rw [f_M_sideTo.eq_1] at e
      replace e := (grd_i e).2
      have e8 : S8 = U := by
        by_cases d : U.1 23 ((2 : Int32) * U.1 23 (2 * x + s).toNatClampNeg).toNatClampNeg = x
        · rw [if_pos d] at e; exact (so_i e).2
        · rw [if_neg d] at e; exact (so_i e).2
      rw [e8, nmR] at h
      exact fmL4 N _ _ U W h
theorem fmL17 : ∀ (N : Nat) (x : Int32) (U W : SS), f_M_renumber_L17 N x U = some W → ∀ k, k ≠ 24 → k ≠ 34 → W.1 k = U.1 k
  | 0, x, U, W, h => by cases h
  | N + 1, x, U, W, h => by
    rw [f_M_renumber_L17.eq_2] at h
    by_cases c : U.1 0 56 ≤ x
    · rw [if_pos c] at h
      injection h with h
      subst h
      exact fun _ _ _ => rfl
    · rw [if_neg c] at h
      replace h := (grd_i (grd_i h).2).2
      rw [wr_r] at h
      replace h := (grd_i (grd_i h).2).2
      rw [wr_r, nmR] at h
      intro k k1 k2
      rw [fmL17 N _ _ W h k k1 k2, st_row _ _ _ _ k2, st_row _ _ _ _ k1]
theorem fmR {a : Int32} {U W : SS} (h : f_M_renumber a U = some W) : W.1 23 = U.1 23 ∧ W.1 31 = U.1 31 ∧ W.1 19 = U.1 19 ∧ W.1 0 66 = U.1 0 66 := by
  rw [f_M_renumber.eq_1, wr_r] at h
  replace h := bndv_i h
  obtain ⟨U2, l, h⟩ := h
  rw [f_M_lineUp.eq_1] at l
  have F := fmL4 _ _ _ _ _ l
  have G := fmL17 _ _ _ _ h
  refine ⟨?_, ?_, ?_, ?_⟩
  · rw [G 23 (by decide) (by decide), F.r 23 (by decide) (by decide), st_row _ _ _ _ (by decide)]
  · rw [G 31 (by decide) (by decide), F.r 31 (by decide) (by decide), st_row _ _ _ _ (by decide)]
  · rw [G 19 (by decide) (by decide), F.r 19 (by decide) (by decide), st_row _ _ _ _ (by decide)]
  · rw [G 0 (by decide) (by decide), F.f 66 (by decide) (by decide) (by decide), st_no (by omega)]
theorem ent_r {act r r2 : Int32} {W S2 : SS} (h : bnd (f_M_entered act r W) (fun r S => some (r, S)) = some (r2, S2)) : ∀ k, k ≠ 0 → k ≠ 41 → k ≠ 42 → S2.1 k = W.1 k := by
  replace h := bnd_i h
  obtain ⟨a, X, e, h⟩ := h
  obtain ⟨-, rfl⟩ := so_i h
  rw [f_M_entered.eq_1] at e
  replace e := (grd_i e).2
  rw [wr_r] at e
  replace e := (grd_i e).2
  rw [wr_r, wr_r] at e
  obtain ⟨-, rfl⟩ := so_i e
  intro k k1 k2 k3
  rw [st_row _ _ _ _ k1, st_row _ _ _ _ k3, st_row _ _ _ _ k2]
/-! ===== a new SERIAL for a line ===== -/
theorem rn17 {n m : Nat} {hk : Nat → Nat} {T W : SS} {v : Int32} (h72 : n ≤ 72) : ∀ (M i : Nat) (U : SS), Ln n T U m hk → U.1 0 49 = v → i ≤ m → f_M_renumber_L17 M (nI i) U = some W → (∀ j, i ≤ j → j < m → W.1 24 (hk j / 2) = v ∧ W.1 34 (hk j / 2) = 0) ∧ (∀ x, (∀ k, i ≤ k → k < m → x ≠ hk k / 2) → W.1 24 x = U.1 24 x ∧ W.1 34 x = U.1 34 x)
  | 0, i, U, _, _, _, h => by cases h
  | M + 1, i, U, l, hv, hi, h => by
    have hm := l.m72
    rw [f_M_renumber_L17.eq_2, l.ml] at h
    by_cases c : i = m
    · subst c
      rw [if_pos (nI_le (by omega) (by omega))] at h
      injection h with h
      subst h
      exact ⟨fun j a b => by omega, fun x _ => ⟨rfl, rfl⟩⟩
    · have hx : hk i / 2 < n := by have := l.lt i (by omega); omega
      rw [if_neg (nI_ge (by omega) (by omega)), grT (inb_nI (by omega) (by omega)), nI_clamp (n := i) (by omega), l.mr i (by omega), grT (inb_nI (by omega) (by omega)), wr_r, grT (inb_nI (by omega) (by omega)), st_row _ _ _ _ (by decide), l.mr i (by omega), grT (inb_nI (by omega) (by omega)), wr_r, nmR, nI_1, nI_clamp (by omega), show vp_nar .boolean (0 : Int32) = 0 from by decide, hv] at h
      obtain ⟨g1, g2⟩ := rn17 (v := v) h72 M (i + 1) _ (l.fr (V := T) (W := st (st U 24 (hk i / 2) v) 34 (hk i / 2) 0) rfl rfl (by rw [st_row _ _ _ _ (by decide), st_row _ _ _ _ (by decide)]) (fun j _ => by rw [st_row _ _ _ _ (by decide), st_row _ _ _ _ (by decide)]) (by rw [st_row _ _ _ _ (by decide), st_row _ _ _ _ (by decide)])) (by rw [st_row _ _ _ _ (by decide), st_row _ _ _ _ (by decide)]; exact hv) (by omega) h
      refine ⟨fun j a b => ?_, fun x a => ?_⟩
      · by_cases e : j = i
        · subst e
          have z := g2 (hk j / 2) (fun k k1 k2 q => by have := l.nd j k (by omega) k2 q; omega)
          rw [z.1, z.2]
          exact ⟨by rw [st_row _ _ _ _ (by decide), st_here], by rw [st_here]⟩
        · exact g1 j (by omega) b
      · have z := g2 x (fun k k1 k2 => a k (by omega) k2)
        have ne : x ≠ hk i / 2 := a i (Nat.le_refl _) (by omega)
        rw [z.1, z.2]
        exact ⟨by rw [st_row _ _ _ _ (by decide), st_no (fun q => ne q.2)], by rw [st_no (fun q => ne q.2), st_row _ _ _ _ (by decide)]⟩
theorem rwd_614 {g : Nat} (h : g < 15) (h0 : g ≠ 6) (h1 : g ≠ 14) : rwd g ≠ 24 ∧ rwd g ≠ 34 ∧ rwd g ≠ 0 ∧ rwd g ≠ 39 := by
  have : ∀ g : Fin 15, g.1 ≠ 6 → g.1 ≠ 14 → rwd g.1 ≠ 24 ∧ rwd g.1 ≠ 34 ∧ rwd g.1 ≠ 0 ∧ rwd g.1 ≠ 39 := by decide
  exact this ⟨g, h⟩ h0 h1
theorem renew_al {n np nt : Nat} {T0 U0 T U V W : SS} {x : Nat} (hs : Sta n np nt T0 U0) (h : En n np nt T0 U0 T U) (hA : AC n (U.1 23)) (hx : x < n) (h1 : f_Trains_renew (nI x) T = some V) (h2 : f_M_renumber (nI x) U = some W) : En n np nt T0 U0 V W := by
  have s := hs.cm h.cf h.mf
  have h72 := s.n72
  have hnp := s.np40
  rw [f_Trains_renew.eq_1, nM2] at h1
  rw [f_M_renumber.eq_1, wr_r] at h2
  replace h1 := bndv_i h1
  obtain ⟨T1, l1, h1⟩ := h1
  replace h2 := bndv_i h2
  obtain ⟨U2, l2, h2⟩ := h2
  rw [f_Trains_nextSerial.eq_1, wr_r, bnd_r, st_here] at h1
  replace h1 := bndv_i h1
  obtain ⟨T3, a1, h1⟩ := h1
  replace h1 := bndv_i h1
  obtain ⟨T4, a2, h1⟩ := h1
  injection h1 with h1
  subst h1
  have mt : Mt n (U.1 23) T (st U 0 49 (U.1 0 49 + 1)) := (h.w.mates h72 s.cn).fr rfl rfl (by rw [st_row _ _ _ _ (by decide)])
  obtain ⟨m, hk, l, -, F1, F2⟩ := line_al (P := fun _ => True) mt hA (fun _ _ _ _ _ _ _ => Iff.rfl) hx l1 l2
  have e5 : T1.1 68 5 = T.1 68 5 := F1.f 5 (by decide)
  have e49 : U2.1 0 49 = T.1 68 5 + 1 := by rw [F2.f 49 (by decide) (by decide) (by decide), st_here, h.sr]
  rw [e5] at a1
  have lT2 : Ln n (st T1 68 5 (T.1 68 5 + 1)) U2 m hk := l.fr (by rw [st_row _ _ _ _ (by decide)]) (by rw [st_no (by omega)]) rfl (fun _ _ => rfl) rfl
  have cT2 : (st T1 68 5 (T.1 68 5 + 1)).1 63 1 = nI n := by rw [st_row _ _ _ _ (by decide), F1.r 63 (by decide) (by decide)]; exact s.cn
  have s1 := setL lT2 h72 (by omega) (show (4 : Int32) = nI 4 from rfl) cT2 a1
  have lT3 : Ln n T3 U2 m hk := lT2.fr (s1.fr 104 (by decide)) (by rw [s1.fr 68 (by decide)]) rfl (fun _ _ => rfl) rfl
  have s2 := setL lT3 h72 (by omega) (show (10 : Int32) = nI 10 from rfl) (by rw [s1.fr 63 (by decide)]; exact cT2) a2
  obtain ⟨g1, g2⟩ := rn17 h72 NF 0 U2 l e49 (by omega) h2
  have G := fmL17 _ _ _ _ h2
  have Vr : ∀ k, k ≠ 79 → k ≠ 68 → k ≠ 104 → T4.1 k = T.1 k := fun k a b c => by rw [s2.fr k a, s1.fr k a, st_row _ _ _ _ b, F1.r k c b]
  have V68 : T4.1 68 5 = T.1 68 5 + 1 := by rw [s2.fr 68 (by decide), s1.fr 68 (by decide), st_here]
  have Wr : ∀ k, k ≠ 0 → k ≠ 24 → k ≠ 34 → k ≠ 39 → W.1 k = U.1 k := fun k a b c d => by rw [G k b c, F2.r k a d, st_row _ _ _ _ a]
  have Wf : ∀ i, i ≠ 49 → i ≠ 56 → i ≠ 57 → i ≠ 58 → W.1 0 i = U.1 0 i := fun i a b c d => by rw [G 0 (by decide) (by decide), F2.f i b c d, st_no (by omega)]
  have W49 : W.1 0 49 = T.1 68 5 + 1 := by rw [G 0 (by decide) (by decide)]; exact e49
  have t79 : (st T1 68 5 (T.1 68 5 + 1)).1 79 = T.1 79 := by rw [st_row _ _ _ _ (by decide), F1.r 79 (by decide) (by decide)]
  refine ⟨fun k hk => ?_, ⟨fun k k0 hk => ?_, fun i hi => ?_⟩, ?_, ?_, ⟨?_, fun i => ?_⟩, by rw [V68, W49]⟩
  · rw [Vr k (by unfold cdy at hk; omega) (by unfold cdy at hk; omega) (by unfold cdy at hk; omega)]; exact h.cf k hk
  · rw [Wr k k0 (by unfold mdy at hk; omega) (by unfold mdy at hk; omega) (by unfold mdy at hk; omega)]; exact h.mf.r k k0 hk
  · rw [Wf i (by unfold mdf at hi; omega) (by unfold mdf at hi; omega) (by unfold mdf at hi; omega) (by unfold mdf at hi; omega)]; exact h.mf.f i hi
  · rw [Wf 47 (by decide) (by decide) (by decide) (by decide)]
    have kk : ∀ y g, y < n → g < 15 → g ≠ 6 → g ≠ 14 → sv W (15 * y + g) = sv U (15 * y + g) := fun y g hy hg a b => by
      obtain ⟨q1, q2, q3, q4⟩ := rwd_614 hg a b
      exact sv_row (by omega) hg (Wr _ q3 q1 q2 q4)
    have c1 : ∀ y g, g < 11 → g ≠ 4 → g ≠ 10 → T4.1 79 (154 + 11 * y + g) = T.1 79 (154 + 11 * y + g) := fun y g hg a b => by
      rw [s2.no _ (fun i _ => by omega), s1.no _ (fun i _ => by omega), t79]
    have t := fun y hy => h.w.th y hy
    have p14 : ∀ y, y < n → T4.1 79 (154 + 11 * y + 10) = sv W (15 * y + 14) ∧ (sv W (15 * y + 14) = 0 ∨ sv W (15 * y + 14) = 1) := fun y hy => by
      rw [sv_14 W (by omega)]
      refine ⟨?_, by by_cases z : W.1 34 y = 0
                     · rw [if_pos z]; exact Or.inl rfl
                     · rw [if_neg z]; exact Or.inr rfl⟩
      rcases in_line m hk y with ⟨i, hi, e⟩ | no
      · subst e
        rw [s2.yes i hi, (g1 i (by omega) hi).2, if_pos rfl]
      · rw [s2.no _ (fun i hi e => no i hi (by omega)), s1.no _ (fun i hi e => by omega), t79, (g2 y (fun k _ k2 => no k k2)).2, F2.r 34 (by decide) (by decide), st_row _ _ _ _ (by decide)]
        have t := (t y hy).tst
        rw [sv_14 U (by omega)] at t
        exact t
    have p6 : ∀ y, y < n → T4.1 79 (154 + 11 * y + 4) = sv W (15 * y + 6) := fun y hy => by
      rw [sv_6 W (by omega)]
      rcases in_line m hk y with ⟨i, hi, e⟩ | no
      · subst e
        rw [s2.no _ (fun i hi e => by omega), s1.yes i hi, (g1 i (by omega) hi).1]
      · rw [s2.no _ (fun i hi e => by omega), s1.no _ (fun i hi e => no i hi (by omega)), t79, (g2 y (fun k _ k2 => no k k2)).1, F2.r 24 (by decide) (by decide), st_row _ _ _ _ (by decide)]
        have t := (t y hy).ser
        rw [sv_6 U (by omega)] at t
        exact t
    refine h.w.gen h72 hnp (fun y g hy hg z => kk y g hy hg (by omega) (by omega)) (fun y g hy hg => c1 y g (by omega) (by omega) (by omega)) (fun y hy => ?_) p6 (fun y hy => ?_) (fun y hy => ?_) (fun y hy => ?_) (fun y hy => (p14 y hy).1) (fun y hy => (p14 y hy).2) (fun j hj => ?_) (fun j h1 h2 => sv_hi h1 h2 (Wr _ (by decide) (by decide) (by decide) (by decide)) (Wr _ (by decide) (by decide) (by decide) (by decide)) (Wf 48 (by decide) (by decide) (by decide) (by decide))) (fun y g hy h72' hg => sv_pt h72' hg (by
      have no : ∀ k, 0 ≤ k → k < m → y ≠ hk k / 2 := fun k _ hk' q => by have := l.lt k hk'; omega
      by_cases e1 : rwd g = 24
      · rw [e1, (g2 y no).1, F2.r 24 (by decide) (by decide), st_row _ _ _ _ (by decide)]
      · by_cases e2 : rwd g = 34
        · rw [e2, (g2 y no).2, F2.r 34 (by decide) (by decide), st_row _ _ _ _ (by decide)]
        · have e3 : rwd g ≠ 0 ∧ rwd g ≠ 39 := by
            have : ∀ g : Fin 15, rwd g.1 ≠ 0 ∧ rwd g.1 ≠ 39 := by decide
            exact this ⟨g, hg⟩
          rw [Wr _ e3.1 e1 e2 e3.2]) (Wr 23 (by decide) (by decide) (by decide) (by decide)))
    · rw [c1 y 1 (by omega) (by omega) (by omega), kk y 3 hy (by omega) (by omega) (by omega)]; exact (t y hy).look
    · rw [c1 y 5 (by omega) (by omega) (by omega), kk y 7 hy (by omega) (by omega) (by omega)]; exact (t y hy).flt
    · rw [c1 y 6 (by omega) (by omega) (by omega), kk y 8 hy (by omega) (by omega) (by omega)]; exact (t y hy).jam
    · rw [c1 y 7 (by omega) (by omega) (by omega), kk y 9 hy (by omega) (by omega) (by omega)]; exact (t y hy).dgr
    · rw [s2.no _ (fun i _ => by omega), s1.no _ (fun i _ => by omega), t79]
  · rw [Wf 47 (by decide) (by decide) (by decide) (by decide)]; exact h.hB
  · rw [Vr 62 (by decide) (by decide) (by decide), Wf 5 (by decide) (by decide) (by decide) (by decide)]; exact h.te.n
  · rw [Vr 78 (by decide) (by decide) (by decide), Wr 2 (by decide) (by decide) (by decide) (by decide)]; exact h.te.r i
end
section
/-! ===== couple ===== -/
theorem hook_i {n np nt : Nat} {T U V : SS} {sp d : Nat} {r : Int32} (b : Bo n np nt T U) (hsp : sp < 576) (hd : d < 2) (h1 : f_Trains_hookAt (nI (2 * sp + d)) T = some (r, V)) : V = T ∧ ((stA (T.1 79) (nI sp) n 0 = -4 ∧ r = -4) ∨ ∃ o t, o < n ∧ t < 2 ∧ stA (T.1 79) (nI sp) n 0 = nI o ∧ T.1 79 (154 + 11 * o) = nI sp ∧ r = nI (2 * o + t) ∧ (U.1 22 o = nI (1 - d) ↔ t = 0)) := by
  have hn := b.s.n72
  rw [f_Trains_hookAt.eq_1, if_neg (nI_m4 (by omega)), n_shr (by omega), show (2 * sp + d) / 2 = sp by omega] at h1
  replace h1 := bnd_i h1
  obtain ⟨r2, T1, l, h1⟩ := h1
  obtain ⟨rfl, e⟩ := c_stands b.s.cn hn l
  rw [f_Trains_hookAt_j21.eq_1] at h1
  rcases stA_or (T1.1 79) (nI sp) n 0 with z | ⟨o, -, ho, z1, z2⟩
  · rw [e, z, if_pos rfl] at h1
    obtain ⟨rfl, rfl⟩ := so_i h1
    exact ⟨rfl, Or.inl ⟨z, rfl⟩⟩
  · obtain ⟨lk, hl, el⟩ := b.lk o (by omega)
    have cl := (b.w.th o (by omega)).look
    rw [sv_3 U (by omega), el] at cl
    have lks : f_State_looks (nI (2 * o)) T1 = some (nI lk, T1) := by
      rw [f_State_looks.eq_1, n_shr (by omega), n_and (by omega), show (2 * o) / 2 = o by omega, show (2 * o) % 2 = 0 by omega, sg (f := 1) 1 rfl b.s.cn hn (by omega) (by omega), bnd_r, cl, n_xr hl (by omega)]
      rfl
    rw [e, z1, if_neg (nI_m4 (by omega)), nM2, lks, bnd_r, n_and (by omega), show (2 * sp + d) % 2 = d by omega] at h1
    by_cases c : lk = d
    · rw [if_pos (congrArg nI c), nI_1] at h1
      obtain ⟨rfl, rfl⟩ := so_i h1
      refine ⟨rfl, Or.inr ⟨o, 1, by omega, by omega, z1, z2, rfl, fun q => ?_, fun q => by omega⟩⟩
      rw [el] at q
      have := nI_inj (by omega) (by omega) q
      omega
    · rw [if_neg (fun q => c (nI_inj (by omega) (by omega) q))] at h1
      obtain ⟨rfl, rfl⟩ := so_i h1
      refine ⟨rfl, Or.inr ⟨o, 0, by omega, by omega, z1, z2, rfl, fun q => rfl, fun _ => ?_⟩⟩
      rw [el]; exact congrArg nI (by omega)
/-- whether a hook reaches another: as far as BODIES aren't asked -/
theorem reach_al {n np nt : Nat} {T U S6 S3 : SS} {x s : Nat} {r5 r7 r4 : Int32} (b : Bo n np nt T U) (hx : x < n) (hs : s < 2) (th : thU U x) (l5 : f_Trains_nextFrom (nI (2 * x + s)) T = some (r5, T)) (h1 : f_Trains_reachFinding (nI (2 * x + s)) r5 T = some (r7, S6))
    (h2 : (if U.1 23 (2 * x + s) = -4 then (if U.1 31 x = 0 then bnd (f_M_wayOf (nI x) (nI s) U) (fun r4 S3 => bnd (f_M_isOpen (U.1 20 x) (U.1 21 x) r4 S3) (fun r6 S5 => if r6 = 0 then some ((10 : Int32), S5) else bnd (f_M_standing (S5.1 0 26) (S5.1 0 27) S5) (fun r8 S7 => if r8 = (-4 : Int32) then some ((1 : Int32), S7) else grd (inb r8 72) (if (S7.1 31 r8.toNatClampNeg) = 0 then wr S7 0 66 r8 (fun S9 => grd (inb r8 72) (if (S9.1 22 r8.toNatClampNeg) = ((1 : Int32) - (S9.1 0 28)) then f_M_missCouple_j136 (nI x) r8 (0 : Int32) S9 else f_M_missCouple_j136 (nI x) r8 (1 : Int32) S9)) else some ((16 : Int32), S7))))) else some ((16 : Int32), U)) else some ((14 : Int32), U)) = some (r4, S3)) :
    (¬ r7 = 0 ∧ ¬ r4 = 0 ∧ Qc T S6 ∧ Qm U S3) ∨ (r7 = 0 ∧ Qc T S6 ∧ ∃ o t sp d U', o < n ∧ t < 2 ∧ sp < 576 ∧ d < 2 ∧ thU U o ∧ U.1 31 o = 0 ∧ U.1 31 x = 0 ∧ U.1 23 (2 * x + s) = -4 ∧ U.1 23 (2 * o + t) = -4 ∧ r5 = nI (2 * sp + d) ∧ stA (T.1 79) (nI sp) n 0 = nI o ∧ (U.1 22 o = nI (1 - d) ↔ t = 0) ∧ Qm U U' ∧ U'.1 0 66 = nI o ∧ U'.1 0 67 = nI t ∧ bnd (f_M_suits (nI x) (nI o) U') (fun r14 S13 => if r14 = 0 then some ((13 : Int32), S13) else bnd (f_M_suits (nI o) (nI x) S13) (fun r16 S15 => if r16 = 0 then some ((13 : Int32), S15) else some ((0 : Int32), S15))) = some (r4, S3)) := by
  have hn := b.s.n72
  have hnt := b.s.nt24
  rw [f_Trains_reachFinding.eq_1, c_cpd b hx hs, bnd_r, n_shr (by omega), show (2 * x + s) / 2 = x by omega] at h1
  by_cases c1 : U.1 23 (2 * x + s) = -4
  · rw [if_pos c1, if_pos rfl, c_run b hx, bnd_r] at h1
    rw [if_pos c1] at h2
    by_cases c2 : U.1 31 x = 0
    · rw [if_pos c2, if_pos rfl] at h1
      rw [if_pos c2] at h2
      replace h2 := bnd_i h2
      obtain ⟨wy, U1, w1, h2⟩ := h2
      obtain ⟨d0, hd0, -, w2⟩ := way_al b hx hs
      have eU1 : U1 = U := by rw [w2 U rfl] at w1; exact (so_i w1).2
      rw [eU1] at w1 h2
      replace h2 := bnd_i h2
      obtain ⟨bo, U2, o1, h2⟩ := h2
      obtain ⟨-, fn, nx⟩ := nf_al b hx th hs l5 w1 o1
      have q2 : Qz T U T U2 := Qz.of b.te Qc.rf fn.q
      have b2 := b.q q2
      rcases nx with ⟨nx1, nx2⟩ | ⟨nx1, t, p, d, q, ht, hq, hq2, hp, hd, nx2, e26, e27, e28⟩
      · rw [if_pos nx1] at h1
        rw [if_pos nx2] at h2
        obtain ⟨rfl, rfl⟩ := so_i h1
        obtain ⟨rfl, rfl⟩ := so_i h2
        exact Or.inl ⟨by decide, by decide, Qc.rf, fn.q⟩
      · rw [nx2, if_neg (nI_m4 (by omega))] at h1
        rw [if_neg nx1, e26, e27] at h2
        replace h1 := bnd_i h1
        obtain ⟨r6, T6, k1, h1⟩ := h1
        obtain ⟨eT6, hk⟩ := hook_i b2 (by omega) hd k1
        rw [eT6] at h1
        replace h2 := bnd_i h2
        obtain ⟨r8, U7, s1, h2⟩ := h2
        obtain ⟨eU7, es⟩ := m_stand b2.s.mn hn hnt b2.w (by omega) (by omega) s1
        rw [eU7] at h2
        rcases hk with ⟨z1, z2⟩ | ⟨o, t', ho, ht', z1, z3, z2, zt⟩
        · rw [if_pos z2] at h1
          rw [if_pos (es.trans z1)] at h2
          obtain ⟨rfl, rfl⟩ := so_i h1
          obtain ⟨rfl, rfl⟩ := so_i h2
          exact Or.inl ⟨by decide, by decide, Qc.rf, fn.q⟩
        · have er : r8 = nI o := es.trans z1
          rw [z2, if_neg (nI_m4 (by omega)), n_shr (by omega), show (2 * o + t') / 2 = o by omega, c_run b2 ho, bnd_r] at h1
          rw [er, if_neg (nI_m4 (by omega)), grT (inb_nI (by omega) (by omega)), nI_clamp (by omega)] at h2
          by_cases c3 : U2.1 31 o = 0
          · rw [if_pos c3, if_pos rfl, c_cpd b2 ho ht', bnd_r] at h1
            rw [if_pos c3, wr_r, grT (inb_nI (by omega) (by omega)), st_row _ _ _ _ (by decide), st_no (by omega), e28, n1m hd] at h2
            have h2' : f_M_missCouple_j136 (nI x) (nI o) (nI t') (st U2 0 66 (nI o)) = some (r4, S3) := by
              by_cases g : U2.1 22 o = nI (1 - d)
              · rw [if_pos g] at h2
                rw [zt.mp g]; exact h2
              · rw [if_neg g] at h2
                have : t' = 1 := by
                  rcases (show t' = 0 ∨ t' = 1 by omega) with e | e
                  · exact absurd (zt.mpr e) g
                  · exact e
                rw [this]; exact h2
            rw [f_M_missCouple_j136.eq_1, wr_r, st_here, n2, grT (inb_nI (by omega) (by omega)), nI_clamp (by omega), st_row _ _ _ _ (by decide), st_row _ _ _ _ (by decide)] at h2'
            have q3 : Qm U2 (st (st U2 0 66 (nI o)) 0 67 (nI t')) := (Qm.rf.wf (by omega)).wf (by omega)
            have b3 := b2.q (Qz.of b2.te Qc.rf q3)
            by_cases c4 : U2.1 23 (2 * o + t') = -4
            · rw [if_pos c4, if_pos rfl] at h1
              rw [if_pos c4] at h2'
              replace h1 := bnd_i h1
              obtain ⟨r12, T12, a1, h1⟩ := h1
              replace h2' := bnd_i h2'
              obtain ⟨r12', U12, a2, h2'⟩ := h2'
              obtain ⟨z5, F1, F2⟩ := one_al b3 hx ho a1 a2
              by_cases c5 : r12 = 0
              · rw [if_pos c5] at h1
                rw [if_pos (z5.mp c5)] at h2'
                obtain ⟨rfl, rfl⟩ := so_i h1
                have tho : thU U o := by
                  have := b2.thc o ho
                  rw [z3] at this
                  have : thU U2 o := Classical.byContradiction (fun c => nI_nn (by omega) (this.mpr c))
                  unfold thU at this ⊢
                  rw [← q2.mr 19 (by omega)]; exact this
                refine Or.inr ⟨rfl, F1.q, o, t', 24 * t + p, d, U12, ho, ht', by omega, hd, tho, by rw [← q2.mr 31 (by omega)]; exact c3, c2, c1, by rw [← q2.mr 23 (by omega)]; exact c4, nx2, z1, by rw [← q2.mr 22 (by omega)]; exact zt, (fn.q.tr q3).tr F2.q, ?_, ?_, h2'⟩
                · rw [F2.f 66 (by decide) (by decide) (by decide), st_no (by omega), st_here]
                · rw [F2.f 67 (by decide) (by decide) (by decide), st_here]
              · rw [if_neg c5] at h1
                rw [if_neg (fun z => c5 (z5.mpr z))] at h2'
                obtain ⟨rfl, rfl⟩ := so_i h1
                obtain ⟨rfl, rfl⟩ := so_i h2'
                exact Or.inl ⟨by decide, by decide, F1.q, (fn.q.tr q3).tr F2.q⟩
            · rw [if_neg c4, if_neg (by decide)] at h1
              rw [if_neg c4] at h2'
              obtain ⟨rfl, rfl⟩ := so_i h1
              obtain ⟨rfl, rfl⟩ := so_i h2'
              exact Or.inl ⟨by decide, by decide, Qc.rf, fn.q.tr q3⟩
          · rw [if_neg c3, if_neg (by decide)] at h1
            rw [if_neg c3] at h2
            obtain ⟨rfl, rfl⟩ := so_i h1
            obtain ⟨rfl, rfl⟩ := so_i h2
            exact Or.inl ⟨by decide, by decide, Qc.rf, fn.q⟩
    · rw [if_neg c2, if_neg (by decide)] at h1
      rw [if_neg c2] at h2
      obtain ⟨rfl, rfl⟩ := so_i h1
      obtain ⟨rfl, rfl⟩ := so_i h2
      exact Or.inl ⟨by decide, by decide, Qc.rf, Qm.rf⟩
  · rw [if_neg c1, if_neg (by decide)] at h1
    rw [if_neg c1] at h2
    obtain ⟨rfl, rfl⟩ := so_i h1
    obtain ⟨rfl, rfl⟩ := so_i h2
    exact Or.inl ⟨by decide, by decide, Qc.rf, Qm.rf⟩
theorem couple_body {n np nt : Nat} {T U V S2 : SS} {a1 a2 rc r2 : Int32} (b : Bo n np nt T U) (hA : AC n (S2.1 23)) (h1 : f_Yard_coupleAhead a1 a2 T = some (rc, V))
    (h2 : bnd (f_M_missCouple a1 a2 U) (fun r4 S3 => bnd (f_M_ends r4 S3) (fun r6 S5 => if r6 = 0 then grd (inb (((2 : Int32) * a1) + a2) 144) (wr S5 23 (((2 : Int32) * a1) + a2).toNatClampNeg (S5.1 0 66) (fun S7 => grd (inb (((2 : Int32) * (S7.1 0 66)) + (S7.1 0 67)) 144) (wr S7 23 (((2 : Int32) * (S7.1 0 66)) + (S7.1 0 67)).toNatClampNeg a1 (fun S8 => bndv (f_M_renumber a1 S8) (fun S9 => bnd (f_M_entered (6 : Int32) (S9.1 0 66) S9) (fun r11 S10 => some (r11, S10))))))) else bnd (f_M_entered (6 : Int32) (-2 : Int32) S5) (fun r13 S12 => some (r13, S12)))) = some (r2, S2)) : ∃ W, bnd (f_M_entered 6 rc W) (fun r S => some (r, S)) = some (r2, S2) ∧ En n np nt T U V W := by
  have h72 := b.s.n72
  have hnp := b.s.np40
  rw [f_Yard_coupleAhead.eq_1] at h1
  replace h2 := bnd_i h2
  obtain ⟨r4, S3, m1, h2⟩ := h2
  replace h2 := bnd_i h2
  obtain ⟨r6, S5, m2, h2⟩ := h2
  rw [f_M_missCouple.eq_1] at m1
  have no : ∀ (kd q : Int32) (T' V' : SS), Qz T U T' S3 → ¬ r4 = 0 → f_Report_found kd T' = some (q, V') → some (q, V') = some (rc, V) → ∃ W, bnd (f_M_entered 6 rc W) (fun r S => some (r, S)) = some (r2, S2) ∧ En n np nt T U V W := fun kd q T' V' qz hr l e => by
    obtain ⟨rfl, rfl⟩ := so_i e
    obtain ⟨rfl, qf⟩ := fnd_c l
    rcases ends_i m2 with ⟨z, -, -⟩ | ⟨-, z, q5⟩
    · exact absurd z hr
    · rw [if_neg z] at h2
      exact ⟨S5, h2, b.en (qz.tr (Qz.of qz.te qf q5))⟩
  rcases side_al b a1 a2 (w := 127) (v := 0) (by decide) with ⟨x, s, hx, hs, rfl, rfl, th, p2, c1, c2⟩ | ⟨r, r', n1, nn2, c1, c2⟩
  · rw [c1, bnd_r, if_pos rfl, nmR, n2] at h1
    replace h1 := bnd_i h1
    obtain ⟨r5, T5, l5, h1⟩ := h1
    have e5 := nf_rd b hx th hs l5
    rw [e5] at l5 h1
    replace h1 := bnd_i h1
    obtain ⟨r7, S6, f1, h1⟩ := h1
    rw [c2, bnd_r, if_pos rfl, n2, grT (inb_nI (by omega) (by omega)), nI_clamp (n := 2 * x + s) (by omega), inb_nI (j := x) (n := 72) (by omega) (by omega), nI_clamp (n := x) (by omega), grT rfl, grT rfl, grT rfl] at m1
    rcases reach_al b hx hs th l5 f1 m1 with ⟨g7, g4, qc, qm⟩ | ⟨g7, qc, o, t, sp, d, U', ho, ht, hsp, hd, tho, ro, rx, cx, co, e5', ez, et, qm, e66, e67, m1⟩
    · rw [if_neg g7] at h1
      replace h1 := bnd_i h1
      obtain ⟨q, V1, l, h1⟩ := h1
      exact no r7 q S6 V1 (Qz.of b.te qc qm) g4 l h1
    · rw [if_pos g7] at h1
      have q6 : Qz T U S6 U' := Qz.of b.te qc qm
      have b6 := b.q q6
      replace h1 := bnd_i h1
      obtain ⟨r9, S8, k1, h1⟩ := h1
      rw [e5'] at k1
      obtain ⟨e8, hk⟩ := hook_i b6 hsp hd k1
      rw [q6.c79, ez] at hk
      rw [e8] at h1
      have e9 : r9 = nI (2 * o + t) := by
        rcases hk with ⟨z, -⟩ | ⟨o', t', ho', ht', z1, -, z2, z3⟩
        · exact absurd z (nI_m4 (by omega))
        · have eo : o = o' := nI_inj (by omega) (by omega) z1
          subst eo
          rw [q6.mr 22 (by omega)] at z3
          have z4 := et.symm.trans z3
          rw [z2]
          exact congrArg nI (by
            rcases (show t = 0 ∨ t = 1 by omega) with e | e
            · have := z4.mp e; omega
            · rcases (show t' = 0 ∨ t' = 1 by omega) with e' | e'
              · have := z4.mpr e'; omega
              · omega)
      rw [e9, nmR, n_shr (by omega), show (2 * o + t) / 2 = o by omega] at h1
      replace h1 := bnd_i h1
      obtain ⟨r12, S11, s1, h1⟩ := h1
      replace m1 := bnd_i m1
      obtain ⟨r14, S13, s2, m1⟩ := m1
      obtain ⟨e12, -, t1⟩ := suits_al b6.bd hx ho s1 s2
      subst e12
      have q7 := q6.tr t1.q
      have b7 := b6.q t1.q
      by_cases g : r12 = 0
      · rw [if_pos g, f_Yard_coupleAhead_j108.eq_1] at h1
        rw [if_pos g] at m1
        obtain ⟨rfl, rfl⟩ := so_i m1
        replace h1 := bnd_i h1
        obtain ⟨q, V1, l, h1⟩ := h1
        exact no 13 q _ V1 q7 (by decide) l h1
      · rw [if_neg g] at h1 m1
        replace h1 := bnd_i h1
        obtain ⟨r16, S15, s3, h1⟩ := h1
        replace m1 := bnd_i m1
        obtain ⟨r16', S15', s4, m1⟩ := m1
        obtain ⟨e16, -, t2⟩ := suits_al b7.bd ho hx s3 s4
        subst e16
        have q8 := q7.tr t2.q
        have b8 := b7.q t2.q
        by_cases g2 : r16 = 0
        · rw [if_pos g2, f_Yard_coupleAhead_j108.eq_1] at h1
          rw [if_pos g2] at m1
          obtain ⟨rfl, rfl⟩ := so_i m1
          replace h1 := bnd_i h1
          obtain ⟨q, V1, l, h1⟩ := h1
          exact no 13 q _ V1 q8 (by decide) l h1
        · rw [if_neg g2] at h1 m1
          obtain ⟨rfl, rfl⟩ := so_i m1
          rw [ends_0] at m2
          obtain ⟨rfl, rfl⟩ := so_i m2
          have f66 : S5.1 0 66 = nI o := by rw [t2.m.f 66 (by decide) (by decide), t1.m.f 66 (by decide) (by decide)]; exact e66
          have f67 : S5.1 0 67 = nI t := by rw [t2.m.f 67 (by decide) (by decide), t1.m.f 67 (by decide) (by decide)]; exact e67
          rw [if_pos rfl, n2, grT (inb_nI (by omega) (by omega)), wr_r, nI_clamp (by omega), f66, st_row _ _ _ _ (by decide), f66, f67, n2, grT (inb_nI (by omega) (by omega)), wr_r, nI_clamp (by omega)] at h2
          replace h2 := bndv_i h2
          obtain ⟨S9, rn, h2⟩ := h2
          replace h1 := bndv_i h1
          obtain ⟨S17, j1, h1⟩ := h1
          obtain ⟨rfl, rfl⟩ := so_i h1
          have cn8 := b8.s.cn
          rw [f_Trains_joinHooks.eq_1, n_shr (by omega), n_and (by omega), n_shr (by omega), n_and (by omega), show (2 * x + s) / 2 = x by omega, show (2 * x + s) % 2 = s by omega, show (2 * o + t) / 2 = o by omega, show (2 * o + t) % 2 = t by omega, show (2 : Int32) + nI s = nI (2 + s) from nI_add 2 s, show (2 : Int32) + nI t = nI (2 + t) from nI_add 2 t, sset (f := 2 + s) _ _ rfl cn8 h72 hx (by omega), bndv_r, sset (f := 2 + t) _ _ rfl (by rw [st_row _ _ _ _ (by decide)]; exact cn8) h72 ho (by omega), bndv_r] at j1
          replace j1 := bndv_i j1
          obtain ⟨S18, rw1, j1⟩ := j1
          injection j1 with j1
          subst j1
          obtain ⟨fr1, -, -, fr4⟩ := fmR rn
          have e23 := ent_r h2 23 (by decide) (by decide) (by decide)
          rw [fr1] at e23
          rw [e23] at hA
          have r31 : ∀ y, U.1 31 y = 0 → S5.1 31 y = 0 := fun y z => by rw [q8.mr 31 (by omega)]; exact z
          have t19 : ∀ y, thU U y → thU S5 y := fun y z => by unfold thU at z ⊢; rw [q8.mr 19 (by omega)]; exact z
          have en1 := (b8.en (Qz.rf b8)).mat (v := nI o) h72 hnp hx hs (Or.inr ⟨r31 x rx, fun o' ho' eo => by
            have := nI_inj (by omega) (by omega) eo
            subst this
            exact ⟨fun _ => t19 x th, fun _ => t19 o tho⟩⟩)
          have en2 := en1.mat (x := o) (s := t) (v := nI x) h72 hnp ho ht (Or.inr ⟨by rw [st_row _ _ _ _ (by decide)]; exact r31 o ro, fun x' hx' ex => by
            have := nI_inj (by omega) (by omega) ex
            subst this
            unfold thU
            rw [st_row _ _ _ _ (by decide)]
            exact ⟨fun _ => t19 o tho, fun _ => t19 x th⟩⟩)
          have en3 := renew_al b8.s en2 hA hx rw1 rn
          rw [fr4, st_row _ _ _ _ (by decide), st_row _ _ _ _ (by decide), f66] at h2
          exact ⟨S9, h2, En.q q8 en3⟩
  · rw [c1, bnd_r, if_neg n1] at h1
    rw [c2, bnd_r, if_neg nn2] at m1
    obtain ⟨rfl, rfl⟩ := so_i m1
    replace h1 := bnd_i h1
    obtain ⟨q, V1, l, h1⟩ := h1
    exact no r q _ V1 (Qz.rf b) nn2 l h1
theorem couple_st {n np nt L : Nat} {S S1 S2 : SS} {a1 a2 r1 r2 : Int32} (h : Dz n np nt L S) (hL : L < 600) (hW : WR S) (hW1 : WR S1) (hW2 : WR S2) (z : Fz S S1 S2) (e1 : f_Yard_couple a1 a2 S = some (r1, S1)) (e2 : f_M_couple a1 a2 S1 = some (r2, S2)) : Az n np nt L r1 r2 S2 := by
  rw [f_Yard_couple.eq_1] at e1
  rw [f_M_couple.eq_1] at e2
  exact act_al h hL hW hW1 hW2 z (fun T U V rc b _ hA g1 g2 => couple_body b hA g1 g2) e1 e2
/-! ===== part ===== -/
theorem st_swap (S : SS) (k : Nat) {i i' : Nat} (v v' : Int32) (h : i ≠ i') : st (st S k i v) k i' v' = st (st S k i' v') k i v := by
  refine Prod.ext (funext fun a => funext fun b => ?_) rfl
  rw [st_at, st_at, st_at, st_at]
  by_cases c : a = k
  · rw [if_pos c, if_pos c, if_pos c, if_pos c]
    by_cases d : b = i'
    · rw [if_pos d, if_neg (show ¬ b = i by omega), if_pos d]
    · rw [if_neg d, if_neg d]
  · rw [if_neg c, if_neg c, if_neg c, if_neg c]
theorem part_body {n np nt : Nat} {T U V S2 : SS} {a1 a2 rc r2 : Int32} (b : Bo n np nt T U) (hA : AC n (S2.1 23)) (h1 : f_Yard_partFrom a1 a2 T = some (rc, V))
    (h2 : bnd (f_M_missSide a1 (0 : Int32) a2 U) (fun r4 S3 => if r4 = 0 then grd (inb (((2 : Int32) * a1) + a2) 144) (if (S3.1 23 (((2 : Int32) * a1) + a2).toNatClampNeg) = (-4 : Int32) then f_M_part_j45 a1 a2 (1 : Int32) S3 else f_M_part_j45 a1 a2 (0 : Int32) S3) else f_M_part_j45 a1 a2 r4 S3) = some (r2, S2)) : ∃ W, bnd (f_M_entered 7 rc W) (fun r S => some (r, S)) = some (r2, S2) ∧ En n np nt T U V W := by
  have h72 := b.s.n72
  have hnp := b.s.np40
  rw [f_Yard_partFrom.eq_1] at h1
  have no : ∀ (kd q rm : Int32) (V' : SS), ¬ rm = 0 → f_M_part_j45 a1 a2 rm U = some (r2, S2) → f_Report_found kd T = some (q, V') → some (q, V') = some (rc, V) → ∃ W, bnd (f_M_entered 7 rc W) (fun r S => some (r, S)) = some (r2, S2) ∧ En n np nt T U V W := fun kd q rm V' hr h2 l e => by
    obtain ⟨rfl, rfl⟩ := so_i e
    obtain ⟨rfl, qf⟩ := fnd_c l
    rw [f_M_part_j45.eq_1] at h2
    replace h2 := bnd_i h2
    obtain ⟨r6, S5, m2, h2⟩ := h2
    rcases ends_i m2 with ⟨z, -, -⟩ | ⟨-, z, q5⟩
    · exact absurd z hr
    · rw [if_neg z] at h2
      exact ⟨S5, h2, b.en (Qz.of b.te qf q5)⟩
  rcases side_al b a1 a2 (w := 127) (v := 0) (by decide) with ⟨x, s, hx, hs, rfl, rfl, th, p2, c1, c2⟩ | ⟨r, r', n1, nn2, c1, c2⟩
  · have mt := b.w.mates h72 b.s.cn
    rw [c1, bnd_r, if_pos rfl, show (2 : Int32) + nI s = nI (2 + s) from nI_add 2 s, sg (f := 2 + s) _ rfl b.s.cn h72 hx (by omega), bnd_r, mt.mc x s hx hs] at h1
    rw [c2, bnd_r, if_pos rfl, n2, grT (inb_nI (by omega) (by omega)), nI_clamp (by omega)] at h2
    by_cases c : U.1 23 (2 * x + s) = -4
    · rw [if_pos c] at h1 h2
      replace h1 := bnd_i h1
      obtain ⟨q, V1, l, h1⟩ := h1
      exact no 1 q 1 V1 (by decide) h2 l h1
    · obtain ⟨pos, dir, hc, hd⟩ := b.ac.dir x hs
      obtain ⟨o, t, ho, ht, e1, e2, e3, e4⟩ := ac_next hc h72 hx hs c
      have hxo : o ≠ x := fun e => by have := (e4 hd).1; rw [e] at this; omega
      rw [if_neg c, n2] at h1
      rw [if_neg c, f_M_part_j45.eq_1, ends_0, bnd_r, if_pos rfl, n2, grT (inb_nI (by omega) (by omega)), nmR, nI_clamp (by omega), e1, sideTo_s rfl (by omega) ht e3, bnd_r, n2, grT (inb_nI (by omega) (by omega)), wr_r, grT (inb_nI (by omega) (by omega)), wr_r, nI_clamp (by omega)] at h2
      replace h2 := bndv_i h2
      obtain ⟨S12, rn1, h2⟩ := h2
      replace h2 := bndv_i h2
      obtain ⟨S13, rn2, h2⟩ := h2
      replace h1 := bndv_i h1
      obtain ⟨S5, k1, h1⟩ := h1
      obtain ⟨rfl, rfl⟩ := so_i h1
      have cn := b.s.cn
      rw [f_Trains_cutHook.eq_1, c_onw mt hx hs ho ht e1 e3, bnd_r, nmR, n_xor (by omega), show 2 * ((2 * o + (1 - t)) / 2) + (1 - (2 * o + (1 - t)) % 2) = 2 * o + t by omega, n_shr (by omega), n_and (by omega), n_shr (by omega), n_and (by omega), show (2 * x + s) / 2 = x by omega, show (2 * x + s) % 2 = s by omega, show (2 * o + t) / 2 = o by omega, show (2 * o + t) % 2 = t by omega, show (2 : Int32) + nI s = nI (2 + s) from nI_add 2 s, show (2 : Int32) + nI t = nI (2 + t) from nI_add 2 t, sset (f := 2 + s) _ _ rfl cn h72 hx (by omega), bndv_r, sset (f := 2 + t) _ _ rfl (by rw [st_row _ _ _ _ (by decide)]; exact cn) h72 ho (by omega), bndv_r, st_swap _ _ _ _ (by omega)] at k1
      replace k1 := bndv_i k1
      obtain ⟨S6, rw1, k1⟩ := k1
      replace k1 := bndv_i k1
      obtain ⟨S7, rw2, k1⟩ := k1
      injection k1 with k1
      subst k1
      obtain ⟨fr1, -⟩ := fmR rn1
      obtain ⟨fr2, -⟩ := fmR rn2
      have e23 := ent_r h2 23 (by decide) (by decide) (by decide)
      rw [fr2] at e23
      rw [e23] at hA
      have en1 := (b.en (Qz.rf b)).mat (x := o) (s := t) (v := -4) h72 hnp ho ht (Or.inl rfl)
      have en2 := en1.mat (x := x) (s := s) (v := -4) h72 hnp hx hs (Or.inl rfl)
      have en3 := renew_al b.s en2 (by rw [← fr1]; exact hA) hx rw1 rn1
      have en4 := renew_al b.s en3 hA ho rw2 rn2
      rw [e1]
      exact ⟨_, h2, en4⟩
  · rw [c1, bnd_r, if_neg n1] at h1
    rw [c2, bnd_r, if_neg nn2] at h2
    replace h1 := bnd_i h1
    obtain ⟨q, V1, l, h1⟩ := h1
    exact no r q r' V1 nn2 h2 l h1
theorem part_st {n np nt L : Nat} {S S1 S2 : SS} {a1 a2 r1 r2 : Int32} (h : Dz n np nt L S) (hL : L < 600) (hW : WR S) (hW1 : WR S1) (hW2 : WR S2) (z : Fz S S1 S2) (e1 : f_Yard_part a1 a2 S = some (r1, S1)) (e2 : f_M_part a1 a2 S1 = some (r2, S2)) : Az n np nt L r1 r2 S2 := by
  rw [f_Yard_part.eq_1] at e1
  rw [f_M_part.eq_1] at e2
  exact act_al h hL hW hW1 hW2 z (fun T U V rc b _ hA g1 g2 => part_body b hA g1 g2) e1 e2
/-! ===== pull: weights and powers of a line ===== -/
theorem lw_al {n np nt m : Nat} {hk : Nat → Nat} {S3 : SS} {r4 x5 : Int32} : ∀ (N M i : Nat) (v r : Int32) (T U V : SS), Bo n np nt T U → Ln n T U m hk → i ≤ m → f_Yard_lineWeight_L4 N v (nI i) T = some (r, V) → f_M_missPull_L28 M v x5 (nI i) U = some (r4, S3) → ∃ W, Tl T U V W ∧ f_M_missPull_L62 NF r x5 0 W = some (r4, S3)
  | 0, M, i, v, r, T, U, V, _, _, _, h1, h2 => by cases h1
  | N + 1, 0, i, v, r, T, U, V, _, _, _, h1, h2 => by cases h2
  | N + 1, M + 1, i, v, r, T, U, V, b, l, hi, h1, h2 => by
    have h72 := b.s.n72
    have hm := l.m72
    rw [f_Yard_lineWeight_L4.eq_2, l.cl] at h1
    rw [f_M_missPull_L28.eq_2, l.ml] at h2
    by_cases c : i = m
    · subst c
      rw [if_pos (nI_le (by omega) (by omega))] at h1 h2
      obtain ⟨rfl, rfl⟩ := so_i h1
      exact ⟨U, Tl.rf b.te, h2⟩
    · have hx : hk i / 2 < n := by have := l.lt i (by omega); omega
      obtain ⟨k, a, s, w, k2⟩ := (b.s.sk (hk i / 2) hx).two
      rw [if_neg (nI_ge (by omega) (by omega)), c_inL l h72 (by omega), bnd_r] at h1
      rw [if_neg (nI_ge (by omega) (by omega)), grT (inb_nI (by omega) (by omega)), nI_clamp (by omega), l.mr i (by omega)] at h2
      replace h1 := bnd_i h1
      obtain ⟨rb, T1, b1, h1⟩ := h1
      replace h2 := bnd_i h2
      obtain ⟨rb', U1, b2, h2⟩ := h2
      obtain ⟨rfl, -, t1⟩ := weight_al (by omega) b.te k2 b1 b2
      rw [nmR, nmR, nI_1] at h1 h2
      obtain ⟨W, t2, g⟩ := lw_al N M (i + 1) _ r T1 U1 V (b.q t1.q) (l.tl t1) (by omega) h1 h2
      exact ⟨W, t1.tr t2, g⟩
theorem lp_al {n np nt m : Nat} {hk : Nat → Nat} {S3 : SS} {r4 x4 : Int32} : ∀ (N M i : Nat) (v r : Int32) (T U V : SS), Bo n np nt T U → Ln n T U m hk → i ≤ m → f_Yard_linePulls_L4 N v (nI i) T = some (r, V) → f_M_missPull_L62 M x4 v (nI i) U = some (r4, S3) → ∃ W, Tl T U V W ∧ (if x4 ≤ ((20 : Int32) * r) then some ((0 : Int32), W) else some ((15 : Int32), W)) = some (r4, S3)
  | 0, M, i, v, r, T, U, V, _, _, _, h1, h2 => by cases h1
  | N + 1, 0, i, v, r, T, U, V, _, _, _, h1, h2 => by cases h2
  | N + 1, M + 1, i, v, r, T, U, V, b, l, hi, h1, h2 => by
    have h72 := b.s.n72
    have hm := l.m72
    rw [f_Yard_linePulls_L4.eq_2, l.cl] at h1
    rw [f_M_missPull_L62.eq_2, l.ml] at h2
    by_cases c : i = m
    · subst c
      rw [if_pos (nI_le (by omega) (by omega))] at h1 h2
      obtain ⟨rfl, rfl⟩ := so_i h1
      exact ⟨U, Tl.rf b.te, h2⟩
    · have hx : hk i / 2 < n := by have := l.lt i (by omega); omega
      obtain ⟨k, a, s, w, k2⟩ := (b.s.sk (hk i / 2) hx).two
      have k6 := k2.k6
      obtain ⟨o1, -, -⟩ := okw_c (k := k) (by omega)
      rw [if_neg (nI_ge (by omega) (by omega)), c_inL l h72 (by omega), bnd_r, isAs_c 96 (by omega) k2.ck k2.k6, bnd_r] at h1
      rw [if_neg (nI_ge (by omega) (by omega)), grT (inb_nI (by omega) (by omega)), nI_clamp (n := i) (by omega), l.mr i (by omega), grT (inb_nI (by omega) (by omega)), nI_clamp (by omega), k2.mkk] at h2
      by_cases e : 5 ≤ k
      · rw [if_pos (o1.mpr e), if_neg (by decide), c_inL l h72 (by omega), bnd_r] at h1
        rw [if_neg (show ¬ nI k < (5 : Int32) from fun z => by have := (nI_ltJ (b := 5) (by omega) (by omega)).mp z; omega), grT (inb_nI (by omega) (by omega))] at h2
        replace h1 := bnd_i h1
        obtain ⟨rb, T1, b1, h1⟩ := h1
        replace h2 := bnd_i h2
        obtain ⟨rb', U1, b2, h2⟩ := h2
        obtain ⟨rfl, -, t1⟩ := pulls_al b.bd hx b1 b2
        rw [nmR, f_Yard_linePulls_j53.eq_1, nmR, nI_1] at h1
        rw [nmR, f_M_missPull_j103.eq_1, nmR, nI_1] at h2
        obtain ⟨W, t2, g⟩ := lp_al N M (i + 1) _ r T1 U1 V (b.q t1.q) (l.tl t1) (by omega) h1 h2
        exact ⟨W, t1.tr t2, g⟩
      · rw [if_neg (fun z => e (o1.mp z)), if_pos rfl, f_Yard_linePulls_j53.eq_1, nmR, nI_1] at h1
        rw [if_pos (show nI k < (5 : Int32) from (nI_ltJ (b := 5) (by omega) (by omega)).mpr (by omega)), f_M_missPull_j103.eq_1, nmR, nI_1] at h2
        exact lp_al N M (i + 1) v r T U V b l (by omega) h1 h2
/-! ===== follow ===== -/
def FmF (U W : SS) : Prop := (∀ k, k ≠ 0 → k ≠ 44 → k ≠ 45 → W.1 k = U.1 k) ∧ (∀ i, i ≠ 70 → W.1 0 i = U.1 0 i)
theorem FmF.r {U W : SS} (h_ : FmF U W) : ∀ k, k ≠ 0 → k ≠ 44 → k ≠ 45 → W.1 k = U.1 k := h_.1
theorem FmF.f {U W : SS} (h_ : FmF U W) : ∀ i, i ≠ 70 → W.1 0 i = U.1 0 i := h_.2
theorem FmF.mk_ {U W : SS} (r_ : ∀ k, k ≠ 0 → k ≠ 44 → k ≠ 45 → W.1 k = U.1 k) (f_ : ∀ i, i ≠ 70 → W.1 0 i = U.1 0 i) : FmF U W := ⟨r_, f_⟩
theorem FmF.rf {T : SS} : FmF T T := ⟨fun _ _ _ _ => rfl, fun _ _ => rfl⟩
theorem FmF.tr {T V X : SS} (h : FmF T V) (g : FmF V X) : FmF T X := ⟨fun k a b c => (g.r k a b c).trans (h.r k a b c), fun i a => (g.f i a).trans (h.f i a)⟩
theorem FmF.w1 {T V : SS} (h : FmF T V) {k i : Nat} {v : Int32} (hk : k = 44 ∨ k = 45) : FmF T (st V k i v) := ⟨fun j a b c => by rw [st_row _ _ _ _ (by omega)]; exact h.r j a b c, fun j a => by rw [st_row _ _ _ _ (by omega)]; exact h.f j a⟩
theorem FmF.w2 {T V : SS} (h : FmF T V) {v : Int32} : FmF T (st V 0 70 v) := ⟨fun k a b c => by rw [st_row _ _ _ _ a]; exact h.r k a b c, fun j a => by rw [st_no (by omega)]; exact h.f j a⟩
theorem FmF.q {U W : SS} (h : FmF U W) : Qm U W := ⟨fun k a _ _ _ b c => h.r k a b c, fun i hi => h.f i (by omega)⟩
theorem fo_2 {n : Nat} {c : Nat → Int32} {pos : Nat → Int} {dir : Nat → Nat} {P : Nat → Prop} (hc : ACw n c pos dir) (hP : ∀ x s o, x < n → s < 2 → o < n → c (2 * x + s) = nI o → (P o ↔ P x)) : ∀ (N M k x s : Nat) (T U V W : SS), Mt n c T U → T.1 68 4 = nI k → k < 72 → U.1 0 70 = nI (k + 1) → U.1 44 k = nI x → U.1 45 k = nI (1 - s) → x < n → s < 2 → s = dir x → f_Trains_lineUp_L41 N (nI (2 * x + s)) T = some V → f_M_follow_L71 M (nI x) (nI (1 - s)) U = some W → ∃ m hk, Wk n c pos P x m hk ∧ k + m ≤ 72 ∧ hk 0 = 2 * x + (1 - s) ∧ V.1 68 4 = nI (k + m) ∧ W.1 0 70 = nI (k + m) ∧ (∀ i, i < m → V.1 104 (k + i) = nI (hk i) ∧ W.1 44 (k + i) = nI (hk i / 2) ∧ W.1 45 (k + i) = nI (hk i % 2)) ∧ (∀ i, i < k → V.1 104 i = T.1 104 i ∧ W.1 44 i = U.1 44 i ∧ W.1 45 i = U.1 45 i) ∧ FcL T V ∧ FmF U W
  | 0, M, k, x, s, T, U, V, W, hm, hk, k72, h70, h44, h45, hx, hs, hd, h1, h2 => by cases h1
  | N + 1, 0, k, x, s, T, U, V, W, hm, hk, k72, h70, h44, h45, hx, hs, hd, h1, h2 => by cases h2
  | N + 1, M + 1, k, x, s, T, U, V, W, hm, hk, k72, h70, h44, h45, hx, hs, hd, h1, h2 => by
    have h72 := hm.n72
    obtain ⟨T1, eT1, g1, g2⟩ := c_lstep hm hk k72 hx hs h1
    have ei : (2 : Int32) * nI x + 1 - nI (1 - s) = nI (2 * x + s) := by
      rw [nM2, nI_1, nI_sb (by omega) (by omega)]; exact congrArg nI (by omega)
    rw [f_M_follow_L71.eq_2, ei, grT (inb_nI (by omega) (by omega)), nI_clamp (by omega), hm.mm] at h2
    by_cases q : c (2 * x + s) = -4
    · rw [if_pos q] at h2
      injection h2 with h2
      have e := g1 q
      subst e
      subst h2
      refine ⟨1, fun _ => 2 * x + (1 - s), Wk.one hx (by omega), by omega, rfl, ?_, h70, fun i hi => ?_, fun i hi => ?_, ?_, FmF.rf⟩
      · rw [eT1, st_here]
      · have : i = 0 := by omega
        subst this
        refine ⟨?_, ?_, ?_⟩
        · rw [eT1, st_row _ _ _ _ (by decide), Nat.add_zero, st_here]
        · rw [Nat.add_zero, h44]; exact congrArg nI (show x = (2 * x + (1 - s)) / 2 by omega)
        · rw [Nat.add_zero, h45]; exact congrArg nI (show 1 - s = (2 * x + (1 - s)) % 2 by omega)
      · refine ⟨?_, rfl, rfl⟩
        rw [eT1, st_row _ _ _ _ (by decide), st_no (by omega)]
      · rw [eT1]; exact FcL.rf.w1.w2
    · obtain ⟨o, t, ho, ht, e1, e2, e3, e4⟩ := ac_next hc h72 hx hs q
      obtain ⟨e5, e6⟩ := e4 hd
      rw [if_neg q, grT (inb_nI (by omega) (by omega)), nmR, e1, sideTo_s hm.mm (by omega) ht e3, bnd_r, h70] at h2
      obtain ⟨hb, h2⟩ := grd_i h2
      have hb := inb_lt hb
      rw [nI_clamp (by omega)] at hb
      rw [wr_r, st_row _ _ _ _ (by decide), h70, grT (inb_nI (by omega) (by omega)), wr_r, wr_r, st_row _ _ _ _ (by decide), st_row _ _ _ _ (by decide), h70, nI_1, nI_clamp (by omega)] at h2
      have r := g2 o t ho ht e1 e3
      have F1 : FcL T T1 := by rw [eT1]; exact FcL.rf.w1.w2
      have F2 : FmF U (st (st (st U 44 (k + 1) (nI o)) 45 (k + 1) (nI t)) 0 70 (nI (k + 1 + 1))) := ((FmF.rf.w1 (by omega)).w1 (by omega)).w2
      rw [show (nI t) = nI (1 - (1 - t)) from congrArg nI (by omega)] at h2
      obtain ⟨m, hk', w, r1, r2, r3, r4, r5, r6, r9, r10⟩ := fo_2 hc hP N M (k + 1) o (1 - t) T1 _ V W (hm.fr (by rw [F1.r 63 (by decide) (by decide)]) (F1.r 79 (by decide) (by decide)) (by rw [st_row _ _ _ _ (by decide), st_row _ _ _ _ (by decide), st_row _ _ _ _ (by decide)])) (by rw [eT1, st_here]) hb (by rw [st_here]) (by rw [st_row _ _ _ _ (by decide), st_row _ _ _ _ (by decide), st_here]) (by rw [st_row _ _ _ _ (by decide), st_here]) ho (by omega) e6 r h2
      have hpp := hP x s o hx hs ho e1
      rw [show nI (1 - (1 - t)) = nI t from congrArg nI (by omega)] at r6 r10
      refine ⟨m + 1, cns (2 * x + (1 - s)) hk', w.cons hx (by omega) e5 hpp (by rw [r2]; omega) ⟨⟨s, hs, e1⟩, t, ht, e2⟩, by omega, rfl, ?_, ?_, fun i hi => ?_, fun i hi => ?_, F1.tr r9, F2.tr r10⟩
      · rw [r3]; exact congrArg nI (by omega)
      · rw [r4]; exact congrArg nI (by omega)
      · match i, hi with
        | 0, _ =>
          have := r6 k (by omega)
          rw [Nat.add_zero, cns_0, this.1, this.2.1, this.2.2, eT1]
          refine ⟨?_, ?_, ?_⟩
          · rw [st_row _ _ _ _ (by decide), st_here]
          · rw [st_row _ 0 _ _ (by decide), st_row _ 45 _ _ (by decide), st_no (by omega), h44]; exact congrArg nI (by omega)
          · rw [st_row _ 0 _ _ (by decide), st_no (by omega), st_row _ 44 _ _ (by decide), h45]; exact congrArg nI (by omega)
        | i + 1, hi =>
          have := r5 i (by omega)
          rw [cns_s, show k + (i + 1) = k + 1 + i by omega]; exact this
      · have := r6 i (by omega)
        rw [this.1, this.2.1, this.2.2, eT1]
        refine ⟨?_, ?_, ?_⟩
        · rw [st_row _ _ _ _ (by decide), st_no (by omega)]
        · rw [st_row _ 0 _ _ (by decide), st_row _ 45 _ _ (by decide), st_no (by omega)]
        · rw [st_row _ 0 _ _ (by decide), st_no (by omega), st_row _ 44 _ _ (by decide)]
/-- the CONSIST in the class's line and the reference's line, its sides ahead -/
def Lf (n : Nat) (V W : SS) (m : Nat) (hk : Nat → Nat) : Prop := (1 ≤ m) ∧ (m ≤ 72) ∧ (∀ i, i < m → hk i < 2 * n) ∧ (∀ i j, i < m → j < m → hk i / 2 = hk j / 2 → i = j) ∧ (V.1 68 4 = nI m) ∧ (∀ i, i < m → V.1 104 i = nI (hk i)) ∧ (W.1 0 70 = nI m) ∧ (∀ i, i < m → W.1 44 i = nI (hk i / 2)) ∧ (∀ i, i < m → W.1 45 i = nI (hk i % 2))
theorem Lf.m1 {n : Nat} {V W : SS} {m : Nat} {hk : Nat → Nat} (h_ : Lf n V W m hk) : 1 ≤ m := h_.1
theorem Lf.m72 {n : Nat} {V W : SS} {m : Nat} {hk : Nat → Nat} (h_ : Lf n V W m hk) : m ≤ 72 := h_.2.1
theorem Lf.lt {n : Nat} {V W : SS} {m : Nat} {hk : Nat → Nat} (h_ : Lf n V W m hk) : ∀ i, i < m → hk i < 2 * n := h_.2.2.1
theorem Lf.nd {n : Nat} {V W : SS} {m : Nat} {hk : Nat → Nat} (h_ : Lf n V W m hk) : ∀ i j, i < m → j < m → hk i / 2 = hk j / 2 → i = j := h_.2.2.2.1
theorem Lf.cl {n : Nat} {V W : SS} {m : Nat} {hk : Nat → Nat} (h_ : Lf n V W m hk) : V.1 68 4 = nI m := h_.2.2.2.2.1
theorem Lf.cr {n : Nat} {V W : SS} {m : Nat} {hk : Nat → Nat} (h_ : Lf n V W m hk) : ∀ i, i < m → V.1 104 i = nI (hk i) := h_.2.2.2.2.2.1
theorem Lf.ml {n : Nat} {V W : SS} {m : Nat} {hk : Nat → Nat} (h_ : Lf n V W m hk) : W.1 0 70 = nI m := h_.2.2.2.2.2.2.1
theorem Lf.mr {n : Nat} {V W : SS} {m : Nat} {hk : Nat → Nat} (h_ : Lf n V W m hk) : ∀ i, i < m → W.1 44 i = nI (hk i / 2) := h_.2.2.2.2.2.2.2.1
theorem Lf.ms {n : Nat} {V W : SS} {m : Nat} {hk : Nat → Nat} (h_ : Lf n V W m hk) : ∀ i, i < m → W.1 45 i = nI (hk i % 2) := h_.2.2.2.2.2.2.2.2
theorem Lf.mk_ {n : Nat} {V W : SS} {m : Nat} {hk : Nat → Nat} (m1_ : 1 ≤ m) (m72_ : m ≤ 72) (lt_ : ∀ i, i < m → hk i < 2 * n) (nd_ : ∀ i j, i < m → j < m → hk i / 2 = hk j / 2 → i = j) (cl_ : V.1 68 4 = nI m) (cr_ : ∀ i, i < m → V.1 104 i = nI (hk i)) (ml_ : W.1 0 70 = nI m) (mr_ : ∀ i, i < m → W.1 44 i = nI (hk i / 2)) (ms_ : ∀ i, i < m → W.1 45 i = nI (hk i % 2)) : Lf n V W m hk := ⟨m1_, m72_, lt_, nd_, cl_, cr_, ml_, mr_, ms_⟩
theorem fo_1 {n : Nat} {c : Nat → Int32} {pos : Nat → Int} {dir : Nat → Nat} {P : Nat → Prop} (hc : ACw n c pos dir) (hP : ∀ x s o, x < n → s < 2 → o < n → c (2 * x + s) = nI o → (P o ↔ P x)) : ∀ (N M i x s : Nat) (T U V W : SS), Mt n c T U → x < n → s < 2 → s = dir x → i + gp pos n (pos x) < 72 → f_Trains_lineUp_L4 N (nI (2 * x + s)) (nI i) T = some V → f_M_follow_L5 M (nI x) (nI s) U = some W → ∃ m hk, Lf n V W m hk ∧ (∀ i, i < m → (P (hk i / 2) ↔ P x)) ∧ FcL T V ∧ FmF U W
  | 0, M, i, x, s, T, U, V, W, hm, hx, hs, hd, hi, h1, h2 => by cases h1
  | N + 1, 0, i, x, s, T, U, V, W, hm, hx, hs, hd, hi, h1, h2 => by cases h2
  | N + 1, M + 1, i, x, s, T, U, V, W, hm, hx, hs, hd, hi, h1, h2 => by
    have h72 := hm.n72
    rw [f_M_follow_L5.eq_2, n2, inb_nI (j := 2 * x + s) (by omega) (by omega), grT rfl, nI_clamp (by omega), hm.mm] at h2
    rw [f_Trains_lineUp_L4.eq_2, if_neg (show ¬ (72 : Int32) ≤ nI i from nI_ge (b := 72) (by omega) (by omega))] at h1
    by_cases q : c (2 * x + s) = -4
    · rw [c_onw_no hm hx hs q, bnd_r, if_pos rfl, f_Trains_lineUp_j32.eq_1, wr_r, nmR, n_xor (by omega), show 2 * ((2 * x + s) / 2) + (1 - (2 * x + s) % 2) = 2 * x + (1 - s) by omega] at h1
      rw [if_pos q, grT (by decide), wr_r, grT (by decide), wr_r, wr_r, show (0 : Int32).toNatClampNeg = 0 from rfl, show nI s = nI (1 - (1 - s)) from congrArg nI (by omega)] at h2
      have F2 : FmF U (st (st (st U 44 0 (nI x)) 45 0 (nI (1 - (1 - s)))) 0 70 1) := ((FmF.rf.w1 (by omega)).w1 (by omega)).w2
      obtain ⟨m, hk, w, r1, r2, r3, r4, r5, r6, r9, r10⟩ := fo_2 hc.flip hP NF NF 0 x (1 - s) _ _ V W (hm.fr (V := st T 68 4 0) (by rw [st_row _ _ _ _ (by decide)]) (by rw [st_row _ _ _ _ (by decide)]) (F2.r 23 (by decide) (by decide) (by decide))) (by rw [st_here]; rfl) (by omega) (by rw [st_here]; rfl) (by rw [st_row _ _ _ _ (by decide), st_row _ _ _ _ (by decide), st_here]) (by rw [st_row _ _ _ _ (by decide), st_here]) hx (by omega) (by show 1 - s = 1 - dir x; omega) h1 h2
      refine ⟨m, hk, ⟨w.m1, by omega, w.lt, fun a b ha hb e => ?_, by rw [r3, Nat.zero_add], fun a ha => by have := (r5 a ha).1; rw [Nat.zero_add] at this; exact this, by rw [r4, Nat.zero_add], fun a ha => by have := (r5 a ha).2.1; rw [Nat.zero_add] at this; exact this, fun a ha => by have := (r5 a ha).2.2; rw [Nat.zero_add] at this; exact this⟩, w.pp, FcL.rf.w2.tr r9, F2.tr r10⟩
      have a1 := w.ps a ha
      have b1 := w.ps b hb
      rw [e] at a1
      omega
    · obtain ⟨o, t, ho, ht, e1, e2, e3, e4⟩ := ac_next hc h72 hx hs q
      obtain ⟨e5, e6⟩ := e4 hd
      have hgl := gp_lt (pos := pos) ho e5
      rw [if_neg q, grT rfl, nmR, e1, sideTo_s hm.mm (by omega) ht e3, bnd_r, nmR, n1m ht] at h2
      rw [c_onw hm hx hs ho ht e1 e3, bnd_r, if_neg (nI_m4 (by omega)), c_onw hm hx hs ho ht e1 e3, bnd_r, nmR, nI_1] at h1
      obtain ⟨m, hk, g1, g2, g3, g4⟩ := fo_1 hc hP N M (i + 1) o (1 - t) T U V W hm ho (by omega) e6 (by omega) h1 h2
      exact ⟨m, hk, g1, fun i hi => (g2 i hi).trans (hP x s o hx hs ho e1), g3, g4⟩
theorem Bo.mP {n np nt : Nat} {T U : SS} (b : Bo n np nt T U) : ∀ x s o, x < n → s < 2 → o < n → U.1 23 (2 * x + s) = nI o → (thU U o ↔ thU U x) := fun x s o hx hs ho e => by
  have h72 := b.s.n72
  have q := b.w.mt x s o hx hs ho (by
    rcases (show s = 0 ∨ s = 1 by omega) with rfl | rfl
    · rw [Nat.add_zero, sv_4 U (by omega)]; exact e
    · rw [show 15 * x + 4 + 1 = 15 * x + 5 by omega, sv_5 U (by omega)]; exact e)
  rw [show (15 * o : Nat) = 15 * o + 0 from rfl, show (15 * x : Nat) = 15 * x + 0 from rfl, sv_0 U (by omega), sv_0 U (by omega)] at q
  unfold thU
  by_cases c1 : U.1 19 o = 0
  · rw [if_pos c1] at q
    have : U.1 19 x = 0 := Classical.byContradiction (fun c => by rw [if_neg c] at q; exact absurd q (by decide))
    rw [c1, this]
  · rw [if_neg c1] at q
    have : ¬ U.1 19 x = 0 := fun c => by rw [if_pos c] at q; exact absurd q (by decide)
    exact ⟨fun _ => this, fun _ => c1⟩
theorem Bo.foll {n np nt : Nat} {T U V W : SS} {x s : Nat} (b : Bo n np nt T U) (hx : x < n) (hs : s < 2) (h1 : f_Trains_lineUp (nI (2 * x + s)) T = some V) (h2 : f_M_follow (nI x) (nI s) U = some W) : ∃ m hk, Lf n V W m hk ∧ (∀ i, i < m → (thU U (hk i / 2) ↔ thU U x)) ∧ Qz T U V W := by
  have h72 := b.s.n72
  obtain ⟨pos, dir, hc, hd⟩ := b.ac.dir x hs
  have hg := gp_n (pos := pos) hx
  rw [f_Trains_lineUp.eq_1] at h1
  rw [f_M_follow.eq_1] at h2
  obtain ⟨m, hk, g1, g2, g3, g4⟩ := fo_1 hc b.mP NF NF 0 x s T U V W (b.w.mates h72 b.s.cn) hx hs hd (by omega) h1 h2
  exact ⟨m, hk, g1, g2, Qz.of b.te g3.q g4.q⟩
/-! ===== a line goes one step ===== -/
theorem Rw.gen2 {n np nt : Nat} {pl kf : Nat → Int32} {B : Int} {K c K' c' : Nat → Int32} (h : Rw n np nt pl kf B K c) (hn : n ≤ 72) (hnp : np ≤ 40) (kk : ∀ y d, y < n → d < 15 → (d = 0 ∨ d = 4 ∨ d = 5 ∨ (10 ≤ d ∧ d ≤ 13)) → K' (15 * y + d) = K (15 * y + d)) (cc : ∀ y f, y < n → (f = 2 ∨ f = 3 ∨ f = 8 ∨ f = 9) → c' (154 + 11 * y + f) = c (154 + 11 * y + f)) (pa : ∀ y, y < n → (K' (15 * y) = 0 ∧ c' (154 + 11 * y) = -1) ∨ (K' (15 * y) = 1 ∧ ∃ t p q : Nat, t < nt ∧ pl t = nI q ∧ q ≤ 24 ∧ p < q ∧ K' (15 * y + 1) = nI t ∧ K' (15 * y + 2) = nI p ∧ c' (154 + 11 * y) = nI (24 * t + p))) (p3 : ∀ y, y < n → c' (154 + 11 * y + 1) = K' (15 * y + 3)) (p6 : ∀ y, y < n → c' (154 + 11 * y + 4) = K' (15 * y + 6)) (p7 : ∀ y, y < n → c' (154 + 11 * y + 5) = K' (15 * y + 7)) (p8 : ∀ y, y < n → c' (154 + 11 * y + 6) = K' (15 * y + 8)) (p9 : ∀ y, y < n → c' (154 + 11 * y + 7) = K' (15 * y + 9)) (p14 : ∀ y, y < n → c' (154 + 11 * y + 10) = K' (15 * y + 14)) (tb : ∀ y, y < n → K' (15 * y + 14) = 0 ∨ K' (15 * y + 14) = 1) (lo : ∀ j, j < 154 → c' j = c j) (hi : ∀ j, 1080 ≤ j → j < 1161 → K' j = K j) (nn : ∀ y d, n ≤ y → y < 72 → d < 15 → K' (15 * y + d) = K (15 * y + d)) : Rw n np nt pl kf B K' c' := by
  have k0 : ∀ y, y < n → K' (15 * y) = K (15 * y) := fun y hy => kk y 0 hy (by omega) (by omega)
  refine ⟨fun y hy => ?_, fun p hp' => ?_, ?_, ?_, fun y s o hy hs ho q => ?_, fun y e hy h72 he => by rw [nn y e hy h72 (by omega)]; exact h.nw y e hy h72 he⟩
  · have t := h.th y hy
    refine ⟨?_, ?_, ?_, ?_, ?_, ?_, ?_, ?_, ?_, ?_, ?_, ?_, ?_⟩
    · exact pa y hy
    · exact p3 y hy
    · rw [cc y 2 hy (by omega), kk y 4 hy (by omega) (by omega)]; exact t.m0
    · rw [cc y 3 hy (by omega), kk y 5 hy (by omega) (by omega)]; exact t.m1
    · exact p6 y hy
    · exact p7 y hy
    · exact p8 y hy
    · exact p9 y hy
    · rw [cc y 8 hy (by omega), kk y 10 hy (by omega) (by omega)]; exact t.run
    · rw [cc y 9 hy (by omega), kk y 12 hy (by omega) (by omega)]; exact t.rsd
    · exact p14 y hy
    · exact tb y hy
    · rw [k0 y hy, kk y 11 hy (by omega) (by omega), kk y 10 hy (by omega) (by omega), kk y 4 hy (by omega) (by omega), kk y 5 hy (by omega) (by omega), kk y 12 hy (by omega) (by omega)]; exact t.run0
  · rw [lo _ (by omega), lo _ (by omega), hi _ (by omega) (by omega), hi _ (by omega) (by omega)]; exact h.pt p hp'
  · rw [lo _ (by omega), hi _ (by omega) (by omega)]; exact h.dmp
  · obtain ⟨l, r⟩ := h.rns
    have hl := r.le
    refine ⟨l, by rw [lo _ (by omega)]; exact r.len, fun i hi => by rw [lo _ (by omega)]; exact r.cell i hi, fun y => ?_, ?_, fun y hy => ?_⟩
    · by_cases hy : y < n
      · rw [kk y 11 hy (by omega) (by omega)]; exact r.mem y
      · rw [r.mem y]; exact ⟨fun q => absurd q.1 hy, fun q => absurd q.1 hy⟩
    · refine r.srt.imp_of_mem (fun ha hb q => ?_)
      rw [kk _ 13 ((r.mem _).mp ha).1 (by omega) (by omega), kk _ 13 ((r.mem _).mp hb).1 (by omega) (by omega)]; exact q
    · rw [kk _ 13 ((r.mem _).mp hy).1 (by omega) (by omega)]; exact r.pos y hy
  · rw [Nat.add_assoc, kk y (4 + s) hy (by omega) (by omega), ← Nat.add_assoc] at q
    rw [k0 y hy, k0 o ho]; exact h.mt y s o hy hs ho q
/-- where each of the line stands and looks, as numbers -/
def tU (U : SS) (x : Nat) : Nat := (U.1 20 x).toNatClampNeg
def pU (U : SS) (x : Nat) : Nat := (U.1 21 x).toNatClampNeg
def lU (U : SS) (x : Nat) : Nat := (U.1 22 x).toNatClampNeg
def jU (U : SS) (x : Nat) : Nat := (U.1 26 x).toNatClampNeg
def sw (s w : Nat) : Nat := if s = 0 then w else 1 - w
/-- where each goes: the first to (t, p, d), each other to where the one before it was -/
def nxt (U : SS) (hk : Nat → Nat) (t p d : Nat) (i : Nat) : Nat × Nat × Nat := if i = 0 then (t, p, d) else (tU U (hk (i - 1) / 2), pU U (hk (i - 1) / 2), sw (hk (i - 1) % 2) (lU U (hk (i - 1) / 2)))
theorem nxt_s (U : SS) (hk : Nat → Nat) (t p d i : Nat) : nxt U hk t p d (i + 1) = (tU U (hk i / 2), pU U (hk i / 2), sw (hk i % 2) (lU U (hk i / 2))) := by
  unfold nxt; rw [if_neg (by omega), Nat.add_sub_cancel]
theorem max_c (a b : Int32) (S : SS) : f_Math_max_7cf53 a b S = some (if a < b then b else a, S) := by
  rw [f_Math_max_7cf53.eq_1]
  by_cases c : a < b
  · rw [if_pos c, if_pos c]
  · rw [if_neg c, if_neg c]
theorem jam_c (j : Nat) (hj : j ≤ 50) : (if nI j - (1 : Int32) < 0 then (0 : Int32) else nI j - 1) = nI (j - 1) := by
  by_cases c : j = 0
  · subst c; decide
  · rw [n_m1 (by omega) (by omega), if_neg (nI_nn (by omega))]
theorem sw2 {s w : Nat} (hw : w < 2) : sw s w < 2 := by unfold sw; split <;> omega
/-- what holds of those that didn't go yet -/
def Mc (U : SS) (T : SS) (n m : Nat) (hk : Nat → Nat) (i : Nat) : Prop := (∀ j, i ≤ j → j < m → T.1 79 (154 + 11 * (hk j / 2)) = nI (24 * tU U (hk j / 2) + pU U (hk j / 2))) ∧ (∀ j, i ≤ j → j < m → T.1 79 (154 + 11 * (hk j / 2) + 1) = nI (lU U (hk j / 2))) ∧ (∀ j, i ≤ j → j < m → T.1 79 (154 + 11 * (hk j / 2) + 6) = nI (jU U (hk j / 2))) ∧ (T.1 63 1 = nI n) ∧ (T.1 68 4 = nI m) ∧ (∀ j, j < m → T.1 104 j = nI (hk j))
theorem Mc.c0 {U : SS} {T : SS} {n m : Nat} {hk : Nat → Nat} {i : Nat} (h_ : Mc U T n m hk i) : ∀ j, i ≤ j → j < m → T.1 79 (154 + 11 * (hk j / 2)) = nI (24 * tU U (hk j / 2) + pU U (hk j / 2)) := h_.1
theorem Mc.c1 {U : SS} {T : SS} {n m : Nat} {hk : Nat → Nat} {i : Nat} (h_ : Mc U T n m hk i) : ∀ j, i ≤ j → j < m → T.1 79 (154 + 11 * (hk j / 2) + 1) = nI (lU U (hk j / 2)) := h_.2.1
theorem Mc.c6 {U : SS} {T : SS} {n m : Nat} {hk : Nat → Nat} {i : Nat} (h_ : Mc U T n m hk i) : ∀ j, i ≤ j → j < m → T.1 79 (154 + 11 * (hk j / 2) + 6) = nI (jU U (hk j / 2)) := h_.2.2.1
theorem Mc.cn {U : SS} {T : SS} {n m : Nat} {hk : Nat → Nat} {i : Nat} (h_ : Mc U T n m hk i) : T.1 63 1 = nI n := h_.2.2.2.1
theorem Mc.cl {U : SS} {T : SS} {n m : Nat} {hk : Nat → Nat} {i : Nat} (h_ : Mc U T n m hk i) : T.1 68 4 = nI m := h_.2.2.2.2.1
theorem Mc.cr {U : SS} {T : SS} {n m : Nat} {hk : Nat → Nat} {i : Nat} (h_ : Mc U T n m hk i) : ∀ j, j < m → T.1 104 j = nI (hk j) := h_.2.2.2.2.2
theorem Mc.mk_ {U : SS} {T : SS} {n m : Nat} {hk : Nat → Nat} {i : Nat} (c0_ : ∀ j, i ≤ j → j < m → T.1 79 (154 + 11 * (hk j / 2)) = nI (24 * tU U (hk j / 2) + pU U (hk j / 2))) (c1_ : ∀ j, i ≤ j → j < m → T.1 79 (154 + 11 * (hk j / 2) + 1) = nI (lU U (hk j / 2))) (c6_ : ∀ j, i ≤ j → j < m → T.1 79 (154 + 11 * (hk j / 2) + 6) = nI (jU U (hk j / 2))) (cn_ : T.1 63 1 = nI n) (cl_ : T.1 68 4 = nI m) (cr_ : ∀ j, j < m → T.1 104 j = nI (hk j)) : Mc U T n m hk i := ⟨c0_, c1_, c6_, cn_, cl_, cr_⟩
theorem mv_c {n m t p d : Nat} {U : SS} {hk : Nat → Nat} (h72 : n ≤ 72) (m72 : m ≤ 72) (lt : ∀ i, i < m → hk i < 2 * n) (nd : ∀ i j, i < m → j < m → hk i / 2 = hk j / 2 → i = j) (lk : ∀ x, x < n → lU U x < 2) (jm : ∀ x, x < n → jU U x ≤ 50) (hd : d < 2) : ∀ (N i : Nat) (T V : SS), Mc U T n m hk i → i ≤ m → f_Trains_moveLine_L11 N (nI (24 * (nxt U hk t p d i).1 + (nxt U hk t p d i).2.1)) (nI (nxt U hk t p d i).2.2) (nI i) T = some V → (∀ j, i ≤ j → j < m → V.1 79 (154 + 11 * (hk j / 2)) = nI (24 * (nxt U hk t p d j).1 + (nxt U hk t p d j).2.1) ∧ V.1 79 (154 + 11 * (hk j / 2) + 1) = nI (sw (hk j % 2) (nxt U hk t p d j).2.2) ∧ V.1 79 (154 + 11 * (hk j / 2) + 6) = nI (jU U (hk j / 2) - 1)) ∧ (∀ c, (∀ j, i ≤ j → j < m → c ≠ 154 + 11 * (hk j / 2) ∧ c ≠ 154 + 11 * (hk j / 2) + 1 ∧ c ≠ 154 + 11 * (hk j / 2) + 6) → V.1 79 c = T.1 79 c) ∧ (∀ k, k ≠ 79 → V.1 k = T.1 k)
  | 0, i, T, V, _, _, h => by cases h
  | N + 1, i, T, V, M, hi, h => by
    rw [f_Trains_moveLine_L11.eq_2, M.cl] at h
    by_cases c : i = m
    · subst c
      rw [if_pos (nI_le (by omega) (by omega))] at h
      injection h with h
      subst h
      exact ⟨fun j a b => by omega, fun c _ => rfl, fun k _ => rfl⟩
    · have hlt := lt i (by omega)
      have hx : hk i / 2 < n := by omega
      have dd : (nxt U hk t p d i).2.2 < 2 := by
        unfold nxt
        by_cases z : i = 0
        · rw [if_pos z]; exact hd
        · rw [if_neg z]
          have := lt (i - 1) (by omega)
          exact sw2 (lk _ (by omega))
      have hook : f_Trains_hookInLine (nI i) T = some (nI (hk i), T) := by
        rw [f_Trains_hookInLine.eq_1, if_neg (nI_nn (by omega)), M.cl, if_neg (nI_ge (by omega) (by omega)), if_pos (show nI i < (72 : Int32) from (nI_ltJ (b := 72) (by omega) (by omega)).mpr (by omega)), grT (inb_nI (by omega) (by omega)), nI_clamp (by omega), M.cr i (by omega)]
      have look : f_State_looks (nI (hk i)) T = some (nI (sw (hk i % 2) (lU U (hk i / 2))), T) := by
        rw [f_State_looks.eq_1, n_shr (by omega), n_and (by omega), sg (f := 1) 1 rfl M.cn h72 hx (by omega), bnd_r, M.c1 i (Nat.le_refl _) (by omega), n_xr (lk _ hx) (by omega)]
        rfl
      rw [if_neg (nI_ge (by omega) (by omega)), hook, bnd_r, n_shr (by omega), sg (f := 0) 0 rfl M.cn h72 hx (by omega), bnd_r, look, bnd_r, Nat.add_zero, M.c0 i (Nat.le_refl _) (by omega), f_State_goTo.eq_1, n_shr (by omega), n_and (by omega), n_xr dd (by omega), sset (f := 0) 0 _ rfl M.cn h72 hx (by omega), bndv_r, sset (f := 1) 1 _ rfl (by rw [st_row _ _ _ _ (by decide)]; exact M.cn) h72 hx (by omega), bndv_r, bndv_r, sg (f := 6) 6 rfl (by rw [st_row _ _ _ _ (by decide), st_row _ _ _ _ (by decide)]; exact M.cn) h72 hx (by omega), bnd_r, st_no (by omega), st_no (by omega), M.c6 i (Nat.le_refl _) (by omega), max_c, bnd_r, jam_c _ (jm _ hx), sset (f := 6) 6 _ rfl (by rw [st_row _ _ _ _ (by decide), st_row _ _ _ _ (by decide)]; exact M.cn) h72 hx (by omega), bndv_r, nmR, nI_1, show 154 + 11 * (hk i / 2) + 0 = 154 + 11 * (hk i / 2) from rfl] at h
      have e1 : nI (24 * tU U (hk i / 2) + pU U (hk i / 2)) = nI (24 * (nxt U hk t p d (i + 1)).1 + (nxt U hk t p d (i + 1)).2.1) := by rw [nxt_s]
      have e2 : nI (sw (hk i % 2) (lU U (hk i / 2))) = nI (nxt U hk t p d (i + 1)).2.2 := by rw [nxt_s]
      rw [e1, e2] at h
      have oth : ∀ j g, i + 1 ≤ j → j < m → g < 11 → (st (st (st T 79 (154 + 11 * (hk i / 2)) (nI (24 * (nxt U hk t p d i).1 + (nxt U hk t p d i).2.1))) 79 (154 + 11 * (hk i / 2) + 1) (nI (if hk i % 2 = 0 then (nxt U hk t p d i).2.2 else 1 - (nxt U hk t p d i).2.2))) 79 (154 + 11 * (hk i / 2) + 6) (nI (jU U (hk i / 2) - 1))).1 79 (154 + 11 * (hk j / 2) + g) = T.1 79 (154 + 11 * (hk j / 2) + g) := fun j g a b hg => by
        have : hk j / 2 ≠ hk i / 2 := fun z => by have := nd j i b (by omega) z; omega
        rw [st_no (by omega), st_no (by omega), st_no (by omega)]
      obtain ⟨g1, g2, g3⟩ := mv_c h72 m72 lt nd lk jm hd N (i + 1) _ V ⟨fun j a b => (oth j 0 a b (by omega)).trans (M.c0 j (by omega) b), fun j a b => by rw [oth j 1 a b (by omega)]; exact M.c1 j (by omega) b, fun j a b => by rw [oth j 6 a b (by omega)]; exact M.c6 j (by omega) b, by rw [st_row _ _ _ _ (by decide), st_row _ _ _ _ (by decide), st_row _ _ _ _ (by decide)]; exact M.cn, by rw [st_row _ _ _ _ (by decide), st_row _ _ _ _ (by decide), st_row _ _ _ _ (by decide)]; exact M.cl, by rw [st_row _ _ _ _ (by decide), st_row _ _ _ _ (by decide), st_row _ _ _ _ (by decide)]; exact M.cr⟩ (by omega) h
      refine ⟨fun j a b => ?_, fun c a => ?_, fun k a => by rw [g3 k a, st_row _ _ _ _ a, st_row _ _ _ _ a, st_row _ _ _ _ a]⟩
      · by_cases e : j = i
        · subst e
          have ne : ∀ g, g < 11 → ∀ k, j + 1 ≤ k → k < m → 154 + 11 * (hk j / 2) + g ≠ 154 + 11 * (hk k / 2) ∧ 154 + 11 * (hk j / 2) + g ≠ 154 + 11 * (hk k / 2) + 1 ∧ 154 + 11 * (hk j / 2) + g ≠ 154 + 11 * (hk k / 2) + 6 := fun g hg k k1 k2 => by
            have : hk k / 2 ≠ hk j / 2 := fun z => by have := nd k j k2 b z; omega
            omega
          have z0 := g2 (154 + 11 * (hk j / 2)) (ne 0 (by omega))
          rw [z0, g2 _ (ne 1 (by omega)), g2 _ (ne 6 (by omega))]
          refine ⟨?_, ?_, ?_⟩
          · rw [st_no (by omega), st_no (by omega), st_here]
          · rw [st_no (by omega), st_here]; rfl
          · rw [st_here]
        · exact g1 j (by omega) b
      · have z := a i (Nat.le_refl _) (by omega)
        rw [g2 c (fun k k1 k2 => a k (by omega) k2), st_no (by omega), st_no (by omega), st_no (by omega)]
theorem m_place {U : SS} {x s w : Nat} (a b : Int32) (hx : x < 72) (hw : w < 2) (hs : s < 2) : f_M_place (nI x) a b (nI s) (nI w) U = some (st (st (st U 20 x a) 21 x b) 22 x (nI (sw s w))) := by
  rw [f_M_place.eq_1, grT (inb_nI hx (by omega)), wr_r, grT (inb_nI hx (by omega)), wr_r, nI_clamp (by omega)]
  unfold sw
  by_cases c : s = 0
  · subst c
    rw [if_pos (by rfl), grT (inb_nI hx (by omega)), wr_r, if_pos rfl]
  · rw [if_neg (n_ne0 (by omega) c), grT (inb_nI hx (by omega)), wr_r, if_neg c, n1m hw]
theorem n_sub1 (a : Int32) : a + (-1 : Int32) = a - 1 := by
  rw [Int32.sub_eq_add_neg]
/-- those of the reference that didn't go yet: the first k -/
def Mm (U U' : SS) (t p d m : Nat) (hk : Nat → Nat) (k : Nat) : Prop := (∀ j, j < k → U'.1 20 (hk j / 2) = nI (tU U (hk j / 2))) ∧ (∀ j, j < k → U'.1 21 (hk j / 2) = nI (pU U (hk j / 2))) ∧ (∀ j, j < k → U'.1 22 (hk j / 2) = nI (lU U (hk j / 2))) ∧ (∀ j, j < k → U'.1 26 (hk j / 2) = nI (jU U (hk j / 2))) ∧ (U'.1 0 26 = nI t) ∧ (U'.1 0 27 = nI p) ∧ (U'.1 0 28 = nI d) ∧ (∀ j, j < m → U'.1 44 j = nI (hk j / 2)) ∧ (∀ j, j < m → U'.1 45 j = nI (hk j % 2))
theorem Mm.a20 {U U' : SS} {t p d m : Nat} {hk : Nat → Nat} {k : Nat} (h_ : Mm U U' t p d m hk k) : ∀ j, j < k → U'.1 20 (hk j / 2) = nI (tU U (hk j / 2)) := h_.1
theorem Mm.a21 {U U' : SS} {t p d m : Nat} {hk : Nat → Nat} {k : Nat} (h_ : Mm U U' t p d m hk k) : ∀ j, j < k → U'.1 21 (hk j / 2) = nI (pU U (hk j / 2)) := h_.2.1
theorem Mm.a22 {U U' : SS} {t p d m : Nat} {hk : Nat → Nat} {k : Nat} (h_ : Mm U U' t p d m hk k) : ∀ j, j < k → U'.1 22 (hk j / 2) = nI (lU U (hk j / 2)) := h_.2.2.1
theorem Mm.a26 {U U' : SS} {t p d m : Nat} {hk : Nat → Nat} {k : Nat} (h_ : Mm U U' t p d m hk k) : ∀ j, j < k → U'.1 26 (hk j / 2) = nI (jU U (hk j / 2)) := h_.2.2.2.1
theorem Mm.f26 {U U' : SS} {t p d m : Nat} {hk : Nat → Nat} {k : Nat} (h_ : Mm U U' t p d m hk k) : U'.1 0 26 = nI t := h_.2.2.2.2.1
theorem Mm.f27 {U U' : SS} {t p d m : Nat} {hk : Nat → Nat} {k : Nat} (h_ : Mm U U' t p d m hk k) : U'.1 0 27 = nI p := h_.2.2.2.2.2.1
theorem Mm.f28 {U U' : SS} {t p d m : Nat} {hk : Nat → Nat} {k : Nat} (h_ : Mm U U' t p d m hk k) : U'.1 0 28 = nI d := h_.2.2.2.2.2.2.1
theorem Mm.l44 {U U' : SS} {t p d m : Nat} {hk : Nat → Nat} {k : Nat} (h_ : Mm U U' t p d m hk k) : ∀ j, j < m → U'.1 44 j = nI (hk j / 2) := h_.2.2.2.2.2.2.2.1
theorem Mm.l45 {U U' : SS} {t p d m : Nat} {hk : Nat → Nat} {k : Nat} (h_ : Mm U U' t p d m hk k) : ∀ j, j < m → U'.1 45 j = nI (hk j % 2) := h_.2.2.2.2.2.2.2.2
theorem Mm.mk_ {U U' : SS} {t p d m : Nat} {hk : Nat → Nat} {k : Nat} (a20_ : ∀ j, j < k → U'.1 20 (hk j / 2) = nI (tU U (hk j / 2))) (a21_ : ∀ j, j < k → U'.1 21 (hk j / 2) = nI (pU U (hk j / 2))) (a22_ : ∀ j, j < k → U'.1 22 (hk j / 2) = nI (lU U (hk j / 2))) (a26_ : ∀ j, j < k → U'.1 26 (hk j / 2) = nI (jU U (hk j / 2))) (f26_ : U'.1 0 26 = nI t) (f27_ : U'.1 0 27 = nI p) (f28_ : U'.1 0 28 = nI d) (l44_ : ∀ j, j < m → U'.1 44 j = nI (hk j / 2)) (l45_ : ∀ j, j < m → U'.1 45 j = nI (hk j % 2)) : Mm U U' t p d m hk k := ⟨a20_, a21_, a22_, a26_, f26_, f27_, f28_, l44_, l45_⟩
theorem mv_m {n m t p d : Nat} {U : SS} {hk : Nat → Nat} (h72 : n ≤ 72) (m72 : m ≤ 72) (lt : ∀ i, i < m → hk i < 2 * n) (nd : ∀ i j, i < m → j < m → hk i / 2 = hk j / 2 → i = j) (lk : ∀ x, x < n → lU U x < 2) (jm : ∀ x, x < n → jU U x ≤ 50) (hd : d < 2) : ∀ (M k : Nat) (U' W : SS), Mm U U' t p d m hk k → k ≤ m → f_M_goOn_L7 M (nI k - 1) U' = some W → (∀ j, j < k → W.1 20 (hk j / 2) = nI (nxt U hk t p d j).1 ∧ W.1 21 (hk j / 2) = nI (nxt U hk t p d j).2.1 ∧ W.1 22 (hk j / 2) = nI (sw (hk j % 2) (nxt U hk t p d j).2.2) ∧ W.1 26 (hk j / 2) = nI (jU U (hk j / 2) - 1)) ∧ (∀ y, (∀ j, j < k → y ≠ hk j / 2) → W.1 20 y = U'.1 20 y ∧ W.1 21 y = U'.1 21 y ∧ W.1 22 y = U'.1 22 y ∧ W.1 26 y = U'.1 26 y) ∧ (∀ k, k ≠ 20 → k ≠ 21 → k ≠ 22 → k ≠ 26 → W.1 k = U'.1 k)
  | 0, k, U', W, _, _, h => by cases h
  | M + 1, 0, U', W, G, hk0, h => by
    rw [f_M_goOn_L7.eq_2, if_pos (by decide)] at h
    injection h with h
    subst h
    exact ⟨fun j a => by omega, fun y _ => ⟨rfl, rfl, rfl, rfl⟩, fun k _ _ _ _ => rfl⟩
  | M + 1, k + 1, U', W, G, hkm, h => by
    have hlt := lt k (by omega)
    have hx : hk k / 2 < n := by omega
    have hj := jm _ hx
    have dd : (nxt U hk t p d k).2.2 < 2 := by
      unfold nxt
      by_cases z : k = 0
      · rw [if_pos z]; exact hd
      · rw [if_neg z]
        have := lt (k - 1) (by omega)
        exact sw2 (lk _ (by omega))
    have h' : f_M_goOn_L7 M (nI k - 1) (st (st (st (st U' 26 (hk k / 2) (nI (jU U (hk k / 2) - 1))) 20 (hk k / 2) (nI (nxt U hk t p d k).1)) 21 (hk k / 2) (nI (nxt U hk t p d k).2.1)) 22 (hk k / 2) (nI (sw (hk k % 2) (nxt U hk t p d k).2.2))) = some W := by
      rw [f_M_goOn_L7.eq_2, n_m1 (by omega) (by omega), Nat.add_sub_cancel, if_neg (nI_nn (by omega)), grT (inb_nI (by omega) (by omega)), nmR, nI_clamp (n := k) (by omega), G.l44 k (by omega), grT (inb_nI (by omega) (by omega)), grT (inb_nI (by omega) (by omega)), nI_clamp (n := hk k / 2) (by omega), G.a26 k (by omega)] at h
      have j39 : ∀ y0 : Int32, nI (jU U (hk k / 2)) - y0 = nI (jU U (hk k / 2) - 1) → f_M_goOn_j39 (fun v0 S => f_M_goOn_L7 M v0 S) (nI k) (nI (hk k / 2)) y0 (nI (jU U (hk k / 2))) (nI (hk k / 2)) U' = some W → f_M_goOn_L7 M (nI k - 1) (st (st (st (st U' 26 (hk k / 2) (nI (jU U (hk k / 2) - 1))) 20 (hk k / 2) (nI (nxt U hk t p d k).1)) 21 (hk k / 2) (nI (nxt U hk t p d k).2.1)) 22 (hk k / 2) (nI (sw (hk k % 2) (nxt U hk t p d k).2.2))) = some W := fun y0 ey h => by
        rw [f_M_goOn_j39.eq_1, grT (inb_nI (by omega) (by omega)), wr_r, nI_clamp (n := hk k / 2) (by omega), ey] at h
        by_cases z : k = 0
        · subst z
          rw [if_pos (by rfl), grT (by decide), st_row _ _ _ _ (by decide), st_row _ _ _ _ (by decide), G.f26, G.f27, G.f28, show (0 : Int32).toNatClampNeg = 0 from rfl, G.l45 0 (by omega), m_place _ _ (by omega) hd (by omega), bndv_r, f_M_goOn_j116.eq_1, nmR, n_sub1] at h
          exact h
        · have hlt' := lt (k - 1) (by omega)
          have hx' : hk (k - 1) / 2 < n := by omega
          have ne : hk (k - 1) / 2 ≠ hk k / 2 := fun q => by have := nd (k - 1) k (by omega) (by omega) q; omega
          have wy : ∀ S : SS, S.1 22 (hk (k - 1) / 2) = nI (lU U (hk (k - 1) / 2)) → f_M_wayOf (nI (hk (k - 1) / 2)) (nI (hk (k - 1) % 2)) S = some (nI (sw (hk (k - 1) % 2) (lU U (hk (k - 1) / 2))), S) := fun S e => by
            rw [f_M_wayOf.eq_1, grT (inb_nI (by omega) (by omega)), grT (inb_nI (by omega) (by omega)), nI_clamp (by omega), e]
            unfold sw
            by_cases q : hk (k - 1) % 2 = 0
            · rw [if_pos (by rw [q]; rfl), if_pos q]
            · rw [if_neg (n_ne0 (by omega) q), if_neg q, n1m (lk _ hx')]
          have en : nxt U hk t p d k = (tU U (hk (k - 1) / 2), pU U (hk (k - 1) / 2), sw (hk (k - 1) % 2) (lU U (hk (k - 1) / 2))) := by unfold nxt; rw [if_neg z]
          rw [if_neg (n_ne0 (by omega) z), n_m1 (by omega) (by omega), grT (inb_nI (by omega) (by omega)), nmR, nI_clamp (n := k - 1) (by omega), st_row _ _ _ _ (by decide), st_row _ _ _ _ (by decide), st_row _ _ _ _ (by decide), st_row _ _ _ _ (by decide), G.l44 (k - 1) (by omega), grT (inb_nI (by omega) (by omega)), grT (inb_nI (by omega) (by omega)), grT (inb_nI (by omega) (by omega)), grT (inb_nI (by omega) (by omega)), G.l45 (k - 1) (by omega), wy _ (by rw [st_row _ _ _ _ (by decide)]; exact G.a22 (k - 1) (by omega)), bnd_r, nI_clamp (n := hk (k - 1) / 2) (by omega), nI_clamp (n := k) (by omega), G.a20 (k - 1) (by omega), G.a21 (k - 1) (by omega), G.l45 k (by omega), m_place _ _ (by omega) (sw2 (lk _ hx')) (by omega), bndv_r, f_M_goOn_j116.eq_1, nmR, n_sub1] at h
          rw [en]
          exact h
      by_cases z : jU U (hk k / 2) = 0
      · rw [if_pos (by rw [z]; decide)] at h
        exact j39 0 (by rw [z]; decide) h
      · rw [if_neg (fun q => by have := (n_leJ (b := 0) (by omega) (by omega)).mp q; omega)] at h
        exact j39 1 (n_m1 (by omega) (by omega)) h
    have oth : ∀ y, y ≠ hk k / 2 → ∀ R, (st (st (st (st U' 26 (hk k / 2) (nI (jU U (hk k / 2) - 1))) 20 (hk k / 2) (nI (nxt U hk t p d k).1)) 21 (hk k / 2) (nI (nxt U hk t p d k).2.1)) 22 (hk k / 2) (nI (sw (hk k % 2) (nxt U hk t p d k).2.2))).1 R y = U'.1 R y := fun y hy R => by
      rw [st_no (fun q => hy q.2), st_no (fun q => hy q.2), st_no (fun q => hy q.2), st_no (fun q => hy q.2)]
    have row : ∀ R, R ≠ 20 → R ≠ 21 → R ≠ 22 → R ≠ 26 → (st (st (st (st U' 26 (hk k / 2) (nI (jU U (hk k / 2) - 1))) 20 (hk k / 2) (nI (nxt U hk t p d k).1)) 21 (hk k / 2) (nI (nxt U hk t p d k).2.1)) 22 (hk k / 2) (nI (sw (hk k % 2) (nxt U hk t p d k).2.2))).1 R = U'.1 R := fun R a b c e => by
      rw [st_row _ _ _ _ c, st_row _ _ _ _ b, st_row _ _ _ _ a, st_row _ _ _ _ e]
    have ne : ∀ j, j < k → hk j / 2 ≠ hk k / 2 := fun j hj q => by have := nd j k (by omega) (by omega) q; omega
    obtain ⟨g1, g2, g3⟩ := mv_m h72 m72 lt nd lk jm hd M k _ W ⟨fun j hj => by rw [oth _ (ne j hj)]; exact G.a20 j (by omega), fun j hj => by rw [oth _ (ne j hj)]; exact G.a21 j (by omega), fun j hj => by rw [oth _ (ne j hj)]; exact G.a22 j (by omega), fun j hj => by rw [oth _ (ne j hj)]; exact G.a26 j (by omega), by rw [row 0 (by decide) (by decide) (by decide) (by decide)]; exact G.f26, by rw [row 0 (by decide) (by decide) (by decide) (by decide)]; exact G.f27, by rw [row 0 (by decide) (by decide) (by decide) (by decide)]; exact G.f28, by rw [row 44 (by decide) (by decide) (by decide) (by decide)]; exact G.l44, by rw [row 45 (by decide) (by decide) (by decide) (by decide)]; exact G.l45⟩ (by omega) h'
    refine ⟨fun j hj => ?_, fun y hy => ?_, fun R a b c e => by rw [g3 R a b c e, row R a b c e]⟩
    · by_cases e : j = k
      · subst e
        obtain ⟨z1, z2, z3, z4⟩ := g2 (hk j / 2) (fun i hi q => ne i hi q.symm)
        rw [z1, z2, z3, z4]
        refine ⟨?_, ?_, ?_, ?_⟩
        · rw [st_row _ 22 _ _ (by decide), st_row _ 21 _ _ (by decide), st_here]
        · rw [st_row _ 22 _ _ (by decide), st_here]
        · rw [st_here]
        · rw [st_row _ 22 _ _ (by decide), st_row _ 21 _ _ (by decide), st_row _ 20 _ _ (by decide), st_here]
      · exact g1 j (by omega)
    · obtain ⟨z1, z2, z3, z4⟩ := g2 y (fun i hi => hy i (by omega))
      have q := hy k (by omega)
      rw [z1, z2, z3, z4, oth y q, oth y q, oth y q, oth y q]
      exact ⟨rfl, rfl, rfl, rfl⟩
theorem rwd_mv {g : Nat} (h : g < 15) (h1 : g ≠ 1) (h2 : g ≠ 2) (h3 : g ≠ 3) (h8 : g ≠ 8) : rwd g ≠ 20 ∧ rwd g ≠ 21 ∧ rwd g ≠ 22 ∧ rwd g ≠ 26 := by
  have : ∀ g : Fin 15, g.1 ≠ 1 → g.1 ≠ 2 → g.1 ≠ 3 → g.1 ≠ 8 → rwd g.1 ≠ 20 ∧ rwd g.1 ≠ 21 ∧ rwd g.1 ≠ 22 ∧ rwd g.1 ≠ 26 := by decide
  exact this ⟨g, h⟩ h1 h2 h3 h8
theorem Lf.fr {n m : Nat} {hk : Nat → Nat} {T U V W : SS} (l : Lf n T U m hk) (c1 : V.1 104 = T.1 104) (c2 : V.1 68 4 = T.1 68 4) (m1 : W.1 44 = U.1 44) (m2 : W.1 45 = U.1 45) (mf : W.1 0 70 = U.1 0 70) : Lf n V W m hk := by
  obtain ⟨h1, h2, h3, h4, h5, h6, h7, h8, h9⟩ := l
  exact ⟨h1, h2, h3, h4, by rw [c2]; exact h5, by rw [c1]; exact h6, by rw [mf]; exact h7, by rw [m1]; exact h8, by rw [m2]; exact h9⟩
theorem step_bo {n np nt m t p d q : Nat} {hk : Nat → Nat} {T U V W : SS} (b : Bo n np nt T U) (l : Lf n T U m hk) (th : ∀ i, i < m → thU U (hk i / 2)) (ht : t < nt) (hq : U.1 3 t = nI q) (hq2 : q ≤ 24) (hp : p < q) (hd : d < 2) (f26 : U.1 0 26 = nI t) (f27 : U.1 0 27 = nI p) (f28 : U.1 0 28 = nI d) (h1 : f_Trains_moveLine (nI (2 * (24 * t + p) + d)) T = some V) (h2 : f_M_goOn U = some W) : Bo n np nt V W ∧ Lf n V W m hk ∧ Cfa T V ∧ Mf U W ∧ (∀ i, i < m → thU W (hk i / 2)) ∧ W.1 0 47 = U.1 0 47 := by
  have h72 := b.s.n72
  have hnt := b.s.nt24
  have hx : ∀ i, i < m → hk i / 2 < n := fun i hi => by have := l.lt i hi; omega
  have ps : ∀ i, i < m → ∃ q, tU U (hk i / 2) < nt ∧ U.1 3 (tU U (hk i / 2)) = nI q ∧ q ≤ 24 ∧ pU U (hk i / 2) < q ∧ U.1 20 (hk i / 2) = nI (tU U (hk i / 2)) ∧ U.1 21 (hk i / 2) = nI (pU U (hk i / 2)) ∧ T.1 79 (154 + 11 * (hk i / 2)) = nI (24 * tU U (hk i / 2) + pU U (hk i / 2)) := fun i hi => by
    obtain ⟨t', p', q', a1, a2, a3, a4, a5, a6, a7⟩ := b.pos (hx i hi) (th i hi)
    have e1 : tU U (hk i / 2) = t' := by unfold tU; rw [a5, nI_clamp (by omega)]
    have e2 : pU U (hk i / 2) = p' := by unfold pU; rw [a6, nI_clamp (by omega)]
    rw [e1, e2]
    exact ⟨q', a1, a2, a3, a4, a5, a6, a7⟩
  have lks : ∀ x, x < n → lU U x < 2 ∧ U.1 22 x = nI (lU U x) := fun x hx => by
    obtain ⟨k, k1, k2⟩ := b.lk x hx
    have : lU U x = k := by unfold lU; rw [k2, nI_clamp (by omega)]
    rw [this]; exact ⟨k1, k2⟩
  have jms : ∀ x, x < n → jU U x ≤ 50 ∧ U.1 26 x = nI (jU U x) := fun x hx => by
    obtain ⟨k, k1, k2⟩ := b.jm x hx
    have : jU U x = k := by unfold jU; rw [k2, nI_clamp (by omega)]
    rw [this]; exact ⟨k1, k2⟩
  have n0 : nxt U hk t p d 0 = (t, p, d) := rfl
  have mc : Mc U T n m hk 0 := ⟨fun j _ hj => by obtain ⟨q, -, -, -, -, -, -, a⟩ := ps j hj; exact a, fun j _ hj => by
      have := (b.w.th _ (hx j hj)).look
      have z := hx j hj
      rw [sv_3 U (by omega), (lks _ (hx j hj)).2] at this
      exact this, fun j _ hj => by
      have := (b.w.th _ (hx j hj)).jam
      have z := hx j hj
      rw [sv_8 U (by omega), (jms _ (hx j hj)).2] at this
      exact this, b.s.cn, l.cl, l.cr⟩
  have mm : Mm U U t p d m hk m := ⟨fun j hj => by obtain ⟨q, -, -, -, -, a, -⟩ := ps j hj; exact a, fun j hj => by obtain ⟨q, -, -, -, -, -, a, -⟩ := ps j hj; exact a, fun j hj => (lks _ (hx j hj)).2, fun j hj => (jms _ (hx j hj)).2, f26, f27, f28, l.mr, l.ms⟩
  rw [f_Trains_moveLine.eq_1, nmR, nmR, n_shr (by omega), n_and (by omega), show (2 * (24 * t + p) + d) / 2 = 24 * t + p by omega, show (2 * (24 * t + p) + d) % 2 = d by omega] at h1
  rw [f_M_goOn.eq_1, nmR, l.ml] at h2
  obtain ⟨g1, g2, g3⟩ := mv_c h72 l.m72 l.lt l.nd (fun x hx => (lks x hx).1) (fun x hx => (jms x hx).1) hd NF 0 T V mc (by omega) h1
  obtain ⟨k1, k2, k3⟩ := mv_m h72 l.m72 l.lt l.nd (fun x hx => (lks x hx).1) (fun x hx => (jms x hx).1) hd NF m U W mm (Nat.le_refl _) h2
  have Wr : ∀ k, k ≠ 20 → k ≠ 21 → k ≠ 22 → k ≠ 26 → W.1 k = U.1 k := k3
  have cf : Cfa T V := fun k hk => g3 k (by unfold cdy at hk; omega)
  have mf : Mf U W := ⟨fun k _ hk => Wr k (by unfold mdy at hk; omega) (by unfold mdy at hk; omega) (by unfold mdy at hk; omega) (by unfold mdy at hk; omega), fun i _ => by rw [Wr 0 (by decide) (by decide) (by decide) (by decide)]⟩
  have nxo : ∀ i, i < m → ∃ q, (nxt U hk t p d i).1 < nt ∧ U.1 3 (nxt U hk t p d i).1 = nI q ∧ q ≤ 24 ∧ (nxt U hk t p d i).2.1 < q ∧ (nxt U hk t p d i).2.2 < 2 := fun i hi => by
    match i, hi with
    | 0, _ => rw [n0]; exact ⟨q, ht, hq, hq2, hp, hd⟩
    | i + 1, hi =>
      obtain ⟨q', a1, a2, a3, a4, -⟩ := ps i (by omega)
      rw [nxt_s]
      exact ⟨q', a1, a2, a3, a4, sw2 (lks _ (hx i (by omega))).1⟩
  have kk : ∀ y g, y < n → g < 15 → g ≠ 1 → g ≠ 2 → g ≠ 3 → g ≠ 8 → sv W (15 * y + g) = sv U (15 * y + g) := fun y g hy hg a b c e => by
    obtain ⟨z1, z2, z3, z4⟩ := rwd_mv hg a b c e
    exact sv_row (by omega) hg (Wr _ z1 z2 z3 z4)
  have cc : ∀ y g, g < 11 → g ≠ 0 → g ≠ 1 → g ≠ 6 → V.1 79 (154 + 11 * y + g) = T.1 79 (154 + 11 * y + g) := fun y g hg a b c => g2 _ (fun j _ hj => by omega)
  have no : ∀ y g, g < 11 → (∀ i, i < m → y ≠ hk i / 2) → V.1 79 (154 + 11 * y + g) = T.1 79 (154 + 11 * y + g) := fun y g hg z => g2 _ (fun j _ hj => by have := z j hj; omega)
  have tt := fun y hy => b.w.th y hy
  have e3 : W.1 3 = U.1 3 := Wr 3 (by decide) (by decide) (by decide) (by decide)
  have e18 : W.1 18 = U.1 18 := Wr 18 (by decide) (by decide) (by decide) (by decide)
  have e0 : W.1 0 = U.1 0 := Wr 0 (by decide) (by decide) (by decide) (by decide)
  have thW : ∀ i, i < m → thU W (hk i / 2) := fun i hi => by
    have := th i hi
    unfold thU at this ⊢
    rw [Wr 19 (by decide) (by decide) (by decide) (by decide)]; exact this
  refine ⟨⟨b.s.cm cf mf, ?_, fun x hx' => ?_, ?_, fun i => ?_, ?_, ?_, ?_, ?_, fun x hx' => ?_⟩, l.fr (g3 104 (by decide)) (by rw [g3 68 (by decide)]) (Wr 44 (by decide) (by decide) (by decide) (by decide)) (Wr 45 (by decide) (by decide) (by decide) (by decide)) (by rw [e0]), cf, mf, thW, by rw [e0]⟩
  · rw [e3, e18, e0]
    refine b.w.gen2 h72 b.s.np40 (fun y g hy hg z => kk y g hy hg (by omega) (by omega) (by omega) (by omega)) (fun y f hy hf => cc y f (by omega) (by omega) (by omega) (by omega)) (fun y hy => ?_) (fun y hy => ?_) (fun y hy => ?_) (fun y hy => ?_) (fun y hy => ?_) (fun y hy => ?_) (fun y hy => ?_) (fun y hy => ?_) (fun j hj => g2 _ (fun i _ _ => by omega)) (fun j j1 j2 => sv_hi j1 j2 (Wr 10 (by decide) (by decide) (by decide) (by decide)) (Wr 11 (by decide) (by decide) (by decide) (by decide)) (by rw [e0])) (fun y g hy h72' hg => sv_pt h72' hg (by
      have z := k2 y (fun i hi q => by have := hx i hi; omega)
      by_cases e1 : rwd g = 20
      · rw [e1, z.1]
      · by_cases e2 : rwd g = 21
        · rw [e2, z.2.1]
        · by_cases e3' : rwd g = 22
          · rw [e3', z.2.2.1]
          · by_cases e4 : rwd g = 26
            · rw [e4, z.2.2.2]
            · rw [Wr _ e1 e2 e3' e4]) (Wr 23 (by decide) (by decide) (by decide) (by decide)))
    · have k0 : sv W (15 * y) = sv U (15 * y) := kk y 0 hy (by omega) (by omega) (by omega) (by omega) (by omega)
      rcases in_line m hk y with ⟨i, hi, e⟩ | z
      · subst e
        right
        obtain ⟨q', a1, a2, a3, a4, -⟩ := nxo i hi
        obtain ⟨z1, z2, -, -⟩ := k1 i hi
        refine ⟨?_, (nxt U hk t p d i).1, (nxt U hk t p d i).2.1, q', a1, a2, a3, a4, ?_, ?_, (g1 i (by omega) hi).1⟩
        · have := sv_0 W (x := hk i / 2) (by omega)
          rw [if_neg (thW i hi)] at this
          exact this
        · rw [sv_1 W (by omega)]; exact z1
        · rw [sv_2 W (by omega)]; exact z2
      · have c0 : V.1 79 (154 + 11 * y) = T.1 79 (154 + 11 * y) := no y 0 (by omega) z
        have k1' : sv W (15 * y + 1) = sv U (15 * y + 1) := by rw [sv_1 W (by omega), sv_1 U (by omega), (k2 y z).1]
        have k2' : sv W (15 * y + 2) = sv U (15 * y + 2) := by rw [sv_2 W (by omega), sv_2 U (by omega), (k2 y z).2.1]
        rw [k0, c0, k1', k2']; exact (tt y hy).at_
    · rcases in_line m hk y with ⟨i, hi, e⟩ | z
      · subst e
        rw [(g1 i (by omega) hi).2.1, sv_3 W (by omega), (k1 i hi).2.2.1]
      · rw [no y 1 (by omega) z, sv_3 W (by omega), (k2 y z).2.2.1]
        have := (tt y hy).look
        rw [sv_3 U (by omega)] at this
        exact this
    · rw [cc y 4 (by omega) (by omega) (by omega) (by omega), kk y 6 hy (by omega) (by omega) (by omega) (by omega) (by omega)]; exact (tt y hy).ser
    · rw [cc y 5 (by omega) (by omega) (by omega) (by omega), kk y 7 hy (by omega) (by omega) (by omega) (by omega) (by omega)]; exact (tt y hy).flt
    · rcases in_line m hk y with ⟨i, hi, e⟩ | z
      · subst e
        rw [(g1 i (by omega) hi).2.2, sv_8 W (by omega), (k1 i hi).2.2.2]
      · rw [no y 6 (by omega) z, sv_8 W (by omega), (k2 y z).2.2.2]
        have := (tt y hy).jam
        rw [sv_8 U (by omega)] at this
        exact this
    · rw [cc y 7 (by omega) (by omega) (by omega) (by omega), kk y 9 hy (by omega) (by omega) (by omega) (by omega) (by omega)]; exact (tt y hy).dgr
    · rw [cc y 10 (by omega) (by omega) (by omega) (by omega), kk y 14 hy (by omega) (by omega) (by omega) (by omega) (by omega)]; exact (tt y hy).tst
    · rw [kk y 14 hy (by omega) (by omega) (by omega) (by omega) (by omega)]; exact (tt y hy).tb
  · rcases in_line m hk x with ⟨i, hi, e⟩ | z
    · subst e
      obtain ⟨q', -, -, -, -, a5⟩ := nxo i hi
      exact ⟨_, sw2 a5, (k1 i hi).2.2.1⟩
    · rw [(k2 x z).2.2.1]; exact b.lk x hx'
  · rw [g3 62 (by decide), e0]; exact b.tr
  · rw [g3 78 (by decide), Wr 2 (by decide) (by decide) (by decide) (by decide)]; exact b.tc i
  · rw [g3 68 (by decide), e0]; exact b.sr
  · rw [Wr 10 (by decide) (by decide) (by decide) (by decide)]; exact b.pb
  · rw [Wr 23 (by decide) (by decide) (by decide) (by decide)]; exact b.ac
  · rw [Wr 27 (by decide) (by decide) (by decide) (by decide)]; exact b.dg
  · rcases in_line m hk x with ⟨i, hi, e⟩ | z
    · subst e
      have := (jms _ hx').1
      exact ⟨_, by omega, (k1 i hi).2.2.2⟩
    · rw [(k2 x z).2.2.2]; exact b.jm x hx'
/-! ===== whether the line may go ===== -/
theorem raise_al {n np nt : Nat} {T U V W : SS} {x : Nat} {r r' : Int32} (b : Bo n np nt T U) (hx : x < n) (h1 : f_Trains_raiseFinding (nI x) T = some (r, V)) (h2 : f_M_raised (nI x) U = some (r', W)) : ¬ r = 0 ∧ ¬ r' = 0 ∧ Qc T V ∧ Qm U W := by
  have h72 := b.s.n72
  rw [f_Trains_raiseFinding.eq_1] at h1
  replace h1 := bnd_i h1
  obtain ⟨r2, T1, g, h1⟩ := h1
  rw [sg (f := 5) 5 rfl b.s.cn h72 hx (by omega)] at g
  obtain ⟨-, rfl⟩ := so_i g
  rw [wr_r] at h1
  rw [f_M_raised.eq_1] at h2
  replace h2 := (grd_i h2).2
  rw [wr_r] at h2
  replace h2 := (grd_i h2).2
  have q2 : Qm U (st U 0 1 (U.1 25 (nI x).toNatClampNeg)) := Qm.rf.wf (by omega)
  have e1 : ∀ y, Qc T1 (st T1 62 4 y) := fun y => Qc.rf.w (by omega)
  have a : ¬ r = 0 ∧ Qc T1 V := by
    by_cases c : (st T1 62 4 r2).1 62 4 = -4
    · rw [if_pos c] at h1; obtain ⟨rfl, rfl⟩ := so_i h1; exact ⟨by decide, e1 _⟩
    · rw [if_neg c] at h1; obtain ⟨rfl, rfl⟩ := so_i h1; exact ⟨by decide, e1 _⟩
  have d : ¬ r' = 0 ∧ Qm U W := by
    by_cases c : (st U 0 1 (U.1 25 (nI x).toNatClampNeg)).1 25 (nI x).toNatClampNeg = -4
    · rw [if_pos c] at h2; obtain ⟨rfl, rfl⟩ := so_i h2; exact ⟨by decide, q2⟩
    · rw [if_neg c] at h2; obtain ⟨rfl, rfl⟩ := so_i h2; exact ⟨by decide, q2⟩
  exact ⟨a.1, d.1, a.2, d.2⟩
theorem jl_al {n np nt m : Nat} {hk : Nat → Nat} {T U : SS} {x1 : Int32} (b : Bo n np nt T U) (l : Lf n T U m hk) : ∀ (N M i : Nat) (r r' : Int32) (V W : SS), i ≤ m → f_Trains_stepLine_L39 N x1 (nI i) T = some (r, V) → f_M_missStep_L62 M (nI i) U = some (r', W) → (¬ r = 0 ∧ ¬ r' = 0 ∧ Qc T V ∧ Qm U W) ∨ (r = 0 ∧ r' = 0 ∧ W = U ∧ f_Trains_moveLine x1 T = some V)
  | 0, M, i, r, r', V, W, _, h1, h2 => by cases h1
  | N + 1, 0, i, r, r', V, W, _, h1, h2 => by cases h2
  | N + 1, M + 1, i, r, r', V, W, hi, h1, h2 => by
    have h72 := b.s.n72
    have hm := l.m72
    rw [f_Trains_stepLine_L39.eq_2, l.cl] at h1
    rw [f_M_missStep_L62.eq_2, l.ml] at h2
    by_cases c : i = m
    · subst c
      rw [if_pos (nI_le (by omega) (by omega))] at h1 h2
      replace h1 := bndv_i h1
      obtain ⟨V1, e, h1⟩ := h1
      obtain ⟨rfl, rfl⟩ := so_i h1
      obtain ⟨rfl, rfl⟩ := so_i h2
      exact Or.inr ⟨rfl, rfl, rfl, e⟩
    · have hlt := l.lt i (by omega)
      have hx : hk i / 2 < n := by omega
      have inl : f_Trains_inLine (nI i) T = some (nI (hk i / 2), T) := by
        rw [f_Trains_inLine.eq_1, f_Trains_hookInLine.eq_1, if_neg (nI_nn (by omega)), l.cl, if_neg (nI_ge (by omega) (by omega)), if_pos (show nI i < (72 : Int32) from (nI_ltJ (b := 72) (by omega) (by omega)).mpr (by omega)), grT (inb_nI (by omega) (by omega)), nI_clamp (by omega), l.cr i (by omega), bnd_r, if_neg (nI_m4 (by omega)), n_shr (by omega)]
      have jm := (b.w.th _ hx).jam
      rw [sv_8 U (by omega)] at jm
      rw [if_neg (nI_ge (by omega) (by omega)), inl, bnd_r, sg (f := 6) 6 rfl b.s.cn h72 hx (by omega), bnd_r, jm] at h1
      rw [if_neg (nI_ge (by omega) (by omega)), grT (inb_nI (by omega) (by omega)), nI_clamp (n := i) (by omega), l.mr i (by omega), grT (inb_nI (by omega) (by omega)), nI_clamp (by omega)] at h2
      by_cases g : U.1 26 (hk i / 2) = 1
      · rw [if_pos g, inl, bnd_r] at h1
        rw [if_pos g, grT (inb_nI (by omega) (by omega))] at h2
        replace h1 := bnd_i h1
        obtain ⟨ra, T1, a1, h1⟩ := h1
        replace h2 := bnd_i h2
        obtain ⟨rb, U1, a2, h2⟩ := h2
        obtain ⟨rfl, rfl⟩ := so_i h1
        obtain ⟨rfl, rfl⟩ := so_i h2
        exact Or.inl (raise_al b hx a1 a2)
      · rw [if_neg g, nmR, nI_1] at h1
        rw [if_neg g, nmR, nI_1] at h2
        exact jl_al b l N M (i + 1) r r' V W (by omega) h1 h2
theorem stp_al {n np nt m : Nat} {hk : Nat → Nat} {T U V W : SS} {r r' : Int32} (b : Bo n np nt T U) (l : Lf n T U m hk) (th : ∀ i, i < m → thU U (hk i / 2)) (h1 : f_Trains_stepLine T = some (r, V)) (h2 : f_M_missStep U = some (r', W)) : (¬ r = 0 ∧ ¬ r' = 0 ∧ Qc T V ∧ Qm U W) ∨ (r = 0 ∧ r' = 0 ∧ Fn U W ∧ ∃ t p d q, t < nt ∧ U.1 3 t = nI q ∧ q ≤ 24 ∧ p < q ∧ d < 2 ∧ W.1 0 26 = nI t ∧ W.1 0 27 = nI p ∧ W.1 0 28 = nI d ∧ f_Trains_moveLine (nI (2 * (24 * t + p) + d)) T = some V) := by
  have h72 := b.s.n72
  have hnt := b.s.nt24
  have hm := l.m72
  have hm1 := l.m1
  have hlt := l.lt 0 (by omega)
  have hx : hk 0 / 2 < n := by omega
  have eh : 2 * (hk 0 / 2) + hk 0 % 2 = hk 0 := by omega
  have h0 : f_Trains_hookInLine 0 T = some (nI (hk 0), T) := by
    rw [f_Trains_hookInLine.eq_1, if_neg (by decide), l.cl, if_neg (show ¬ nI m ≤ (0 : Int32) from fun z => by have := (n_leJ (b := 0) (by omega) (by omega)).mp z; omega), if_pos (by decide), grT (by decide), show (0 : Int32).toNatClampNeg = 0 from rfl, l.cr 0 (by omega)]
  rw [f_Trains_stepLine.eq_1, h0, bnd_r] at h1
  rw [f_M_missStep.eq_1, grT (by decide), nmR, show (0 : Int32).toNatClampNeg = 0 from rfl, l.mr 0 (by omega), grT (inb_nI (by omega) (by omega)), grT (inb_nI (by omega) (by omega)), grT (by decide), l.ms 0 (by omega), nI_clamp (by omega)] at h2
  replace h1 := bnd_i h1
  obtain ⟨r4, T3, a1, h1⟩ := h1
  replace h2 := bnd_i h2
  obtain ⟨wy, U1, w1, h2⟩ := h2
  obtain ⟨d0, hd0, -, w2⟩ := way_al b hx (s := hk 0 % 2) (by omega)
  have eU1 : U1 = U := by rw [w2 U rfl] at w1; exact (so_i w1).2
  rw [eU1] at w1 h2
  replace h2 := bnd_i h2
  obtain ⟨bo, U2, o1, h2⟩ := h2
  rw [show nI (hk 0) = nI (2 * (hk 0 / 2) + hk 0 % 2) from congrArg nI eh.symm] at a1
  obtain ⟨eT3, fn, nx⟩ := nf_al b hx (th 0 (by omega)) (by omega) a1 w1 o1
  rw [eT3] at h1
  have q2 : Qz T U T U2 := Qz.of b.te Qc.rf fn.q
  have b2 := b.q q2
  rcases nx with ⟨nx1, nx2⟩ | ⟨nx1, t, p, d, q, ht, hq, hq2, hp, hd, nx2, e26, e27, e28⟩
  · rw [if_pos nx1] at h1
    rw [if_pos nx2] at h2
    obtain ⟨rfl, rfl⟩ := so_i h1
    obtain ⟨rfl, rfl⟩ := so_i h2
    exact Or.inl ⟨by decide, by decide, Qc.rf, fn.q⟩
  · rw [nx2, if_neg (nI_m4 (by omega)), n_shr (by omega), show (2 * (24 * t + p) + d) / 2 = 24 * t + p by omega] at h1
    rw [if_neg nx1, e26, e27] at h2
    replace h1 := bnd_i h1
    obtain ⟨r6, T5, s1, h1⟩ := h1
    replace h2 := bnd_i h2
    obtain ⟨r7, U6, s2, h2⟩ := h2
    obtain ⟨eT5, eU6, er, -⟩ := stand_al b2 ht hp hq2 s1 s2
    rw [eT5] at h1
    rw [eU6, er] at h2
    by_cases g : r6 = -4
    · rw [if_pos g] at h1 h2
      have l2 : Lf n T U2 m hk := l.fr rfl rfl (fn.r 44 (by decide)) (fn.r 45 (by decide)) (fn.f 70 (by decide) (by decide) (by decide))
      rcases jl_al b2 l2 NF NF 0 r r' V W (by omega) h1 h2 with ⟨z1, z2, z3, z4⟩ | ⟨z1, z2, z3, z4⟩
      · exact Or.inl ⟨z1, z2, z3, fn.q.tr z4⟩
      · subst z3
        exact Or.inr ⟨z1, z2, fn, t, p, d, q, ht, hq, hq2, hp, hd, e26, e27, e28, z4⟩
    · rw [if_neg g] at h1 h2
      obtain ⟨rfl, rfl⟩ := so_i h1
      obtain ⟨rfl, rfl⟩ := so_i h2
      exact Or.inl ⟨by decide, by decide, Qc.rf, fn.q⟩
/-! ===== pull ===== -/
theorem en_of {n np nt : Nat} {T0 U0 V W : SS} (b : Bo n np nt V W) (cf : Cfa T0 V) (mf : Mf U0 W) (e47 : (U0.1 0 47).toInt ≤ (W.1 0 47).toInt) : En n np nt T0 U0 V W := by
  refine ⟨cf, mf, ?_, e47, b.te, b.sr⟩
  have := b.w
  rw [mf.r 3 (by decide) (by unfold mdy; omega), mf.r 18 (by decide) (by unfold mdy; omega)] at this
  exact this
theorem pl_al {n np nt m g : Nat} {hk : Nat → Nat} {T0 U0 V S2 : SS} {rc r2 : Int32} (hg : g ≤ 200) : ∀ (N M i : Nat) (T U : SS), Bo n np nt T U → Lf n T U m hk → (∀ i, i < m → thU U (hk i / 2)) → Cfa T0 T → Mf U0 U → U.1 0 47 = U0.1 0 47 → i ≤ g → f_Yard_pullBy_L78 N (nI g) (nI i) T = some (rc, V) → f_M_pull_L53 M (nI g) (nI i) U = some (r2, S2) → ∃ W, bnd (f_M_entered 8 rc W) (fun r S => some (r, S)) = some (r2, S2) ∧ En n np nt T0 U0 V W
  | 0, M, i, T, U, _, _, _, _, _, _, _, h1, h2 => by cases h1
  | N + 1, 0, i, T, U, _, _, _, _, _, _, _, h1, h2 => by cases h2
  | N + 1, M + 1, i, T, U, b, l, th, cf, mf, e47, hi, h1, h2 => by
    rw [f_Yard_pullBy_L78.eq_2] at h1
    rw [f_M_pull_L53.eq_2] at h2
    by_cases c : i = g
    · subst c
      rw [if_pos (nI_le (by omega) (by omega))] at h1 h2
      obtain ⟨rfl, rfl⟩ := so_i h1
      exact ⟨U, h2, en_of b cf mf (by rw [e47]; exact Int.le_refl _)⟩
    · have lt : ¬ nI g ≤ nI i := fun z => by have := (n_leJ (by omega) (by omega)).mp z; omega
      rw [if_neg lt] at h1 h2
      replace h1 := bnd_i h1
      obtain ⟨r10, S9, s1, h1⟩ := h1
      replace h2 := bnd_i h2
      obtain ⟨r11, S10, s2, h2⟩ := h2
      replace h2 := bnd_i h2
      obtain ⟨r13, S12, m2, h2⟩ := h2
      rcases stp_al b l th s1 s2 with ⟨z1, z2, qc, qm⟩ | ⟨z1, z2, fn, t, p, d, q, ht, hq, hq2, hp, hd, e26, e27, e28, mv⟩
      · rw [if_neg z1] at h1
        replace h1 := bnd_i h1
        obtain ⟨r14, S13, f, h1⟩ := h1
        obtain ⟨rfl, rfl⟩ := so_i h1
        obtain ⟨rfl, qf⟩ := fnd_c f
        rcases ends_i m2 with ⟨z, -, -⟩ | ⟨-, z, q5⟩
        · exact absurd z z2
        · rw [if_neg z] at h2
          have qz := Qz.of b.te (qc.tr qf) (qm.tr q5)
          exact ⟨S12, h2, en_of (b.q qz) (cf.tr qz.cf) (mf.tr qz.mf) (by rw [qz.f7 47 (by omega), e47]; exact Int.le_refl _)⟩
      · subst z2
        rw [ends_0] at m2
        obtain ⟨rfl, rfl⟩ := so_i m2
        rw [if_pos z1, wr_r, nmR, nI_1] at h1
        rw [if_pos rfl] at h2
        replace h2 := bndv_i h2
        obtain ⟨S14, go, h2⟩ := h2
        rw [wr_r, nmR, nI_1] at h2
        have qz : Qz T U T S12 := Qz.of b.te Qc.rf fn.q
        have l1 : Lf n T S12 m hk := l.fr rfl rfl (fn.r 44 (by decide)) (fn.r 45 (by decide)) (fn.f 70 (by decide) (by decide) (by decide))
        have th1 : ∀ i, i < m → thU S12 (hk i / 2) := fun i hi => by
          have := th i hi
          unfold thU at this ⊢
          rw [fn.r 19 (by decide)]; exact this
        obtain ⟨b2, l2, cf2, mf2, th2, e2⟩ := step_bo (b.q qz) l1 th1 ht (by rw [fn.r 3 (by decide)]; exact hq) hq2 hp hd e26 e27 e28 mv go
        have q3 : Qz S9 S14 (st S9 62 5 (S9.1 62 5 + 1)) (st S14 0 2 (S14.1 0 2 + 1)) := Qz.of b2.te (Qc.rf.w (by omega)) (Qm.rf.wf (by omega))
        refine pl_al hg N M (i + 1) _ _ (b2.q q3) (l2.fr (by rw [st_row _ _ _ _ (by decide)]) (by rw [st_row _ _ _ _ (by decide)]) (by rw [st_row _ _ _ _ (by decide)]) (by rw [st_row _ _ _ _ (by decide)]) (by rw [st_no (by omega)])) (fun i hi => ?_) ((cf.tr cf2).tr q3.cf) (((mf.tr fn.mf).tr mf2).tr q3.mf) ?_ (by omega) h1 h2
        · have := th2 i hi
          unfold thU at this ⊢
          rw [st_row _ _ _ _ (by decide)]; exact this
        · rw [st_no (by omega), e2, fn.f 47 (by decide) (by decide) (by decide), e47]
theorem pull_body {n np nt g : Nat} {T U V S2 : SS} {a1 a2 rc r2 : Int32} (hg : g ≤ 200) (b : Bo n np nt T U) (h1 : f_Yard_pullBy a1 a2 (nI g) T = some (rc, V))
    (h2 : bnd (f_M_missPull a1 a2 U) (fun r4 S3 => bnd (f_M_ends r4 S3) (fun r6 S5 => if r6 = 0 then bndv (f_M_follow a1 a2 S5) (fun S7 => f_M_pull_L53 NF (nI g) (0 : Int32) S7) else bnd (f_M_entered (8 : Int32) (-2 : Int32) S5) (fun r20 S19 => some (r20, S19)))) = some (r2, S2)) : ∃ W, bnd (f_M_entered 8 rc W) (fun r S => some (r, S)) = some (r2, S2) ∧ En n np nt T U V W := by
  have h72 := b.s.n72
  rw [f_Yard_pullBy.eq_1] at h1
  replace h2 := bnd_i h2
  obtain ⟨r4, S3, m1, h2⟩ := h2
  replace h2 := bnd_i h2
  obtain ⟨r6, S5, m2, h2⟩ := h2
  rw [f_M_missPull.eq_1] at m1
  have no : ∀ (kd q : Int32) (T' V' : SS), Qz T U T' S3 → ¬ r4 = 0 → f_Report_found kd T' = some (q, V') → some (q, V') = some (rc, V) → ∃ W, bnd (f_M_entered 8 rc W) (fun r S => some (r, S)) = some (r2, S2) ∧ En n np nt T U V W := fun kd q T' V' qz hr l e => by
    obtain ⟨rfl, rfl⟩ := so_i e
    obtain ⟨rfl, qf⟩ := fnd_c l
    rcases ends_i m2 with ⟨z, -, -⟩ | ⟨-, z, q5⟩
    · exact absurd z hr
    · rw [if_neg z] at h2
      exact ⟨S5, h2, b.en (qz.tr (Qz.of qz.te qf q5))⟩
  rcases side_al b a1 a2 (w := 96) (v := 2) (by decide) with ⟨x, s, hx, hs, rfl, rfl, th, p2, c1, c2⟩ | ⟨r, r', n1, nn2, c1, c2⟩
  · rw [c1, bnd_r, if_pos rfl, nM2] at h1
    rw [c2, bnd_r, if_pos rfl] at m1
    replace h1 := bndv_i h1
    obtain ⟨T1, l1, h1⟩ := h1
    replace m1 := bndv_i m1
    obtain ⟨U1, l2, m1⟩ := m1
    obtain ⟨m, hk, l, -, -, -, q1⟩ := b.line hx l1 l2
    have b1 := b.q q1
    replace h1 := bnd_i h1
    obtain ⟨r5, T2, w1, h1⟩ := h1
    replace h1 := bnd_i h1
    obtain ⟨r7, T3, p1, h1⟩ := h1
    rw [f_Yard_lineWeight.eq_1] at w1
    rw [f_Yard_linePulls.eq_1] at p1
    obtain ⟨U2, t2, m1⟩ := lw_al NF NF 0 0 r5 T1 U1 T2 b1 l (by omega) w1 m1
    have b2 := b1.q t2.q
    obtain ⟨U3, t3, m1⟩ := lp_al NF NF 0 0 r7 T2 U2 T3 b2 (l.tl t2) (by omega) p1 m1
    have b3 := b2.q t3.q
    have q3 := (q1.tr t2.q).tr t3.q
    by_cases g1 : r5 ≤ (20 : Int32) * r7
    · rw [if_pos g1, nI_add] at h1
      rw [if_pos g1] at m1
      obtain ⟨rfl, rfl⟩ := so_i m1
      rw [ends_0] at m2
      obtain ⟨rfl, rfl⟩ := so_i m2
      rw [if_pos rfl] at h2
      replace h1 := bndv_i h1
      obtain ⟨T4, l3, h1⟩ := h1
      replace h2 := bndv_i h2
      obtain ⟨U4, l4, h2⟩ := h2
      obtain ⟨m', hk', lf, th', q4⟩ := b3.foll hx hs l3 l4
      have th3 : thU S5 x := by
        unfold thU at th ⊢
        rw [q3.mr 19 (by omega)]; exact th
      have q5 := q3.tr q4
      refine pl_al hg NF NF 0 T4 U4 (b3.q q4) lf (fun i hi => ?_) q5.cf q5.mf (q5.f7 47 (by omega)) (by omega) h1 h2
      have := (th' i hi).mpr th3
      unfold thU at this ⊢
      rw [q4.mr 19 (by omega)]; exact this
    · rw [if_neg g1] at h1 m1
      obtain ⟨rfl, rfl⟩ := so_i m1
      replace h1 := bnd_i h1
      obtain ⟨q, V1, f, h1⟩ := h1
      exact no 15 q _ V1 q3 (by decide) f h1
  · rw [c1, bnd_r, if_neg n1] at h1
    rw [c2, bnd_r, if_neg nn2] at m1
    obtain ⟨rfl, rfl⟩ := so_i m1
    replace h1 := bnd_i h1
    obtain ⟨q, V1, f, h1⟩ := h1
    exact no r q _ V1 (Qz.rf b) nn2 f h1
theorem az_bad {n np nt L : Nat} {S S1 S2 : SS} {r1 r2 v : Int32} (h : Dz n np nt L S) (e1 : some (v, S) = some (r1, S1)) (e2 : some (v, S1) = some (r2, S2)) : Az n np nt L r1 r2 S2 := by
  obtain ⟨rfl, rfl⟩ := so_i e1
  obtain ⟨rfl, rfl⟩ := so_i e2
  exact ⟨rfl, L, by omega, h⟩
theorem pull_st {n np nt L : Nat} {S S1 S2 : SS} {a1 a2 a3 r1 r2 : Int32} (h : Dz n np nt L S) (hL : L < 600) (hW : WR S) (hW1 : WR S1) (hW2 : WR S2) (z : Fz S S1 S2) (e1 : f_Yard_pull a1 a2 a3 S = some (r1, S1)) (e2 : f_M_pull a1 a2 a3 S1 = some (r2, S2)) : Az n np nt L r1 r2 S2 := by
  rw [f_Yard_pull.eq_1, in_v, bnd_r] at e1
  rw [f_M_pull.eq_1] at e2
  by_cases q : inV a3 1 200 = 0
  · have q' := inV0.mp q
    obtain ⟨g, g1, g2, rfl⟩ := in_n (l := 1) (h := 200) rfl rfl (by omega) (by omega) q
    rw [if_pos q] at e1
    rw [if_neg q'.1, if_pos q'.2] at e2
    exact act_al h hL hW hW1 hW2 z (fun T U V rc b _ _ g1 g2' => pull_body g2 b g1 g2') e1 e2
  · rw [if_neg q] at e1
    by_cases c : a3 < 1
    · rw [if_pos c] at e2; exact az_bad h e1 e2
    · rw [if_neg c, if_neg (fun y => q (inV0.mpr ⟨c, y⟩))] at e2; exact az_bad h e1 e2
/-! ===== kick ===== -/
theorem sv_0i {U W : SS} (h : ∀ k, k ≠ 0 → W.1 k = U.1 k) (h0 : W.1 0 48 = U.1 0 48) : sv W = sv U := funext fun j => by
  unfold sv
  rw [h 19 (by decide), h 20 (by decide), h 21 (by decide), h 22 (by decide), h 23 (by decide), h 24 (by decide), h 25 (by decide), h 26 (by decide), h 27 (by decide), h 30 (by decide), h 31 (by decide), h 32 (by decide), h 33 (by decide), h 34 (by decide), h 10 (by decide), h 11 (by decide), h0]
theorem Rw.kck {n np nt x s len : Nat} {pl kf : Nat → Int32} {B : Int} {K c K' c' : Nat → Int32} {d nb : Int32} {l : List Nat} (h : Rw n np nt pl kf B K c) (r : Rn n B K c l) (el : l.length = len) (hn : n ≤ 72) (hnp : np ≤ 40) (hx : x < n) (hs : s < 2) (hd : 0 < d.toInt) (hnb : nb.toInt = B + 1) (hB : 0 ≤ B) (h11 : K (15 * x + 11) = 0) (h0 : K (15 * x) = 1) (h4 : K (15 * x + 4) = -4) (h5 : K (15 * x + 5) = -4) (hk : ∃ k, k ≤ 4 ∧ kf x = nI k) (hlen : len < 72) (eK : ∀ j, j < 1161 → K' j = if j = 15 * x + 13 then nb else if j = 15 * x + 12 then nI s else if j = 15 * x + 10 then d else if j = 15 * x + 11 then 1 else K j) (ec : ∀ j, c' j = if j = 1 then nI (len + 1) else if j = 2 + len then nI x else if j = 154 + 11 * x + 9 then nI s else if j = 154 + 11 * x + 8 then d else c j) : Rw n np nt pl kf (B + 1) K' c' := by
  have kk : ∀ y e, y < n → e < 15 → ¬ (y = x ∧ 10 ≤ e ∧ e ≤ 13) → K' (15 * y + e) = K (15 * y + e) := fun y e hy he q => by
    rw [eK _ (by omega), if_neg (by omega), if_neg (by omega), if_neg (by omega), if_neg (by omega)]
  have cc : ∀ y g, g < 11 → ¬ (y = x ∧ (g = 8 ∨ g = 9)) → c' (154 + 11 * y + g) = c (154 + 11 * y + g) := fun y g hg q => by
    rw [ec, if_neg (by omega), if_neg (by omega), if_neg (by omega), if_neg (by omega)]
  have x10 : K' (15 * x + 10) = d := by rw [eK _ (by omega), if_neg (by omega), if_neg (by omega), if_pos rfl]
  have x11 : K' (15 * x + 11) = 1 := by rw [eK _ (by omega), if_neg (by omega), if_neg (by omega), if_neg (by omega), if_pos rfl]
  have x12 : K' (15 * x + 12) = nI s := by rw [eK _ (by omega), if_neg (by omega), if_pos rfl]
  have x13 : K' (15 * x + 13) = nb := by rw [eK _ (by omega), if_pos rfl]
  have nx : x ∉ l := fun z => by have := ((r.mem x).mp z).2; rw [h11] at this; exact absurd this (by decide)
  have k0 : ∀ y, y < n → K' (15 * y) = K (15 * y) := fun y hy => kk y 0 hy (by omega) (by omega)
  have hl := r.le
  refine ⟨fun y hy => ?_, fun p hp' => ?_, ?_, ⟨l ++ [x], ?_⟩, fun y d' o hy hd' ho q => ?_, fun y e hy h72 he => by rw [eK _ (by omega), if_neg (by omega), if_neg (by omega), if_neg (by omega), if_neg (by omega)]; exact h.nw y e hy h72 he⟩
  · have t := h.th y hy
    have c0 := cc y 0 (by omega) (by omega)
    rw [Nat.add_zero] at c0
    refine ⟨?_, ?_, ?_, ?_, ?_, ?_, ?_, ?_, ?_, ?_, ?_, ?_, ?_⟩
    · rw [k0 y hy, c0, kk y 1 hy (by omega) (by omega), kk y 2 hy (by omega) (by omega)]; exact t.at_
    · rw [cc y 1 (by omega) (by omega), kk y 3 hy (by omega) (by omega)]; exact t.look
    · rw [cc y 2 (by omega) (by omega), kk y 4 hy (by omega) (by omega)]; exact t.m0
    · rw [cc y 3 (by omega) (by omega), kk y 5 hy (by omega) (by omega)]; exact t.m1
    · rw [cc y 4 (by omega) (by omega), kk y 6 hy (by omega) (by omega)]; exact t.ser
    · rw [cc y 5 (by omega) (by omega), kk y 7 hy (by omega) (by omega)]; exact t.flt
    · rw [cc y 6 (by omega) (by omega), kk y 8 hy (by omega) (by omega)]; exact t.jam
    · rw [cc y 7 (by omega) (by omega), kk y 9 hy (by omega) (by omega)]; exact t.dgr
    · by_cases e : y = x
      · subst e
        rw [x10, ec, if_neg (by omega), if_neg (by omega), if_neg (by omega), if_pos rfl]
      · rw [cc y 8 (by omega) (by omega), kk y 10 hy (by omega) (by omega)]; exact t.run
    · by_cases e : y = x
      · subst e
        rw [x12, ec, if_neg (by omega), if_neg (by omega), if_pos rfl]
      · rw [cc y 9 (by omega) (by omega), kk y 12 hy (by omega) (by omega)]; exact t.rsd
    · rw [cc y 10 (by omega) (by omega), kk y 14 hy (by omega) (by omega)]; exact t.tst
    · rw [kk y 14 hy (by omega) (by omega)]; exact t.tb
    · by_cases e : y = x
      · subst e
        right
        refine ⟨x11, by rw [x10]; exact hd, by rw [k0 y hy]; exact h0, by rw [kk y 4 hy (by omega) (by omega)]; exact h4, by rw [kk y 5 hy (by omega) (by omega)]; exact h5, ⟨s, hs, x12⟩, hk⟩
      · rw [k0 y hy, kk y 11 hy (by omega) (by omega), kk y 10 hy (by omega) (by omega), kk y 4 hy (by omega) (by omega), kk y 5 hy (by omega) (by omega), kk y 12 hy (by omega) (by omega)]; exact t.run0
  · rw [ec, ec, if_neg (by omega), if_neg (by omega), if_neg (by omega), if_neg (by omega), if_neg (by omega), if_neg (by omega), if_neg (by omega), if_neg (by omega), eK _ (by omega), eK _ (by omega), if_neg (by omega), if_neg (by omega), if_neg (by omega), if_neg (by omega), if_neg (by omega), if_neg (by omega), if_neg (by omega), if_neg (by omega)]; exact h.pt p hp'
  · rw [ec, if_neg (by omega), if_neg (by omega), if_neg (by omega), if_neg (by omega), eK _ (by omega), if_neg (by omega), if_neg (by omega), if_neg (by omega), if_neg (by omega)]; exact h.dmp
  · refine ⟨by rw [ec, if_pos rfl, List.length_append]; exact congrArg nI (by simp [el]), fun i hi => ?_, fun y => ?_, ?_, fun y hy => ?_⟩
    · rw [List.length_append] at hi
      by_cases e : i < l.length
      · rw [List.getElem_append_left e, ec, if_neg (by omega), if_neg (by omega), if_neg (by omega), if_neg (by omega)]; exact r.cell i e
      · have : i = l.length := by simp at hi; omega
        subst this
        rw [List.getElem_append_right (by omega), ec, if_neg (by omega), if_pos (by omega)]
        simp
    · rw [List.mem_append]
      constructor
      · rintro (z | z)
        · have w := (r.mem y).mp z
          have : y ≠ x := fun e => nx (e ▸ z)
          rw [kk y 11 w.1 (by omega) (by omega)]; exact w
        · have : y = x := by simpa using z
          subst this
          exact ⟨hx, x11⟩
      · rintro ⟨z1, z2⟩
        by_cases e : y = x
        · right; simp [e]
        · left
          rw [kk y 11 z1 (by omega) (by omega)] at z2
          exact (r.mem y).mpr ⟨z1, z2⟩
    · rw [List.pairwise_append]
      refine ⟨r.srt.imp_of_mem (fun {a b} ha hb q => ?_), by simp, fun a ha b hb => ?_⟩
      · have na : a ≠ x := fun e => nx (e ▸ ha)
        have nb' : b ≠ x := fun e => nx (e ▸ hb)
        rw [kk a 13 ((r.mem _).mp ha).1 (by omega) (by omega), kk b 13 ((r.mem _).mp hb).1 (by omega) (by omega)]; exact q
      · have : b = x := by simpa using hb
        subst this
        have na : a ≠ b := fun e => nx (e ▸ ha)
        rw [kk a 13 ((r.mem _).mp ha).1 (by omega) (by omega), x13, hnb]
        have := (r.pos a ha).2
        omega
    · rw [List.mem_append] at hy
      rcases hy with z | z
      · have na : y ≠ x := fun e => nx (e ▸ z)
        rw [kk y 13 ((r.mem _).mp z).1 (by omega) (by omega)]
        have := r.pos y z
        omega
      · have : y = x := by simpa using z
        subst this
        rw [x13, hnb]
        omega
  · rw [Nat.add_assoc, kk y (4 + d') hy (by omega) (by omega), ← Nat.add_assoc] at q
    rw [k0 y hy, k0 o ho]; exact h.mt y d' o hy hd' ho q
theorem kick_body {n np nt : Nat} {T U V S2 : SS} {a1 a2 rc r2 : Int32} (b : Bo n np nt T U) (hU : WR U) (h1 : f_Yard_kickTo a1 a2 T = some (rc, V))
    (h2 : bnd (f_M_missSide a1 (1 : Int32) a2 U) (fun r4 S3 => if r4 = 0 then grd (inb ((2 : Int32) * a1) 144) (if (S3.1 23 ((2 : Int32) * a1).toNatClampNeg) = (-4 : Int32) then grd (inb (((2 : Int32) * a1) + (1 : Int32)) 144) (if (S3.1 23 (((2 : Int32) * a1) + (1 : Int32)).toNatClampNeg) = (-4 : Int32) then grd (inb a1 72) (if (S3.1 31 a1.toNatClampNeg) = 0 then f_M_kick_j68 a1 a2 (0 : Int32) S3 else f_M_kick_j68 a1 a2 (16 : Int32) S3) else f_M_kick_j48 a1 a2 S3) else f_M_kick_j48 a1 a2 S3) else f_M_kick_j69 a1 a2 r4 S3) = some (r2, S2)) : ∃ W, bnd (f_M_entered 9 rc W) (fun r S => some (r, S)) = some (r2, S2) ∧ En n np nt T U V W := by
  have h72 := b.s.n72
  have hnp := b.s.np40
  rw [f_Yard_kickTo.eq_1] at h1
  have no : ∀ (kc km : Int32), ¬ kc = 0 → ¬ km = 0 → f_Yard_kickTo_j44 a1 a2 kc T = some (rc, V) → f_M_kick_j69 a1 a2 km U = some (r2, S2) → ∃ W, bnd (f_M_entered 9 rc W) (fun r S => some (r, S)) = some (r2, S2) ∧ En n np nt T U V W := fun kc km z1 z2 h1 h2 => by
    rw [f_Yard_kickTo_j44.eq_1, if_neg z1, f_Yard_kickTo_j62.eq_1, if_neg z1] at h1
    replace h1 := bnd_i h1
    obtain ⟨q, V1, l, h1⟩ := h1
    obtain ⟨rfl, rfl⟩ := so_i h1
    rw [f_M_kick_j69.eq_1] at h2
    replace h2 := bnd_i h2
    obtain ⟨r6, S5, m2, h2⟩ := h2
    obtain ⟨rfl, qf⟩ := fnd_c l
    rcases ends_i m2 with ⟨z, -, -⟩ | ⟨-, z, q5⟩
    · exact absurd z z2
    · rw [if_neg z] at h2
      exact ⟨S5, h2, b.en (Qz.of b.te qf q5)⟩
  rcases side_al b a1 a2 (w := 31) (v := 1) (by decide) with ⟨x, s, hx, hs, rfl, rfl, th, p2, c1, c2⟩ | ⟨r, r', n1, nn2, c1, c2⟩
  · have mt := b.w.mates h72 b.s.cn
    have m0 : T.1 79 (154 + 11 * x + 2) = U.1 23 (2 * x) := mt.mc x 0 hx (by omega)
    have m1 : T.1 79 (154 + 11 * x + 3) = U.1 23 (2 * x + 1) := mt.mc x 1 hx (by omega)
    rw [c1, bnd_r, if_pos rfl, sg (f := 2) 2 rfl b.s.cn h72 hx (by omega), bnd_r, m0] at h1
    rw [c2, bnd_r, if_pos rfl, nM2, nI_1, grT (inb_nI (by omega) (by omega)), nI_clamp (n := 2 * x) (by omega), nI_clamp (n := 2 * x + 1) (by omega), nI_clamp (n := x) (by omega)] at h2
    by_cases g0 : U.1 23 (2 * x) = -4
    · rw [if_pos g0, sg (f := 3) 3 rfl b.s.cn h72 hx (by omega), bnd_r, m1] at h1
      rw [if_pos g0, grT (inb_nI (by omega) (by omega))] at h2
      by_cases g1 : U.1 23 (2 * x + 1) = -4
      · rw [if_pos g1, f_Yard_kickTo_j44.eq_1, if_pos rfl, c_run b hx, bnd_r] at h1
        rw [if_pos g1, grT (inb_nI (by omega) (by omega))] at h2
        by_cases g2 : U.1 31 x = 0
        · rw [if_pos g2, if_pos rfl, f_Yard_kickTo_j62.eq_1, if_pos rfl] at h1
          rw [if_pos g2, f_M_kick_j68.eq_1, f_M_kick_j69.eq_1, ends_0, bnd_r, if_pos rfl] at h2
          replace h1 := bnd_i h1
          obtain ⟨r4, T3, v1, h1⟩ := h1
          replace h2 := bnd_i h2
          obtain ⟨r8, U7, v2, h2⟩ := h2
          obtain ⟨k, a, sg', w', k2⟩ := (b.s.sk x hx).two
          obtain ⟨rfl, ⟨w, hw, ew⟩, t1⟩ := heavy_al (by omega) b.te k2 v1 v2
          have b1 := b.q t1.q
          have ed : r4 / (40 : Int32) = nI (w / 40) := by rw [ew]; exact nI_div (b := 40) (by omega) (by omega) (by omega)
          rw [ed, min_c, bnd_r] at h1
          rw [nmR, ed] at h2
          -- the number of the table
          have tb : ∃ y, y < 8 ∧ f_Yard_kickTo_j109 (nI x) (nI s) (U7.1 17 y) T3 = some (rc, V) ∧ f_M_kick_j114 (nI x) (nI s) (nI y) U7 = some (r2, S2) := by
            by_cases y7 : w / 40 ≤ 7
            · rw [if_neg (show ¬ (7 : Int32) < nI (w / 40) from fun z => by have := (nI_ltJ (a := 7) (by omega) (by omega)).mp z; omega), if_pos (show (0 : Int32) ≤ nI (w / 40) from (n_leJ (a := 0) (by omega) (by omega)).mpr (by omega)), grT (inb_nI (by omega) (by omega)), nI_clamp (by omega), b1.s.e17] at h1
              rw [if_pos (show nI (w / 40) ≤ (7 : Int32) from (n_leJ (b := 7) (by omega) (by omega)).mpr y7)] at h2
              exact ⟨w / 40, by omega, h1, h2⟩
            · rw [if_pos (show (7 : Int32) < nI (w / 40) from (nI_ltJ (a := 7) (by omega) (by omega)).mpr (by omega)), if_pos (by decide), grT (by decide), show (7 : Int32).toNatClampNeg = 7 from rfl, b1.s.e17] at h1
              rw [if_neg (show ¬ nI (w / 40) ≤ (7 : Int32) from fun z => y7 ((n_leJ (b := 7) (by omega) (by omega)).mp z))] at h2
              exact ⟨7, by omega, h1, h2⟩
          obtain ⟨y, hy, j1, j2⟩ := tb
          rw [f_Yard_kickTo_j109.eq_1] at j1
          replace j1 := bndv_i j1
          obtain ⟨V1, br, j1⟩ := j1
          obtain ⟨rfl, rfl⟩ := so_i j1
          rw [f_M_kick_j114.eq_1, grT (inb_nI hy (by omega)), nmR, nI_clamp (by omega)] at j2
          rw [f_State_beginRun.eq_1] at br
          by_cases dz : U7.1 17 y ≤ 0
          · rw [if_pos dz] at br
            rw [if_pos dz, f_M_kick_j164.eq_1] at j2
            injection br with br
            subst br
            exact ⟨U7, j2, b.en t1.q⟩
          · obtain ⟨l, rn⟩ := b1.w.rns
            have e31 : U7.1 31 x = 0 := by rw [t1.q.mr 31 (by omega)]; exact g2
            have h11 : sv U7 (15 * x + 11) = 0 := by rw [sv_11 U7 (by omega), if_pos e31]
            have nx : x ∉ l := fun z => by have := ((rn.mem x).mp z).2; rw [h11] at this; exact absurd this (by decide)
            have hlen : l.length + 1 ≤ n := by
              have h1 : (x :: l) ⊆ List.range n := fun z hz => by
                rcases List.mem_cons.mp hz with e | e
                · rw [e]; exact List.mem_range.mpr hx
                · exact List.mem_range.mpr ((rn.mem z).mp e).1
              have := List.Nodup.length_le_of_subset (List.nodup_cons.mpr ⟨nx, rn.nd⟩) h1
              simpa using this
            have cl1 : T3.1 79 1 = nI l.length := rn.len
            have cn3 := b1.s.cn
            rw [if_neg dz, grT (by decide), show (1 : Int32).toNatClampNeg = 1 from rfl, cl1, if_pos (show nI l.length < (72 : Int32) from (nI_ltJ (b := 72) (by omega) (by omega)).mpr (by omega)), sset (f := 8) 8 _ rfl cn3 h72 hx (by omega), bndv_r, sset (f := 9) 9 _ rfl (by rw [st_row _ _ _ _ (by decide)]; exact cn3) h72 hx (by omega), bndv_r, grT (by decide), st_no (by omega), st_no (by omega), cl1, show (2 : Int32) + nI l.length = nI (2 + l.length) from nI_add 2 l.length, grT (inb_nI (by omega) (by omega)), nI_clamp (by omega), wr_r, grT (by decide), st_no (by omega), st_no (by omega), st_no (by omega), cl1, nI_1, grT (by decide), wr_r] at br
            injection br with br
            subst br
            rw [if_neg dz, grT (inb_nI (by omega) (by omega)), nI_clamp (n := x) (by omega), wr_r, grT (inb_nI (by omega) (by omega)), wr_r, grT (inb_nI (by omega) (by omega)), wr_r, wr_r, grT (inb_nI (by omega) (by omega)), wr_r, f_M_kick_j164.eq_1, st_here, st_row _ _ _ _ (by decide), st_row _ _ _ _ (by decide), st_row _ _ _ _ (by decide), show vp_nar .boolean (1 : Int32) = 1 from by decide] at j2
            refine ⟨_, j2, ?_⟩
            have r47 := ro_0_47 hU
            have e47 : U7.1 0 47 = U.1 0 47 := t1.q.f7 47 (by omega)
            have nb : (U7.1 0 47 + 1).toInt = (U7.1 0 47).toInt + 1 := by
              rw [e47]
              have := r47.1
              have := r47.2
              rw [Int32.toInt_add, show (1 : Int32).toInt = 1 from by decide, bm (by omega) (by omega)]
            have dpos : 0 < (U7.1 17 y).toInt := by
              rw [Int32.le_iff_toInt_le] at dz
              have : (0 : Int32).toInt = 0 := by decide
              omega
            refine ⟨(((t1.q.cf.w (by unfold cdy; omega)).w (by unfold cdy; omega)).w (by unfold cdy; omega)).w (by unfold cdy; omega), ((((t1.q.mf.w (by unfold mdy; omega)).w (by unfold mdy; omega)).w (by unfold mdy; omega)).wf (by unfold mdf; omega)).w (by unfold mdy; omega), ?_, ?_, ⟨?_, fun i => ?_⟩, ?_⟩
            · have e3 : U.1 3 = U7.1 3 := (t1.q.mf.r 3 (by decide) (by unfold mdy; omega)).symm
              have e18 : U.1 18 = U7.1 18 := (t1.q.mf.r 18 (by decide) (by unfold mdy; omega)).symm
              rw [e3, e18, st_row _ 33 _ _ (by decide), st_here, nb]
              have k4 := (b1.w.th x hx)
              refine b1.w.kck (x := x) (s := s) (d := U7.1 17 y) (nb := U7.1 0 47 + 1) rn rfl h72 hnp hx hs dpos nb (by rw [e47]; exact r47.1) h11 ?_ ?_ ?_ ?_ (by omega) (fun j hj => ?_) (fun j => ?_)
              · have := sv_0 U7 (x := x) (by omega)
                rw [if_neg (show ¬ U7.1 19 x = 0 by rw [t1.q.mr 19 (by omega)]; exact th)] at this
                exact this
              · rw [sv_4 U7 (by omega), t1.q.mr 23 (by omega)]; exact g0
              · rw [sv_5 U7 (by omega), t1.q.mr 23 (by omega)]; exact g1
              · have kx := b1.km x hx
                refine ⟨kfU U7 x, ?_, kx.1⟩
                have : kfU U7 x = kfU U x := by unfold kfU; rw [t1.m.r 18 (by decide) (by decide)]
                rw [this]
                exact (okw_c (k := kfU U x) (by have := (b.km x hx).2; omega)).2.2.mp p2
              · rw [svw_13 (by omega) j hj, sv_0i (W := st (st (st (st U7 31 x 1) 30 x (U7.1 17 y)) 32 x (nI s)) 0 47 (U7.1 0 47 + 1)) (U := st (st (st U7 31 x 1) 30 x (U7.1 17 y)) 32 x (nI s)) (fun k hk => by rw [st_row _ _ _ _ hk]) (by rw [st_no (by omega)]), svw_12 (by omega) j hj, svw_10 (by omega) j hj, svw_11 (by omega) j hj, if_neg (show ¬ (1 : Int32) = 0 by decide)]
              · rw [st_at, if_pos rfl, st_at, if_pos rfl, st_at, if_pos rfl, st_at, if_pos rfl]
            · rw [st_row _ 33 _ _ (by decide), st_here, nb, e47]; omega
            · rw [st_row _ 79 _ _ (by decide), st_row _ 79 _ _ (by decide), st_row _ 79 _ _ (by decide), st_row _ 79 _ _ (by decide), st_row _ 33 _ _ (by decide), st_no (by omega), st_row _ 32 _ _ (by decide), st_row _ 30 _ _ (by decide), st_row _ 31 _ _ (by decide)]; exact t1.e.n
            · rw [st_row _ 79 _ _ (by decide), st_row _ 79 _ _ (by decide), st_row _ 79 _ _ (by decide), st_row _ 79 _ _ (by decide), st_row _ 33 _ _ (by decide), st_row _ 0 _ _ (by decide), st_row _ 32 _ _ (by decide), st_row _ 30 _ _ (by decide), st_row _ 31 _ _ (by decide)]; exact t1.e.r i
            · rw [st_row _ 79 _ _ (by decide), st_row _ 79 _ _ (by decide), st_row _ 79 _ _ (by decide), st_row _ 79 _ _ (by decide), st_row _ 33 _ _ (by decide), st_no (by omega), st_row _ 32 _ _ (by decide), st_row _ 30 _ _ (by decide), st_row _ 31 _ _ (by decide)]; exact b1.sr
        · rw [if_neg g2, if_neg (by decide), f_Yard_kickTo_j62.eq_1, if_neg (by decide)] at h1
          rw [if_neg g2, f_M_kick_j68.eq_1] at h2
          exact no 16 16 (by decide) (by decide) (by rw [f_Yard_kickTo_j44.eq_1, if_neg (by decide), f_Yard_kickTo_j62.eq_1, if_neg (by decide)]; exact h1) h2
      · rw [if_neg g1, f_Yard_kickTo_j41.eq_1] at h1
        rw [if_neg g1, f_M_kick_j48.eq_1, f_M_kick_j68.eq_1] at h2
        exact no 14 14 (by decide) (by decide) h1 h2
    · rw [if_neg g0, f_Yard_kickTo_j41.eq_1] at h1
      rw [if_neg g0, f_M_kick_j48.eq_1, f_M_kick_j68.eq_1] at h2
      exact no 14 14 (by decide) (by decide) h1 h2
  · rw [c1, bnd_r, if_neg n1] at h1
    rw [c2, bnd_r, if_neg nn2] at h2
    exact no r r' n1 nn2 h1 h2
theorem kick_st {n np nt L : Nat} {S S1 S2 : SS} {a1 a2 r1 r2 : Int32} (h : Dz n np nt L S) (hL : L < 600) (hW : WR S) (hW1 : WR S1) (hW2 : WR S2) (z : Fz S S1 S2) (e1 : f_Yard_kick a1 a2 S = some (r1, S1)) (e2 : f_M_kick a1 a2 S1 = some (r2, S2)) : Az n np nt L r1 r2 S2 := by
  rw [f_Yard_kick.eq_1] at e1
  rw [f_M_kick.eq_1] at e2
  exact act_al h hL hW hW1 hW2 z (fun T U V rc b w _ g1 g2 => kick_body b w g1 g2) e1 e2
end
section
/-! ===== step: who RUNS ===== -/
theorem Rn.same {n : Nat} {B : Int} {K c K' c' : Nat → Int32} {l : List Nat} (r : Rn n B K c l) (hn : n ≤ 72) (lo : ∀ j, 1 ≤ j → j < 74 → c' j = c j) (k11 : ∀ y, y < n → K' (15 * y + 11) = K (15 * y + 11)) (k13 : ∀ y, y < n → K' (15 * y + 13) = K (15 * y + 13)) : Rn n B K' c' l := by
  have hl := r.le
  refine ⟨by rw [lo _ (by omega) (by omega)]; exact r.len, fun i hi => by rw [lo _ (by omega) (by omega)]; exact r.cell i hi, fun y => ?_, ?_, fun y hy => ?_⟩
  · by_cases hy : y < n
    · rw [k11 y hy]; exact r.mem y
    · rw [r.mem y]; exact ⟨fun q => absurd q.1 hy, fun q => absurd q.1 hy⟩
  · refine r.srt.imp_of_mem (fun ha hb q => ?_)
    rw [k13 _ ((r.mem _).mp ha).1, k13 _ ((r.mem _).mp hb).1]; exact q
  · rw [k13 _ ((r.mem _).mp hy).1]; exact r.pos y hy
theorem Rn.del {n x : Nat} {B : Int} {K c K' c' : Nat → Int32} {a b : List Nat} (r : Rn n B K c (a ++ x :: b)) (c1 : c' 1 = nI (a.length + b.length)) (cl : ∀ i, i < a.length → c' (2 + i) = c (2 + i)) (cr : ∀ i, a.length ≤ i → i < a.length + b.length → c' (2 + i) = c (2 + (i + 1))) (k11 : ∀ y, y < n → y ≠ x → K' (15 * y + 11) = K (15 * y + 11)) (x11 : K' (15 * x + 11) = 0) (k13 : ∀ y, y < n → K' (15 * y + 13) = K (15 * y + 13)) : Rn n B K' c' (a ++ b) := by
  have nd := r.nd
  have hm : ∀ y, y ∈ a ++ b ↔ y ∈ a ++ x :: b ∧ y ≠ x := fun y => by
    have hx : x ∉ a ++ b := by
      have : (a ++ x :: b).Perm (x :: (a ++ b)) := List.perm_middle
      have := (this.nodup_iff).mp nd
      exact (List.nodup_cons.mp this).1
    constructor
    · intro h
      refine ⟨?_, fun e => hx (e ▸ h)⟩
      rcases List.mem_append.mp h with q | q
      · exact List.mem_append_left _ q
      · exact List.mem_append_right _ (List.mem_cons_of_mem _ q)
    · rintro ⟨h, ne⟩
      rcases List.mem_append.mp h with q | q
      · exact List.mem_append_left _ q
      · rcases List.mem_cons.mp q with e | q
        · exact absurd e ne
        · exact List.mem_append_right _ q
  have len := r.len
  refine ⟨by rw [c1, List.length_append], fun i hi => ?_, fun y => ?_, ?_, fun y hy => ?_⟩
  · rw [List.length_append] at hi
    by_cases e : i < a.length
    · have := r.cell i (by rw [List.length_append]; omega)
      rw [List.getElem_append_left e] at this
      rw [cl i e, List.getElem_append_left e]; exact this
    · have := r.cell (i + 1) (by rw [List.length_append, List.length_cons]; omega)
      rw [List.getElem_append_right (by omega)] at this
      rw [cr i (by omega) hi, this, List.getElem_append_right (by omega)]
      have e2 : i + 1 - a.length = (i - a.length) + 1 := by omega
      congr 1
      simp only [e2, List.getElem_cons_succ]
  · rw [hm y, r.mem y]
    constructor
    · rintro ⟨⟨h1, h2⟩, ne⟩
      rw [k11 y h1 ne]; exact ⟨h1, h2⟩
    · rintro ⟨h1, h2⟩
      have ne : y ≠ x := fun e => by rw [e, x11] at h2; exact absurd h2 (by decide)
      rw [k11 y h1 ne] at h2
      exact ⟨⟨h1, h2⟩, ne⟩
  · have s := r.srt
    have sub : List.Sublist (a ++ b) (a ++ x :: b) := List.Sublist.append (List.Sublist.refl a) (List.sublist_cons_self x b)
    have s2 := s.sublist sub
    refine s2.imp_of_mem (fun ha hb q => ?_)
    rw [k13 _ ((r.mem _).mp ((hm _).mp ha).1).1, k13 _ ((r.mem _).mp ((hm _).mp hb).1).1]; exact q
  · have h := ((hm y).mp hy).1
    rw [k13 y ((r.mem _).mp h).1]; exact r.pos y h
theorem Rw.one {n np nt x : Nat} {pl kf : Nat → Int32} {B : Int} {K c K' c' : Nat → Int32} (h : Rw n np nt pl kf B K c) (hn : n ≤ 72) (hnp : np ≤ 40) (hx : x < n) (kk : ∀ y d, y < n → d < 15 → ¬ (y = x ∧ (d = 1 ∨ d = 2 ∨ d = 3 ∨ d = 10 ∨ d = 11)) → K' (15 * y + d) = K (15 * y + d)) (cc : ∀ y g, y < n → g < 11 → ¬ (y = x ∧ (g = 0 ∨ g = 1 ∨ g = 8)) → c' (154 + 11 * y + g) = c (154 + 11 * y + g)) (pa : (K' (15 * x) = 0 ∧ c' (154 + 11 * x) = -1) ∨ (K' (15 * x) = 1 ∧ ∃ t p q : Nat, t < nt ∧ pl t = nI q ∧ q ≤ 24 ∧ p < q ∧ K' (15 * x + 1) = nI t ∧ K' (15 * x + 2) = nI p ∧ c' (154 + 11 * x) = nI (24 * t + p))) (p3 : c' (154 + 11 * x + 1) = K' (15 * x + 3)) (p10 : c' (154 + 11 * x + 8) = K' (15 * x + 10)) (r0 : (K' (15 * x + 11) = 0 ∧ K' (15 * x + 10) = 0) ∨ (K' (15 * x + 11) = 1 ∧ 0 < (K' (15 * x + 10)).toInt ∧ K' (15 * x) = 1 ∧ K' (15 * x + 4) = -4 ∧ K' (15 * x + 5) = -4 ∧ (∃ s, s < 2 ∧ K' (15 * x + 12) = nI s) ∧ ∃ k, k ≤ 4 ∧ kf x = nI k)) (pt : ∀ p, p < np → c' (74 + p) = c (74 + p) ∧ c' (114 + p) = c (114 + p)) (hi : ∀ j, 1080 ≤ j → j < 1160 → K' j = K j) (dm : c' 0 = K' 1160) (rn : ∃ l, Rn n B K' c' l) (nn : ∀ y d, n ≤ y → y < 72 → d < 15 → K' (15 * y + d) = K (15 * y + d)) : Rw n np nt pl kf B K' c' := by
  have k0 : ∀ y, y < n → K' (15 * y) = K (15 * y) := fun y hy => kk y 0 hy (by omega) (by omega)
  refine ⟨fun y hy => ?_, fun p hp' => ?_, dm, rn, fun y d' o hy hd' ho q => ?_, fun y e hy h72 he => by rw [nn y e hy h72 (by omega)]; exact h.nw y e hy h72 he⟩
  · have t := h.th y hy
    by_cases e : y = x
    · subst e
      refine ⟨?_, ?_, ?_, ?_, ?_, ?_, ?_, ?_, ?_, ?_, ?_, ?_, ?_⟩
      · exact pa
      · exact p3
      · rw [cc y 2 hy (by omega) (by omega), kk y 4 hy (by omega) (by omega)]; exact t.m0
      · rw [cc y 3 hy (by omega) (by omega), kk y 5 hy (by omega) (by omega)]; exact t.m1
      · rw [cc y 4 hy (by omega) (by omega), kk y 6 hy (by omega) (by omega)]; exact t.ser
      · rw [cc y 5 hy (by omega) (by omega), kk y 7 hy (by omega) (by omega)]; exact t.flt
      · rw [cc y 6 hy (by omega) (by omega), kk y 8 hy (by omega) (by omega)]; exact t.jam
      · rw [cc y 7 hy (by omega) (by omega), kk y 9 hy (by omega) (by omega)]; exact t.dgr
      · exact p10
      · rw [cc y 9 hy (by omega) (by omega), kk y 12 hy (by omega) (by omega)]; exact t.rsd
      · rw [cc y 10 hy (by omega) (by omega), kk y 14 hy (by omega) (by omega)]; exact t.tst
      · rw [kk y 14 hy (by omega) (by omega)]; exact t.tb
      · exact r0
    · have c0 : c' (154 + 11 * y) = c (154 + 11 * y) := cc y 0 hy (by omega) (by omega)
      refine ⟨?_, ?_, ?_, ?_, ?_, ?_, ?_, ?_, ?_, ?_, ?_, ?_, ?_⟩
      · rw [k0 y hy, c0, kk y 1 hy (by omega) (by omega), kk y 2 hy (by omega) (by omega)]; exact t.at_
      · rw [cc y 1 hy (by omega) (by omega), kk y 3 hy (by omega) (by omega)]; exact t.look
      · rw [cc y 2 hy (by omega) (by omega), kk y 4 hy (by omega) (by omega)]; exact t.m0
      · rw [cc y 3 hy (by omega) (by omega), kk y 5 hy (by omega) (by omega)]; exact t.m1
      · rw [cc y 4 hy (by omega) (by omega), kk y 6 hy (by omega) (by omega)]; exact t.ser
      · rw [cc y 5 hy (by omega) (by omega), kk y 7 hy (by omega) (by omega)]; exact t.flt
      · rw [cc y 6 hy (by omega) (by omega), kk y 8 hy (by omega) (by omega)]; exact t.jam
      · rw [cc y 7 hy (by omega) (by omega), kk y 9 hy (by omega) (by omega)]; exact t.dgr
      · rw [cc y 8 hy (by omega) (by omega), kk y 10 hy (by omega) (by omega)]; exact t.run
      · rw [cc y 9 hy (by omega) (by omega), kk y 12 hy (by omega) (by omega)]; exact t.rsd
      · rw [cc y 10 hy (by omega) (by omega), kk y 14 hy (by omega) (by omega)]; exact t.tst
      · rw [kk y 14 hy (by omega) (by omega)]; exact t.tb
      · rw [k0 y hy, kk y 11 hy (by omega) (by omega), kk y 10 hy (by omega) (by omega), kk y 4 hy (by omega) (by omega), kk y 5 hy (by omega) (by omega), kk y 12 hy (by omega) (by omega)]; exact t.run0
  · rw [(pt p hp').1, (pt p hp').2, hi _ (by omega) (by omega), hi _ (by omega) (by omega)]; exact h.pt p hp'
  · rw [Nat.add_assoc, kk y (4 + d') hy (by omega) (by omega), ← Nat.add_assoc] at q
    rw [k0 y hy, k0 o ho]; exact h.mt y d' o hy hd' ho q
/-- a world where one THING went, stopped, or was dampened -/
def Od (T U V W : SS) : Prop := (∀ k, k ≠ 79 → V.1 k = T.1 k) ∧ (∀ k, k ≠ 0 → k ≠ 20 → k ≠ 21 → k ≠ 22 → k ≠ 30 → k ≠ 31 → W.1 k = U.1 k) ∧ (∀ i, i ≠ 26 → i ≠ 27 → i ≠ 28 → i ≠ 48 → W.1 0 i = U.1 0 i)
theorem Od.c {T U V W : SS} (h_ : Od T U V W) : ∀ k, k ≠ 79 → V.1 k = T.1 k := h_.1
theorem Od.m {T U V W : SS} (h_ : Od T U V W) : ∀ k, k ≠ 0 → k ≠ 20 → k ≠ 21 → k ≠ 22 → k ≠ 30 → k ≠ 31 → W.1 k = U.1 k := h_.2.1
theorem Od.f {T U V W : SS} (h_ : Od T U V W) : ∀ i, i ≠ 26 → i ≠ 27 → i ≠ 28 → i ≠ 48 → W.1 0 i = U.1 0 i := h_.2.2
theorem Od.mk_ {T U V W : SS} (c_ : ∀ k, k ≠ 79 → V.1 k = T.1 k) (m_ : ∀ k, k ≠ 0 → k ≠ 20 → k ≠ 21 → k ≠ 22 → k ≠ 30 → k ≠ 31 → W.1 k = U.1 k) (f_ : ∀ i, i ≠ 26 → i ≠ 27 → i ≠ 28 → i ≠ 48 → W.1 0 i = U.1 0 i) : Od T U V W := ⟨c_, m_, f_⟩
theorem Od.rf {T U : SS} : Od T U T U := ⟨fun _ _ => rfl, fun _ _ _ _ _ _ _ => rfl, fun _ _ _ _ _ => rfl⟩
theorem Od.tr {T U V W X Y : SS} (h : Od T U V W) (g : Od V W X Y) : Od T U X Y := ⟨fun k a => (g.c k a).trans (h.c k a), fun k a b c d e f => (g.m k a b c d e f).trans (h.m k a b c d e f), fun i a b c d => (g.f i a b c d).trans (h.f i a b c d)⟩
theorem Od.cf {T U V W : SS} (h : Od T U V W) : Cfa T V := fun k hk => h.c k (by unfold cdy at hk; omega)
theorem Od.mf {T U V W : SS} (h : Od T U V W) : Mf U W := ⟨fun k k0 hk => h.m k k0 (by unfold mdy at hk; omega) (by unfold mdy at hk; omega) (by unfold mdy at hk; omega) (by unfold mdy at hk; omega) (by unfold mdy at hk; omega), fun i hi => h.f i (by unfold mdf at hi; omega) (by unfold mdf at hi; omega) (by unfold mdf at hi; omega) (by unfold mdf at hi; omega)⟩
theorem Od.bo {n np nt : Nat} {T U V W : SS} (h : Od T U V W) (b : Bo n np nt T U) (w : Rw n np nt (U.1 3) (U.1 18) (U.1 0 47).toInt (sv W) (V.1 79)) (lk : ∀ x, x < n → ∃ l, l < 2 ∧ W.1 22 x = nI l) : Bo n np nt V W := by
  have r := fun k a b c d e f => h.m k a b c d e f
  refine ⟨b.s.cm h.cf h.mf, ?_, lk, ?_, fun i => ?_, ?_, ?_, ?_, ?_, ?_⟩
  · rw [r 3 (by decide) (by decide) (by decide) (by decide) (by decide) (by decide), r 18 (by decide) (by decide) (by decide) (by decide) (by decide) (by decide), h.f 47 (by decide) (by decide) (by decide) (by decide)]; exact w
  · rw [h.c 62 (by decide), h.f 5 (by decide) (by decide) (by decide) (by decide)]; exact b.tr
  · rw [h.c 78 (by decide), r 2 (by decide) (by decide) (by decide) (by decide) (by decide) (by decide)]; exact b.tc i
  · rw [h.c 68 (by decide), h.f 49 (by decide) (by decide) (by decide) (by decide)]; exact b.sr
  · rw [r 10 (by decide) (by decide) (by decide) (by decide) (by decide) (by decide)]; exact b.pb
  · rw [r 23 (by decide) (by decide) (by decide) (by decide) (by decide) (by decide)]; exact b.ac
  · rw [r 27 (by decide) (by decide) (by decide) (by decide) (by decide) (by decide)]; exact b.dg
  · rw [r 26 (by decide) (by decide) (by decide) (by decide) (by decide) (by decide)]; exact b.jm
theorem Fn.od {T U W : SS} (h : Fn U W) : Od T U T W := ⟨fun _ _ => rfl, fun k a _ _ _ _ _ => h.r k a, fun i a b c _ => h.f i a b c⟩
/-! ===== a list of runners loses one ===== -/
theorem er_L {len : Nat} (h72 : len ≤ 72) : ∀ (N i : Nat) (T V : SS), T.1 79 1 = nI len → i ≤ len → f_State_endRun_L39 N (nI i) T = some V → (∀ j, V.1 79 j = if 2 + i ≤ j ∧ j < 2 + len then T.1 79 (j + 1) else T.1 79 j) ∧ (∀ k, k ≠ 79 → V.1 k = T.1 k)
  | 0, i, T, V, _, _, h => by cases h
  | N + 1, i, T, V, e1, hi, h => by
    rw [f_State_endRun_L39.eq_2, grT (by decide), show (1 : Int32).toNatClampNeg = 1 from rfl, e1] at h
    by_cases c : i = len
    · subst c
      rw [if_pos (nI_le (by omega) (by omega))] at h
      injection h with h
      subst h
      exact ⟨fun j => by rw [if_neg (by omega)], fun k _ => rfl⟩
    · rw [if_neg (fun z => by have := (n_leJ (by omega) (by omega)).mp z; omega), show (2 : Int32) + nI i = nI (2 + i) from nI_add 2 i, nI_1, grT (inb_nI (by omega) (by omega)), grT (inb_nI (by omega) (by omega)), nI_clamp (n := 2 + i) (by omega), nI_clamp (n := 2 + i + 1) (by omega), wr_r, nmR, nI_1] at h
      obtain ⟨g1, g2⟩ := er_L h72 N (i + 1) _ V (by rw [st_no (by omega)]; exact e1) (by omega) h
      refine ⟨fun j => ?_, fun k hk => by rw [g2 k hk, st_row _ _ _ _ hk]⟩
      rw [g1 j]
      by_cases a : 2 + (i + 1) ≤ j ∧ j < 2 + len
      · rw [if_pos a, if_pos (by omega), st_no (by omega)]
      · rw [if_neg a]
        by_cases e : j = 2 + i
        · subst e
          rw [st_here, if_pos (by omega)]
        · rw [st_no (by omega), if_neg (by omega)]
theorem er_c {n x k len : Nat} {T V : SS} (h72 : n ≤ 72) (hn : T.1 63 1 = nI n) (hx : x < n) (e1 : T.1 79 1 = nI len) (hk : k < len) (hl : len ≤ 72) (ek : T.1 79 (2 + k) = nI x) (h : f_State_endRun (nI k) T = some V) : (∀ j, V.1 79 j = if j = 1 then nI (len - 1) else if 2 + k ≤ j ∧ j < 2 + (len - 1) then T.1 79 (j + 1) else if j = 154 + 11 * x + 8 then 0 else T.1 79 j) ∧ (∀ k, k ≠ 79 → V.1 k = T.1 k) := by
  have rn : f_State_runner (nI k) T = some (nI x, T) := by
    rw [f_State_runner.eq_1, if_neg (nI_nn (by omega)), grT (by decide), show (1 : Int32).toNatClampNeg = 1 from rfl, e1, if_neg (nI_ge hk (by omega)), if_pos (show nI k < (72 : Int32) from (nI_ltJ (b := 72) (by omega) (by omega)).mpr (by omega)), show (2 : Int32) + nI k = nI (2 + k) from nI_add 2 k, grT (inb_nI (by omega) (by omega)), nI_clamp (by omega), ek]
  rw [f_State_endRun.eq_1, if_neg (nI_nn (by omega)), grT (by decide), show (1 : Int32).toNatClampNeg = 1 from rfl, e1, if_pos ((nI_ltJ (by omega) (by omega)).mpr hk), rn, bnd_r, sset (f := 8) 8 _ rfl hn h72 hx (by omega), bndv_r, grT (by decide), grT (by decide), st_no (by omega), e1, n_m1 (by omega) (by omega), wr_r] at h
  obtain ⟨g1, g2⟩ := er_L (len := len - 1) (by omega) NF k _ V (by rw [st_here]) (by omega) h
  refine ⟨fun j => ?_, fun k hk => by rw [g2 k hk, st_row _ _ _ _ hk, st_row _ _ _ _ hk]⟩
  rw [g1 j]
  by_cases a : 2 + k ≤ j ∧ j < 2 + (len - 1)
  · rw [if_pos a, if_neg (show ¬ j = 1 by omega), if_pos a, st_no (by omega), st_no (by omega)]
  · rw [if_neg a]
    by_cases e : j = 1
    · subst e
      rw [st_here, if_pos rfl]
    · rw [st_no (by omega), if_neg e, if_neg a]
      by_cases e8 : j = 154 + 11 * x + 8
      · subst e8
        rw [st_here, if_pos rfl]
      · rw [st_no (by omega), if_neg e8]
/-! ===== one turn of a WAGON that RUNS ===== -/
/-- it goes to a free PLACE -/
theorem mvx {n np nt x t p d q s : Nat} {T U : SS} {l : List Nat} (b : Bo n np nt T U) (rl : Rn n (U.1 0 47).toInt (sv U) (T.1 79) l) (hx : x < n) (th : thU U x) (ht : t < nt) (hq : U.1 3 t = nI q) (hq2 : q ≤ 24) (hp : p < q) (hd : d < 2) : Bo n np nt (st (st T 79 (154 + 11 * x) (nI (24 * t + p))) 79 (154 + 11 * x + 1) (nI (sw s d))) (st (st (st U 20 x (nI t)) 21 x (nI p)) 22 x (nI (sw s d))) ∧ Rn n (U.1 0 47).toInt (sv (st (st (st U 20 x (nI t)) 21 x (nI p)) 22 x (nI (sw s d)))) ((st (st T 79 (154 + 11 * x) (nI (24 * t + p))) 79 (154 + 11 * x + 1) (nI (sw s d))).1 79) l ∧ Od T U (st (st T 79 (154 + 11 * x) (nI (24 * t + p))) 79 (154 + 11 * x + 1) (nI (sw s d))) (st (st (st U 20 x (nI t)) 21 x (nI p)) 22 x (nI (sw s d))) := by
  have h72 := b.s.n72
  have hnp := b.s.np40
  have hnt := b.s.nt24
  generalize hV : st (st T 79 (154 + 11 * x) (nI (24 * t + p))) 79 (154 + 11 * x + 1) (nI (sw s d)) = V
  generalize hW : st (st (st U 20 x (nI t)) 21 x (nI p)) 22 x (nI (sw s d)) = W
  have Wr : ∀ k, k ≠ 20 → k ≠ 21 → k ≠ 22 → W.1 k = U.1 k := fun k a b c => by rw [← hW, st_row _ _ _ _ c, st_row _ _ _ _ b, st_row _ _ _ _ a]
  have Vr : ∀ k, k ≠ 79 → V.1 k = T.1 k := fun k a => by rw [← hV, st_row _ _ _ _ a, st_row _ _ _ _ a]
  have Vc : ∀ j, j ≠ 154 + 11 * x → j ≠ 154 + 11 * x + 1 → V.1 79 j = T.1 79 j := fun j a b => by rw [← hV, st_no (by omega), st_no (by omega)]
  have V0 : V.1 79 (154 + 11 * x) = nI (24 * t + p) := by rw [← hV, st_no (by omega), st_here]
  have V1 : V.1 79 (154 + 11 * x + 1) = nI (sw s d) := by rw [← hV, st_here]
  have W20 : W.1 20 x = nI t := by rw [← hW, st_row _ 22 _ _ (by decide), st_row _ 21 _ _ (by decide), st_here]
  have W21 : W.1 21 x = nI p := by rw [← hW, st_row _ 22 _ _ (by decide), st_here]
  have W22 : W.1 22 x = nI (sw s d) := by rw [← hW, st_here]
  have Wo : ∀ R y, y ≠ x → W.1 R y = U.1 R y := fun R y a => by rw [← hW, st_no (by omega), st_no (by omega), st_no (by omega)]
  have od : Od T U V W := ⟨Vr, fun k _ a b c _ _ => Wr k a b c, fun i _ _ _ _ => by rw [Wr 0 (by decide) (by decide) (by decide)]⟩
  have kk : ∀ y g, y < n → g < 15 → ¬ (y = x ∧ (g = 1 ∨ g = 2 ∨ g = 3)) → sv W (15 * y + g) = sv U (15 * y + g) := fun y g hy hg z => by
    by_cases e : g = 1 ∨ g = 2 ∨ g = 3
    · have ne : y ≠ x := fun q => z ⟨q, e⟩
      rcases e with rfl | rfl | rfl
      · rw [sv_1 W (by omega), sv_1 U (by omega), Wo 20 y ne]
      · rw [sv_2 W (by omega), sv_2 U (by omega), Wo 21 y ne]
      · rw [sv_3 W (by omega), sv_3 U (by omega), Wo 22 y ne]
    · have rr : rwd g ≠ 20 ∧ rwd g ≠ 21 ∧ rwd g ≠ 22 := by
        have : ∀ g : Fin 15, ¬ (g.1 = 1 ∨ g.1 = 2 ∨ g.1 = 3) → rwd g.1 ≠ 20 ∧ rwd g.1 ≠ 21 ∧ rwd g.1 ≠ 22 := by decide
        exact this ⟨g, hg⟩ e
      exact sv_row (by omega) hg (Wr _ rr.1 rr.2.1 rr.2.2)
  have hi : ∀ j, 1080 ≤ j → j < 1161 → sv W j = sv U j := fun j j1 j2 => sv_hi j1 j2 (Wr 10 (by decide) (by decide) (by decide)) (Wr 11 (by decide) (by decide) (by decide)) (by rw [Wr 0 (by decide) (by decide) (by decide)])
  have rl' : Rn n (U.1 0 47).toInt (sv W) (V.1 79) l := rl.same h72 (fun j a c => Vc j (by omega) (by omega)) (fun y hy => kk y 11 hy (by omega) (by omega)) (fun y hy => kk y 13 hy (by omega) (by omega))
  have tx := b.w.th x hx
  have h0 : sv U (15 * x) = 1 := by
    have := sv_0 U (x := x) (by omega)
    rw [if_neg th] at this
    exact this
  have k0 : sv W (15 * x) = sv U (15 * x) := kk x 0 hx (by omega) (by omega)
  refine ⟨od.bo b (b.w.one h72 b.s.np40 hx (fun y g hy hg z => kk y g hy hg (by omega)) (fun y g hy hg z => Vc _ (by omega) (by omega)) (Or.inr ⟨k0.trans h0, t, p, q, ht, hq, hq2, hp, by rw [sv_1 W (by omega)]; exact W20, by rw [sv_2 W (by omega)]; exact W21, V0⟩) (by rw [V1, sv_3 W (by omega), W22]) (by rw [Vc _ (by omega) (by omega), kk x 10 hx (by omega) (by omega)]; exact tx.run) ?_ (fun p hp => ⟨Vc _ (by omega) (by omega), Vc _ (by omega) (by omega)⟩) (fun j j1 j2 => hi j j1 (by omega)) (by rw [Vc _ (by omega) (by omega), hi _ (by omega) (by omega)]; exact b.w.dmp) ⟨l, rl'⟩ (fun y g hy h72' hg => sv_pt h72' hg (Wo _ y (by omega)) (Wr 23 (by decide) (by decide) (by decide)))) (fun y hy => ?_), rl', od⟩
  · rw [kk x 11 hx (by omega) (by omega), kk x 10 hx (by omega) (by omega), k0, kk x 4 hx (by omega) (by omega), kk x 5 hx (by omega) (by omega), kk x 12 hx (by omega) (by omega)]; exact tx.run0
  · by_cases e : y = x
    · subst e; exact ⟨_, sw2 hd, W22⟩
    · rw [Wo 22 y e]; exact b.lk y hy
/-- it RUNS on -/
theorem dcx {n np nt x : Nat} {T U : SS} {l : List Nat} {v : Int32} (b : Bo n np nt T U) (rl : Rn n (U.1 0 47).toInt (sv U) (T.1 79) l) (hx : x < n) (hr : ¬ U.1 31 x = 0) (hv : 0 < v.toInt) : Bo n np nt (st T 79 (154 + 11 * x + 8) v) (st U 30 x v) ∧ Rn n (U.1 0 47).toInt (sv (st U 30 x v)) ((st T 79 (154 + 11 * x + 8) v).1 79) l ∧ Od T U (st T 79 (154 + 11 * x + 8) v) (st U 30 x v) := by
  have h72 := b.s.n72
  have hnp := b.s.np40
  have K : ∀ j, j < 1161 → sv (st U 30 x v) j = if j = 15 * x + 10 then v else sv U j := svw_10 (by omega)
  have kk : ∀ y g, y < n → g < 15 → ¬ (y = x ∧ g = 10) → sv (st U 30 x v) (15 * y + g) = sv U (15 * y + g) := fun y g hy hg z => by rw [K _ (by omega), if_neg (by omega)]
  have Vc : ∀ j, j ≠ 154 + 11 * x + 8 → (st T 79 (154 + 11 * x + 8) v).1 79 j = T.1 79 j := fun j a => st_no (by omega)
  have od : Od T U (st T 79 (154 + 11 * x + 8) v) (st U 30 x v) := ⟨fun k a => st_row _ _ _ _ a, fun k _ _ _ _ a _ => st_row _ _ _ _ a, fun i _ _ _ _ => by rw [st_row _ _ _ _ (by decide)]⟩
  have rl' : Rn n (U.1 0 47).toInt (sv (st U 30 x v)) ((st T 79 (154 + 11 * x + 8) v).1 79) l := rl.same h72 (fun j a c => Vc j (by omega)) (fun y hy => kk y 11 hy (by omega) (by omega)) (fun y hy => kk y 13 hy (by omega) (by omega))
  have tx := b.w.th x hx
  have k0 : sv (st U 30 x v) (15 * x) = sv U (15 * x) := kk x 0 hx (by omega) (by omega)
  have c0 : (st T 79 (154 + 11 * x + 8) v).1 79 (154 + 11 * x) = T.1 79 (154 + 11 * x) := Vc _ (by omega)
  refine ⟨od.bo b (b.w.one h72 b.s.np40 hx (fun y g hy hg z => kk y g hy hg (by omega)) (fun y g hy hg z => Vc _ (by omega)) ?_ ?_ ?_ ?_ (fun p hp => ⟨Vc _ (by omega), Vc _ (by omega)⟩) (fun j j1 j2 => by rw [K _ (by omega), if_neg (by omega)]) ?_ ⟨l, rl'⟩ (fun y g hy h72' hg => by rw [K _ (by omega), if_neg (by omega)])) (fun y hy => by rw [st_row _ _ _ _ (by decide)]; exact b.lk y hy), rl', od⟩
  · rw [k0, c0, kk x 1 hx (by omega) (by omega), kk x 2 hx (by omega) (by omega)]; exact tx.at_
  · rw [Vc _ (by omega), kk x 3 hx (by omega) (by omega)]; exact tx.look
  · rw [st_here, K _ (by omega), if_pos rfl]
  · right
    rcases tx.run0 with ⟨z, -⟩ | ⟨z1, -, z3, z4, z5, z6, z7⟩
    · rw [sv_11 U (by omega), if_neg hr] at z; exact absurd z (by decide)
    · refine ⟨by rw [kk x 11 hx (by omega) (by omega)]; exact z1, by rw [K _ (by omega), if_pos rfl]; exact hv, by rw [k0]; exact z3, by rw [kk x 4 hx (by omega) (by omega)]; exact z4, by rw [kk x 5 hx (by omega) (by omega)]; exact z5, by rw [kk x 12 hx (by omega) (by omega)]; exact z6, z7⟩
  · rw [Vc _ (by omega), K _ (by omega), if_neg (by omega)]; exact b.w.dmp
/-- it stops -/
theorem stpx {n np nt x : Nat} {T U T1 V W : SS} {a c : List Nat} (b : Bo n np nt T U) (rl : Rn n (U.1 0 47).toInt (sv U) (T.1 79) (a ++ x :: c)) (hT : ∀ k, k ≠ 79 → T1.1 k = T.1 k) (hc : ∀ j, j ≠ 154 + 11 * x + 8 → T1.1 79 j = T.1 79 j) (h1 : f_State_endRun (nI a.length) T1 = some V) (hW : ∀ R y, W.1 R y = if R = 31 ∧ y = x then 0 else if R = 30 ∧ y = x then 0 else U.1 R y) : Bo n np nt V W ∧ Rn n (U.1 0 47).toInt (sv W) (V.1 79) (a ++ c) ∧ Od T U V W := by
  have h72 := b.s.n72
  have hnp := b.s.np40
  have hx : x < n := ((rl.mem x).mp (List.mem_append_right _ (List.mem_cons_self))).1
  have hl := rl.le
  rw [List.length_append, List.length_cons] at hl
  have e1 : T1.1 79 1 = nI (a.length + (c.length + 1)) := by
    rw [hc _ (by omega), rl.len, List.length_append, List.length_cons]
  have ek : T1.1 79 (2 + a.length) = nI x := by
    rw [hc _ (by omega), rl.cell a.length (by rw [List.length_append, List.length_cons]; omega), List.getElem_append_right (Nat.le_refl _)]
    simp
  obtain ⟨g1, g2⟩ := er_c (T := T1) h72 (by rw [hT 63 (by decide)]; exact b.s.cn) hx e1 (by omega) (by omega) ek h1
  have Wr : ∀ k, k ≠ 30 → k ≠ 31 → W.1 k = U.1 k := fun k p q => funext fun y => by rw [hW, if_neg (by omega), if_neg (by omega)]
  have Wo : ∀ R y, y ≠ x → W.1 R y = U.1 R y := fun R y p => by rw [hW, if_neg (by omega), if_neg (by omega)]
  have kk : ∀ y g, y < n → g < 15 → ¬ (y = x ∧ (g = 10 ∨ g = 11)) → sv W (15 * y + g) = sv U (15 * y + g) := fun y g hy hg z => by
    by_cases e : g = 10 ∨ g = 11
    · have ne : y ≠ x := fun q => z ⟨q, e⟩
      rcases e with rfl | rfl
      · rw [sv_10 W (by omega), sv_10 U (by omega), Wo 30 y ne]
      · rw [sv_11 W (by omega), sv_11 U (by omega), Wo 31 y ne]
    · have rr : rwd g ≠ 30 ∧ rwd g ≠ 31 := by
        have : ∀ g : Fin 15, ¬ (g.1 = 10 ∨ g.1 = 11) → rwd g.1 ≠ 30 ∧ rwd g.1 ≠ 31 := by decide
        exact this ⟨g, hg⟩ e
      exact sv_row (by omega) hg (Wr _ rr.1 rr.2)
  have w31 : W.1 31 x = 0 := by rw [hW, if_pos ⟨rfl, rfl⟩]
  have w30 : W.1 30 x = 0 := by rw [hW, if_neg (by omega), if_pos ⟨rfl, rfl⟩]
  have x11 : sv W (15 * x + 11) = 0 := by rw [sv_11 W (by omega), if_pos w31]
  have x10 : sv W (15 * x + 10) = 0 := by rw [sv_10 W (by omega), w30]
  have hi : ∀ j, 1080 ≤ j → j < 1161 → sv W j = sv U j := fun j j1 j2 => sv_hi j1 j2 (Wr 10 (by decide) (by decide)) (Wr 11 (by decide) (by decide)) (by rw [Wr 0 (by decide) (by decide)])
  have Vc : ∀ j, (j = 0 ∨ 74 ≤ j) → j ≠ 154 + 11 * x + 8 → V.1 79 j = T.1 79 j := fun j p q => by rw [g1, if_neg (by omega), if_neg (by omega), if_neg q, hc j q]
  have rl' : Rn n (U.1 0 47).toInt (sv W) (V.1 79) (a ++ c) := by
    refine rl.del (by rw [g1, if_pos rfl]; exact congrArg nI (by omega)) (fun i hi => ?_) (fun i h1 h2 => ?_) (fun y hy ne => kk y 11 hy (by omega) (by omega)) x11 (fun y hy => kk y 13 hy (by omega) (by omega))
    · rw [g1, if_neg (by omega), if_neg (by omega), if_neg (by omega), hc _ (by omega)]
    · rw [g1, if_neg (by omega), if_pos (by omega), hc _ (by omega)]; rfl
  have od : Od T U V W := ⟨fun k p => by rw [g2 k p, hT k p], fun k _ _ _ _ p q => Wr k p q, fun i _ _ _ _ => by rw [Wr 0 (by decide) (by decide)]⟩
  have tx := b.w.th x hx
  have k0 : sv W (15 * x) = sv U (15 * x) := kk x 0 hx (by omega) (by omega)
  have c0 : V.1 79 (154 + 11 * x) = T.1 79 (154 + 11 * x) := Vc _ (by omega) (by omega)
  refine ⟨od.bo b (b.w.one h72 b.s.np40 hx (fun y g hy hg z => kk y g hy hg (by omega)) (fun y g hy hg z => Vc _ (by omega) (by omega)) ?_ ?_ ?_ (Or.inl ⟨x11, x10⟩) (fun p hp => ⟨Vc _ (by omega) (by omega), Vc _ (by omega) (by omega)⟩) (fun j j1 j2 => hi j j1 (by omega)) ?_ ⟨_, rl'⟩ (fun y g hy h72' hg => sv_pt h72' hg (Wo _ y (by omega)) (Wr 23 (by decide) (by decide)))) (fun y hy => by rw [Wr 22 (by decide) (by decide)]; exact b.lk y hy), rl', od⟩
  · rw [k0, c0, kk x 1 hx (by omega) (by omega), kk x 2 hx (by omega) (by omega)]; exact tx.at_
  · rw [Vc _ (by omega) (by omega), kk x 3 hx (by omega) (by omega)]; exact tx.look
  · rw [x10, g1, if_neg (by omega), if_neg (by omega), if_pos rfl]
  · rw [Vc _ (by omega) (by omega), hi _ (by omega) (by omega)]; exact b.w.dmp
/-- a DAMP -/
theorem dmx {n np nt : Nat} {T U : SS} {l : List Nat} (b : Bo n np nt T U) (rl : Rn n (U.1 0 47).toInt (sv U) (T.1 79) l) : Bo n np nt (st T 79 0 (T.1 79 0 + 1)) (st U 0 48 (U.1 0 48 + 1)) ∧ Rn n (U.1 0 47).toInt (sv (st U 0 48 (U.1 0 48 + 1))) ((st T 79 0 (T.1 79 0 + 1)).1 79) l ∧ Od T U (st T 79 0 (T.1 79 0 + 1)) (st U 0 48 (U.1 0 48 + 1)) := by
  have h72 := b.s.n72
  have hnp := b.s.np40
  have Wr : ∀ k, k ≠ 0 → (st U 0 48 (U.1 0 48 + 1)).1 k = U.1 k := fun k a => st_row _ _ _ _ a
  have kk : ∀ y g, y < n → g < 15 → sv (st U 0 48 (U.1 0 48 + 1)) (15 * y + g) = sv U (15 * y + g) := fun y g hy hg => by
    have : ∀ g : Fin 15, rwd g.1 ≠ 0 := by decide
    exact sv_row (by omega) hg (Wr _ (this ⟨g, hg⟩))
  have hi : ∀ j, 1080 ≤ j → j < 1160 → sv (st U 0 48 (U.1 0 48 + 1)) j = sv U j := fun j j1 j2 => by
    unfold sv
    have h : ¬ j < 1080 := by omega
    rw [if_neg h, if_neg h, if_pos j2, if_pos j2, Wr 10 (by decide), Wr 11 (by decide)]
  have Vc : ∀ j, j ≠ 0 → (st T 79 0 (T.1 79 0 + 1)).1 79 j = T.1 79 j := fun j a => st_no (by omega)
  have od : Od T U (st T 79 0 (T.1 79 0 + 1)) (st U 0 48 (U.1 0 48 + 1)) := ⟨fun k a => st_row _ _ _ _ a, fun k a _ _ _ _ _ => Wr k a, fun i _ _ _ a => st_no (by omega)⟩
  have rl' : Rn n (U.1 0 47).toInt (sv (st U 0 48 (U.1 0 48 + 1))) ((st T 79 0 (T.1 79 0 + 1)).1 79) l := rl.same h72 (fun j a c => Vc j (by omega)) (fun y hy => kk y 11 hy (by omega)) (fun y hy => kk y 13 hy (by omega))
  refine ⟨od.bo b ⟨fun y hy => ?_, fun p hp => ?_, ?_, ⟨l, rl'⟩, fun y s o hy hs ho q => ?_, fun y g hy h72' hg => by
    have r0 : ∀ g : Fin 15, rwd g.1 ≠ 0 := by decide
    rw [sv_row (W := st U 0 48 (U.1 0 48 + 1)) (U := U) h72' (by omega) (Wr _ (r0 ⟨g, by omega⟩))]
    exact b.w.nw y g hy h72' hg⟩ (fun y hy => by rw [Wr 22 (by decide)]; exact b.lk y hy), rl', od⟩
  · have t := b.w.th y hy
    have k0 : sv (st U 0 48 (U.1 0 48 + 1)) (15 * y) = sv U (15 * y) := kk y 0 hy (by omega)
    refine ⟨?_, ?_, ?_, ?_, ?_, ?_, ?_, ?_, ?_, ?_, ?_, ?_, ?_⟩
    · rw [k0, kk y 1 hy (by omega), kk y 2 hy (by omega), Vc _ (by omega)]; exact t.at_
    · rw [Vc _ (by omega), kk y 3 hy (by omega)]; exact t.look
    · rw [Vc _ (by omega), kk y 4 hy (by omega)]; exact t.m0
    · rw [Vc _ (by omega), kk y 5 hy (by omega)]; exact t.m1
    · rw [Vc _ (by omega), kk y 6 hy (by omega)]; exact t.ser
    · rw [Vc _ (by omega), kk y 7 hy (by omega)]; exact t.flt
    · rw [Vc _ (by omega), kk y 8 hy (by omega)]; exact t.jam
    · rw [Vc _ (by omega), kk y 9 hy (by omega)]; exact t.dgr
    · rw [Vc _ (by omega), kk y 10 hy (by omega)]; exact t.run
    · rw [Vc _ (by omega), kk y 12 hy (by omega)]; exact t.rsd
    · rw [Vc _ (by omega), kk y 14 hy (by omega)]; exact t.tst
    · rw [kk y 14 hy (by omega)]; exact t.tb
    · rw [k0, kk y 11 hy (by omega), kk y 10 hy (by omega), kk y 4 hy (by omega), kk y 5 hy (by omega), kk y 12 hy (by omega)]; exact t.run0
  · rw [Vc _ (by omega), Vc _ (by omega), hi _ (by omega) (by omega), hi _ (by omega) (by omega)]; exact b.w.pt p hp
  · have := b.w.dmp
    rw [sv_d] at this
    rw [sv_d, st_here, st_here, this]
  · rw [Nat.add_assoc, kk y (4 + s) hy (by omega), ← Nat.add_assoc] at q
    have k0 : sv (st U 0 48 (U.1 0 48 + 1)) (15 * y) = sv U (15 * y) := kk y 0 hy (by omega)
    have k1 : sv (st U 0 48 (U.1 0 48 + 1)) (15 * o) = sv U (15 * o) := kk o 0 ho (by omega)
    rw [k0, k1]; exact b.w.mt y s o hy hs ho q
/-! ===== one turn, both at once ===== -/
theorem dec_pos {v : Int32} (h : 0 < v.toInt) : (v - 1 ≤ 0 ↔ v - 1 = 0) ∧ (¬ v - 1 = 0 → 0 < (v - 1).toInt) := by
  have hb := v.toInt_lt
  have e : (v - 1).toInt = v.toInt - 1 := by
    rw [Int32.toInt_sub, show (1 : Int32).toInt = 1 from by decide, bm (by omega) (by omega)]
  have z : (0 : Int32).toInt = 0 := by decide
  constructor
  · constructor
    · intro q
      rw [Int32.le_iff_toInt_le] at q
      apply Int32.toInt_inj.mp
      omega
    · intro q; rw [q]; decide
  · intro q
    have : (v - 1).toInt ≠ 0 := fun w => q (Int32.toInt_inj.mp (w.trans z.symm))
    omega
theorem m_stop {U : SS} {x : Nat} (hx : x < 72) : f_M_stop (nI x) U = some (st (st U 31 x 0) 30 x 0) := by
  rw [f_M_stop.eq_1, grT (inb_nI hx (by omega)), wr_r, grT (inb_nI hx (by omega)), wr_r, nI_clamp (by omega), show vp_nar .boolean (0 : Int32) = 0 from by decide]
theorem stop_at (U : SS) (x : Nat) (R y : Nat) : (st (st U 31 x 0) 30 x 0).1 R y = if R = 31 ∧ y = x then 0 else if R = 30 ∧ y = x then 0 else U.1 R y := by
  by_cases a : R = 31 ∧ y = x
  · rw [if_pos a, a.1, a.2, st_row _ _ _ _ (by decide), st_here]
  · rw [if_neg a]
    by_cases c : R = 30 ∧ y = x
    · rw [if_pos c, c.1, c.2, st_here]
    · rw [if_neg c, st_no c, st_no a]
/-- what a turn leaves: it RUNS on, or it is taken out -/
def Tn (n np nt x : Nat) (a c : List Nat) (T U : SS) (r9 : Int32) (T1 U1 : SS) : Prop := (¬ r9 = 0 ∧ Bo n np nt T1 U1 ∧ Rn n (U.1 0 47).toInt (sv U1) (T1.1 79) (a ++ x :: c) ∧ Od T U T1 U1) ∨ (r9 = 0 ∧ ∀ V, f_State_endRun (nI a.length) T1 = some V → Bo n np nt V U1 ∧ Rn n (U.1 0 47).toInt (sv U1) (V.1 79) (a ++ c) ∧ Od T U V U1)
theorem Tn.od {n np nt x : Nat} {a c : List Nat} {T U T' U' T1 U1 : SS} {r9 : Int32} (o : Od T U T' U') (h : Tn n np nt x a c T' U' r9 T1 U1) : Tn n np nt x a c T U r9 T1 U1 := by
  have e := o.f 47 (by decide) (by decide) (by decide) (by decide)
  unfold Tn at h ⊢
  rw [e] at h
  rcases h with ⟨h1, h2, h3, h4⟩ | ⟨h1, h2⟩
  · exact Or.inl ⟨h1, h2, h3, o.tr h4⟩
  · refine Or.inr ⟨h1, fun V hV => ?_⟩
    obtain ⟨g1, g2, g3⟩ := h2 V hV
    exact ⟨g1, g2, o.tr g3⟩
/-- one fewer to go -/
theorem last_al {n np nt x : Nat} {T U T1 U1 : SS} {a c : List Nat} {r9 : Int32} (b : Bo n np nt T U) (rl : Rn n (U.1 0 47).toInt (sv U) (T.1 79) (a ++ x :: c)) (h1 : f_Trains_runsOn_j86 (nI x) T = some (r9, T1)) (h2 : f_M_run_j109 (nI x) U = some U1) : Tn n np nt x a c T U r9 T1 U1 := by
  have h72 := b.s.n72
  obtain ⟨hx, hr⟩ := (rl.mem x).mp (List.mem_append_right _ (List.mem_cons_self))
  have hr' : ¬ U.1 31 x = 0 := fun z => by rw [sv_11 U (by omega), if_pos z] at hr; exact absurd hr (by decide)
  have tx := b.w.th x hx
  have e10 := tx.run
  rw [sv_10 U (by omega)] at e10
  have pos : 0 < (U.1 30 x).toInt := by
    rcases tx.run0 with ⟨z, -⟩ | ⟨-, z, -⟩
    · rw [sv_11 U (by omega), if_neg hr'] at z; exact absurd z (by decide)
    · rw [sv_10 U (by omega)] at z; exact z
  obtain ⟨d1, d2⟩ := dec_pos pos
  rw [f_Trains_runsOn_j86.eq_1, sg (f := 8) 8 rfl b.s.cn h72 hx (by omega), bnd_r, nmR, sset (f := 8) 8 _ rfl b.s.cn h72 hx (by omega), bndv_r, e10] at h1
  rw [f_M_run_j109.eq_1, grT (inb_nI (by omega) (by omega)), grT (inb_nI (by omega) (by omega)), wr_r, nI_clamp (by omega), grT (inb_nI (by omega) (by omega)), st_here] at h2
  by_cases z : U.1 30 x - 1 = 0
  · rw [if_pos (d1.mpr z)] at h1
    rw [if_pos z, m_stop (by omega), bndv_r] at h2
    obtain ⟨rfl, rfl⟩ := so_i h1
    injection h2 with h2
    subst h2
    refine Or.inr ⟨rfl, fun V hV => stpx b rl (fun k hk => st_row _ _ _ _ hk) (fun j hj => st_no (by omega)) hV (fun R y => ?_)⟩
    rw [stop_at]
    by_cases q : R = 30 ∧ y = x
    · rw [if_neg (by omega), if_pos q, if_neg (by omega), if_pos q]
    · rw [if_neg q, if_neg q, st_no q]
  · rw [if_neg (fun q => z (d1.mp q))] at h1
    rw [if_neg z] at h2
    obtain ⟨rfl, rfl⟩ := so_i h1
    injection h2 with h2
    subst h2
    obtain ⟨g1, g2, g3⟩ := dcx b rl hx hr' (d2 z)
    exact Or.inl ⟨by decide, g1, g2, g3⟩
theorem run_al {n np nt x : Nat} {T U T1 U1 : SS} {a c : List Nat} {r9 : Int32} (b : Bo n np nt T U) (rl : Rn n (U.1 0 47).toInt (sv U) (T.1 79) (a ++ x :: c)) (h1 : f_Trains_runsOn (nI x) T = some (r9, T1)) (h2 : f_M_run (nI x) U = some U1) : Tn n np nt x a c T U r9 T1 U1 := by
  have h72 := b.s.n72
  have hnt := b.s.nt24
  obtain ⟨hx, hr⟩ := (rl.mem x).mp (List.mem_append_right _ (List.mem_cons_self))
  have hr' : ¬ U.1 31 x = 0 := fun z => by rw [sv_11 U (by omega), if_pos z] at hr; exact absurd hr (by decide)
  have tx := b.w.th x hx
  obtain ⟨th, s, hs, es⟩ : thU U x ∧ ∃ s, s < 2 ∧ U.1 32 x = nI s := by
    rcases tx.run0 with ⟨z, -⟩ | ⟨-, -, z3, -, -, ⟨s, z6, z7⟩, -⟩
    · rw [sv_11 U (by omega), if_neg hr'] at z; exact absurd z (by decide)
    · rw [sv_12 U (by omega)] at z7
      refine ⟨fun q => ?_, s, z6, z7⟩
      have := sv_0 U (x := x) (by omega)
      rw [if_pos q] at this
      exact absurd (this.symm.trans z3) (by decide)
  have e9 := tx.rsd
  rw [sv_12 U (by omega), es] at e9
  rw [f_Trains_runsOn.eq_1, sg (f := 9) 9 rfl b.s.cn h72 hx (by omega), bnd_r, e9, nmR, n2] at h1
  rw [f_M_run.eq_1, grT (inb_nI (by omega) (by omega)), grT (inb_nI (by omega) (by omega)), grT (inb_nI (by omega) (by omega)), nI_clamp (by omega), es] at h2
  replace h1 := bnd_i h1
  obtain ⟨r5, T4, a1, h1⟩ := h1
  replace h2 := bnd_i h2
  obtain ⟨wy, U2, w1, h2⟩ := h2
  obtain ⟨d0, hd0, -, w2⟩ := way_al b hx hs
  have eU2 : U2 = U := by rw [w2 U rfl] at w1; exact (so_i w1).2
  rw [eU2] at w1 h2
  replace h2 := bnd_i h2
  obtain ⟨bo, U3, o1, h2⟩ := h2
  obtain ⟨eT4, fn, nx⟩ := nf_al b hx th hs a1 w1 o1
  rw [eT4] at h1
  have q3 : Qz T U T U3 := Qz.of b.te Qc.rf fn.q
  have b3 := b.q q3
  have rl3 : Rn n (U3.1 0 47).toInt (sv U3) (T.1 79) (a ++ x :: c) := by rw [q3.svE, fn.f 47 (by decide) (by decide) (by decide)]; exact rl
  refine Tn.od fn.od ?_
  have st3 : f_M_stop (nI x) U3 = some (st (st U3 31 x 0) 30 x 0) := m_stop (by omega)
  rcases nx with ⟨nx1, nx2⟩ | ⟨nx1, t, p, d, q, ht, hq, hq2, hp, hd, nx2, e26, e27, e28⟩
  · rw [if_pos nx1] at h1
    rw [if_pos nx2, st3, bndv_r] at h2
    obtain ⟨rfl, rfl⟩ := so_i h1
    injection h2 with h2
    subst h2
    exact Or.inr ⟨rfl, fun V hV => stpx b3 rl3 (fun k hk => rfl) (fun j hj => rfl) hV (fun R y => stop_at _ _ _ _)⟩
  · rw [nx2, if_neg (nI_m4 (by omega)), n_shr (by omega), show (2 * (24 * t + p) + d) / 2 = 24 * t + p by omega, n_and (by omega), show (2 * (24 * t + p) + d) % 2 = d by omega] at h1
    rw [if_neg nx1, e26, e27] at h2
    replace h1 := bnd_i h1
    obtain ⟨r7, T6, s1, h1⟩ := h1
    replace h2 := bnd_i h2
    obtain ⟨r6, U5, s2, h2⟩ := h2
    obtain ⟨eT6, eU5, er, so⟩ := stand_al b3 ht hp hq2 s1 s2
    rw [eT6] at h1
    rw [eU5, er] at h2
    by_cases g : r7 = -4
    · rw [if_pos g, f_State_goTo.eq_1, n_shr (by omega), n_and (by omega), show (2 * x + s) / 2 = x by omega, show (2 * x + s) % 2 = s by omega, n_xr hd hs, sset (f := 0) 0 _ rfl b3.s.cn h72 hx (by omega), bndv_r, sset (f := 1) 1 _ rfl (by rw [st_row _ _ _ _ (by decide)]; exact b3.s.cn) h72 hx (by omega), bndv_r, bndv_r] at h1
      have e32 : U3.1 32 x = nI s := by rw [q3.mr 32 (by omega)]; exact es
      rw [if_pos g, f_M_run_j80.eq_1, if_pos g, grT (inb_nI (by omega) (by omega)), nI_clamp (by omega), e26, e27, e28, e32, m_place _ _ (by omega) hd hs, bndv_r] at h2
      have th3 : thU U3 x := by unfold thU at th ⊢; rw [q3.mr 19 (by omega)]; exact th
      obtain ⟨b4, rl4, od4⟩ := mvx (s := s) b3 rl3 hx th3 ht (by rw [q3.mf.r 3 (by decide) (by unfold mdy; omega)]; exact hq) hq2 hp hd
      have e47 := od4.f 47 (by decide) (by decide) (by decide) (by decide)
      rw [← e47] at rl4
      exact Tn.od od4 (last_al b4 rl4 h1 h2)
    · rcases so with z | ⟨o, ho, eo, -, -⟩
      · exact absurd z g
      · rw [if_neg g, eo, c_run b3 ho, bnd_r] at h1
        rw [if_neg g, eo, grT (inb_nI (by omega) (by omega)), nI_clamp (by omega)] at h2
        by_cases y : U3.1 31 o = 0
        · rw [if_pos y, if_pos rfl, f_State_addDamp.eq_1, grT (by decide), grT (by decide), wr_r, bndv_r, show (0 : Int32).toNatClampNeg = 0 from rfl] at h1
          rw [if_pos y, st3, bndv_r, wr_r, st_row _ 30 _ _ (by decide), st_row _ 31 _ _ (by decide)] at h2
          obtain ⟨rfl, rfl⟩ := so_i h1
          injection h2 with h2
          obtain ⟨b4, rl4, od4⟩ := dmx b3 rl3
          have e47 := od4.f 47 (by decide) (by decide) (by decide) (by decide)
          rw [← e47] at rl4
          refine Tn.od od4 (Or.inr ⟨rfl, fun V hV => stpx b4 rl4 (fun k hk => rfl) (fun j hj => rfl) hV (fun R y => ?_)⟩)
          rw [← h2, st_comm _ _ _ _ _ (show (30 : Nat) ≠ 0 by decide), st_comm _ _ _ _ _ (show (31 : Nat) ≠ 0 by decide)]
          exact stop_at _ _ _ _
        · rw [if_neg y, if_neg (by decide)] at h1
          rw [if_neg y, f_M_run_j80.eq_1, if_neg (nI_m4 (by omega))] at h2
          exact last_al b3 rl3 h1 h2
/-! ===== who is next ===== -/
def Cd (U : SS) (n : Nat) (bv : Int32) (z : Nat) : Prop := z < n ∧ ¬ U.1 31 z = 0 ∧ ¬ U.1 33 z ≤ bv
theorem nr_L {n np nt : Nat} {T U : SS} {bv : Int32} (b : Bo n np nt T U) : ∀ (N y : Nat) (best r : Int32) (W : SS), y ≤ n → ((best = -4 ∧ ∀ z, z < y → ¬ Cd U n bv z) ∨ ∃ w, best = nI w ∧ Cd U n bv w ∧ ∀ z, z < y → Cd U n bv z → (U.1 33 w).toInt ≤ (U.1 33 z).toInt) → f_M_nextRunning_L5 N bv best (nI y) U = some (r, W) → W = U ∧ ((r = -4 ∧ ∀ z, z < n → ¬ Cd U n bv z) ∨ ∃ w, r = nI w ∧ Cd U n bv w ∧ ∀ z, z < n → Cd U n bv z → (U.1 33 w).toInt ≤ (U.1 33 z).toInt)
  | 0, y, best, r, W, _, _, h => by cases h
  | N + 1, y, best, r, W, hy, inv, h => by
    have h72 := b.s.n72
    rw [f_M_nextRunning_L5.eq_2, b.s.mn] at h
    by_cases c : y = n
    · subst c
      rw [if_pos (nI_le (by omega) (by omega))] at h
      obtain ⟨rfl, rfl⟩ := so_i h
      exact ⟨rfl, inv⟩
    · have hyn : y < n := by omega
      have skip : ¬ Cd U n bv y → f_M_nextRunning_j64 (fun v0 v1 v2 S => f_M_nextRunning_L5 N v0 v1 v2 S) bv best (nI y) U = some (r, W) → W = U ∧ ((r = -4 ∧ ∀ z, z < n → ¬ Cd U n bv z) ∨ ∃ w, r = nI w ∧ Cd U n bv w ∧ ∀ z, z < n → Cd U n bv z → (U.1 33 w).toInt ≤ (U.1 33 z).toInt) := fun nc h => by
        rw [f_M_nextRunning_j64.eq_1, nmR, nI_1] at h
        refine nr_L b N (y + 1) best r W (by omega) ?_ h
        rcases inv with ⟨i1, i2⟩ | ⟨w, i1, i2, i3⟩
        · exact Or.inl ⟨i1, fun z hz => by
            by_cases e : z = y
            · subst e; exact nc
            · exact i2 z (by omega)⟩
        · exact Or.inr ⟨w, i1, i2, fun z hz cz => by
            by_cases e : z = y
            · subst e; exact absurd cz nc
            · exact i3 z (by omega) cz⟩
      have take : Cd U n bv y → (∀ w, best = nI w → Cd U n bv w → ¬ (U.1 33 w).toInt ≤ (U.1 33 y).toInt) → f_M_nextRunning_j62 (fun v0 v1 v2 S => f_M_nextRunning_L5 N v0 v1 v2 S) bv (nI y) U = some (r, W) → W = U ∧ ((r = -4 ∧ ∀ z, z < n → ¬ Cd U n bv z) ∨ ∃ w, r = nI w ∧ Cd U n bv w ∧ ∀ z, z < n → Cd U n bv z → (U.1 33 w).toInt ≤ (U.1 33 z).toInt) := fun cy hb h => by
        rw [f_M_nextRunning_j62.eq_1, f_M_nextRunning_j64.eq_1, nmR, nI_1] at h
        refine nr_L b N (y + 1) (nI y) r W (by omega) (Or.inr ⟨y, rfl, cy, fun z hz cz => ?_⟩) h
        by_cases e : z = y
        · subst e; exact Int.le_refl _
        · rcases inv with ⟨i1, i2⟩ | ⟨w, i1, i2, i3⟩
          · exact absurd cz (i2 z (by omega))
          · have := hb w i1 i2
            have := i3 z (by omega) cz
            omega
      have tx := b.w.th y hyn
      have thr : ¬ U.1 31 y = 0 → ¬ U.1 19 y = 0 := fun q z => by
        rcases tx.run0 with ⟨w, -⟩ | ⟨-, -, w, -⟩
        · rw [sv_11 U (by omega), if_neg q] at w; exact absurd w (by decide)
        · have := sv_0 U (x := y) (by omega)
          rw [if_pos z] at this
          exact absurd (this.symm.trans w) (by decide)
      rw [if_neg (nI_ge hyn (by omega)), grT (inb_nI (by omega) (by omega)), nI_clamp (n := y) (by omega)] at h
      by_cases c1 : U.1 19 y = 0
      · rw [if_pos c1] at h
        exact skip (fun q => thr q.2.1 c1) h
      · rw [if_neg c1, grT (inb_nI (by omega) (by omega))] at h
        by_cases c2 : U.1 31 y = 0
        · rw [if_pos c2] at h
          exact skip (fun q => q.2.1 c2) h
        · rw [if_neg c2, grT (inb_nI (by omega) (by omega))] at h
          by_cases c3 : U.1 33 y ≤ bv
          · rw [if_pos c3] at h
            exact skip (fun q => q.2.2 c3) h
          · rw [if_neg c3] at h
            have cy : Cd U n bv y := ⟨hyn, c2, c3⟩
            by_cases c4 : best = -4
            · rw [if_pos c4] at h
              exact take cy (fun w e cw => by rw [c4] at e; exact absurd e.symm (nI_m4 (by have := cw.1; omega))) h
            · rw [if_neg c4] at h
              rcases inv with ⟨i1, -⟩ | ⟨w, i1, i2, i3⟩
              · exact absurd i1 c4
              · have hw := i2.1
                rw [i1, grT (inb_nI (by omega) (by omega)), grT (inb_nI (by omega) (by omega)), nI_clamp (by omega)] at h
                by_cases c5 : U.1 33 w ≤ U.1 33 y
                · rw [if_pos c5, ← i1] at h
                  rw [f_M_nextRunning_j64.eq_1, nmR, nI_1] at h
                  refine nr_L b N (y + 1) best r W (by omega) (Or.inr ⟨w, i1, i2, fun z hz cz => ?_⟩) h
                  by_cases e : z = y
                  · subst e; rw [Int32.le_iff_toInt_le] at c5; exact c5
                  · exact i3 z (by omega) cz
                · rw [if_neg c5] at h
                  refine take cy (fun w' e' cw' => ?_) h
                  have hw' := cw'.1
                  have : w' = w := nI_inj (by omega) (by omega) (e'.symm.trans i1)
                  subst this
                  rw [Int32.le_iff_toInt_le] at c5
                  exact c5
theorem nr_al {n np nt : Nat} {T U W : SS} {bv r : Int32} {a rest : List Nat} (b : Bo n np nt T U) (rl : Rn n (U.1 0 47).toInt (sv U) (T.1 79) (a ++ rest)) (ha : ∀ y, y ∈ a → (U.1 33 y).toInt ≤ bv.toInt) (hr : ∀ y, y ∈ rest → bv.toInt < (U.1 33 y).toInt) (h : f_M_nextRunning bv U = some (r, W)) : W = U ∧ ((rest = [] ∧ r = -4) ∨ ∃ x c, rest = x :: c ∧ r = nI x) := by
  have h72 := b.s.n72
  rw [f_M_nextRunning.eq_1] at h
  obtain ⟨e, q⟩ := nr_L (bv := bv) b NF 0 (-4) r W (by omega) (Or.inl ⟨rfl, fun z hz => by omega⟩) h
  refine ⟨e, ?_⟩
  have mem : ∀ z, Cd U n bv z → z ∈ rest := fun z cz => by
    have hz := cz.1
    have : z ∈ a ++ rest := (rl.mem z).mpr ⟨hz, by rw [sv_11 U (by omega), if_neg cz.2.1]⟩
    rcases List.mem_append.mp this with m | m
    · have := ha z m
      exact absurd (by rw [Int32.le_iff_toInt_le]; exact this) cz.2.2
    · exact m
  have cd : ∀ z, z ∈ rest → Cd U n bv z := fun z m => by
    have w := (rl.mem z).mp (List.mem_append_right _ m)
    have hz := w.1
    refine ⟨hz, fun q => ?_, fun q => ?_⟩
    · have := w.2
      rw [sv_11 U (by omega), if_pos q] at this
      exact absurd this (by decide)
    · rw [Int32.le_iff_toInt_le] at q
      have := hr z m
      omega
  cases hrest : rest with
  | nil =>
    left
    refine ⟨rfl, ?_⟩
    rcases q with ⟨q1, -⟩ | ⟨w, -, q2, -⟩
    · exact q1
    · have := mem w q2
      rw [hrest] at this
      exact absurd this (by simp)
  | cons x c =>
    right
    refine ⟨x, c, rfl, ?_⟩
    have hx := cd x (by rw [hrest]; exact List.mem_cons_self)
    rcases q with ⟨-, q2⟩ | ⟨w, q1, q2, q3⟩
    · exact absurd hx (q2 x hx.1)
    · have := mem w q2
      rw [hrest] at this
      rcases List.mem_cons.mp this with e | e
      · rw [q1, e]
      · have s := rl.srt
        rw [hrest] at s
        have s2 := (List.pairwise_append.mp s).2.1
        have s3 := (List.pairwise_cons.mp s2).1 w e
        have hw := q2.1
        have hx1 := hx.1
        rw [sv_13 U (by omega), sv_13 U (by omega)] at s3
        have := q3 x hx.1 hx
        omega
/-! ===== how many RUN ===== -/
theorem cnF_len (f : Nat → Int32) (v : Int32) : ∀ m p, cnF f v m p = ((List.range' p m).filter (fun y => decide (f y = v))).length
  | 0, p => rfl
  | m + 1, p => by
    show (if f p = v then 1 else 0) + cnF f v m (p + 1) = _
    rw [cnF_len f v m (p + 1), List.range'_succ, List.filter_cons]
    by_cases c : f p = v
    · rw [if_pos c, if_pos (decide_eq_true c), List.length_cons]; omega
    · rw [if_neg c, if_neg (by simp [c])]; omega
theorem cnt_al {n : Nat} {B : Int} {K c : Nat → Int32} {l : List Nat} (r : Rn n B K c l) : cnF (fun y => K (15 * y + 11)) 1 n 0 = l.length := by
  rw [cnF_len]
  have hm : ∀ y, y ∈ (List.range' 0 n).filter (fun y => decide (K (15 * y + 11) = 1)) ↔ y ∈ l := fun y => by
    rw [List.mem_filter, r.mem y, List.mem_range']
    constructor
    · rintro ⟨⟨i, hi, e⟩, q⟩
      exact ⟨by omega, of_decide_eq_true q⟩
    · rintro ⟨h1, h2⟩
      exact ⟨⟨y, h1, by omega⟩, decide_eq_true h2⟩
  have nd : ((List.range' 0 n).filter (fun y => decide (K (15 * y + 11) = 1))).Nodup := List.Pairwise.filter _ (List.nodup_range' (s := 0) (n := n) (step := 1))
  have a := List.Nodup.length_le_of_subset nd (fun y hy => (hm y).mp hy)
  have b := List.Nodup.length_le_of_subset r.nd (fun y hy => (hm y).mpr hy)
  omega
theorem run_L {n np nt : Nat} {T U : SS} (b : Bo n np nt T U) : ∀ (N s y : Nat) (r : Int32) (W : SS), y ≤ n → f_M_running_L4 N (nI s) (nI y) U = some (r, W) → W = U ∧ r = nI (s + cnF (fun y => sv U (15 * y + 11)) 1 (n - y) y)
  | 0, s, y, r, W, _, h => by cases h
  | N + 1, s, y, r, W, hy, h => by
    have h72 := b.s.n72
    rw [f_M_running_L4.eq_2, b.s.mn] at h
    by_cases c : y = n
    · subst c
      rw [if_pos (nI_le (by omega) (by omega))] at h
      obtain ⟨rfl, rfl⟩ := so_i h
      rw [Nat.sub_self]
      exact ⟨rfl, rfl⟩
    · have hyn : y < n := by omega
      have tx := b.w.th y hyn
      have cs : cnF (fun y => sv U (15 * y + 11)) 1 (n - y) y = (if sv U (15 * y + 11) = 1 then 1 else 0) + cnF (fun y => sv U (15 * y + 11)) 1 (n - (y + 1)) (y + 1) := by
        rw [show n - y = (n - (y + 1)) + 1 by omega]; rfl
      rw [if_neg (nI_ge hyn (by omega)), grT (inb_nI (by omega) (by omega)), nI_clamp (n := y) (by omega)] at h
      have nr : U.1 31 y = 0 → f_M_running_j35 (fun v0 v1 S => f_M_running_L4 N v0 v1 S) (nI y) (nI s) U = some (r, W) → W = U ∧ r = nI (s + cnF (fun y => sv U (15 * y + 11)) 1 (n - y) y) := fun z h => by
        rw [f_M_running_j35.eq_1, f_M_running_j36.eq_1, nmR, nmR, nI_1, show nI s + (0 : Int32) = nI (s + 0) from nI_add s 0, Nat.add_zero] at h
        obtain ⟨g1, g2⟩ := run_L b N s (y + 1) r W (by omega) h
        refine ⟨g1, ?_⟩
        rw [g2, cs, sv_11 U (by omega), if_pos z, if_neg (by decide), Nat.zero_add]
      by_cases c1 : U.1 19 y = 0
      · rw [if_pos c1] at h
        refine nr ?_ h
        rcases tx.run0 with ⟨w, -⟩ | ⟨-, -, w, -⟩
        · rw [sv_11 U (by omega)] at w
          exact Classical.byContradiction (fun q => by rw [if_neg q] at w; exact absurd w (by decide))
        · have := sv_0 U (x := y) (by omega)
          rw [if_pos c1] at this
          exact absurd (this.symm.trans w) (by decide)
      · rw [if_neg c1, grT (inb_nI (by omega) (by omega))] at h
        by_cases c2 : U.1 31 y = 0
        · rw [if_pos c2] at h
          exact nr c2 h
        · rw [if_neg c2, f_M_running_j36.eq_1, nmR, nmR, nI_1, nI_1] at h
          obtain ⟨g1, g2⟩ := run_L b N (s + 1) (y + 1) r W (by omega) h
          refine ⟨g1, ?_⟩
          rw [g2, cs, sv_11 U (by omega), if_neg c2, if_pos rfl]
          exact congrArg nI (by omega)
/-! ===== step ===== -/
theorem c_runner {n : Nat} {B : Int} {K : Nat → Int32} {T : SS} {a c : List Nat} {x : Nat} (h72 : n ≤ 72) (r : Rn n B K (T.1 79) (a ++ x :: c)) : f_State_runner (nI a.length) T = some (nI x, T) := by
  have hl := r.le
  rw [List.length_append, List.length_cons] at hl
  have e1 : T.1 79 1 = nI (a.length + (c.length + 1)) := by rw [r.len, List.length_append, List.length_cons]
  have ek : T.1 79 (2 + a.length) = nI x := by
    rw [r.cell a.length (by rw [List.length_append, List.length_cons]; omega), List.getElem_append_right (Nat.le_refl _)]
    simp
  rw [f_State_runner.eq_1, if_neg (nI_nn (by omega)), grT (by decide), show (1 : Int32).toNatClampNeg = 1 from rfl, e1, if_neg (nI_ge (by omega) (by omega)), if_pos (show nI a.length < (72 : Int32) from (nI_ltJ (b := 72) (by omega) (by omega)).mpr (by omega)), show (2 : Int32) + nI a.length = nI (2 + a.length) from nI_add 2 a.length, grT (inb_nI (by omega) (by omega)), nI_clamp (by omega), ek]
theorem in_al {n np nt : Nat} {x1 x2 : Int32} {y z : Int32 × SS} {K2 K19 : Int32 → Int32 → SS → Option (Int32 × SS)} : ∀ (N M : Nat) (T U : SS) (a rest : List Nat) (bv r : Int32), Bo n np nt T U → Rn n (U.1 0 47).toInt (sv U) (T.1 79) (a ++ rest) → ((rest = [] ∧ r = -4) ∨ ∃ x c, rest = x :: c ∧ r = nI x) → f_Trains_runAll_L18 K2 N x1 x2 (nI a.length) (nI rest.length) T = some y → f_M_step_L30 K19 M x1 x2 r U = some z → ∃ T' U', Bo n np nt T' U' ∧ Od T U T' U' ∧ K2 x1 (x2 + 1) T' = some y ∧ K19 x1 (x2 + 1) U' = some z
  | 0, M, T, U, a, rest, bv, r, _, _, _, h1, h2 => by cases h1
  | N + 1, 0, T, U, a, rest, bv, r, _, _, _, h1, h2 => by cases h2
  | N + 1, M + 1, T, U, a, rest, bv, r, b, rl, hr, h1, h2 => by
    have h72 := b.s.n72
    have hl := rl.le
    rw [f_Trains_runAll_L18.eq_2] at h1
    rw [f_M_step_L30.eq_2] at h2
    rcases hr with ⟨e, er⟩ | ⟨x, c, e, er⟩
    · subst e er
      rw [if_pos (by decide), nmR] at h1
      rw [if_pos rfl, nmR] at h2
      exact ⟨T, U, b, Od.rf, h1, h2⟩
    · subst e er
      rw [List.length_append, List.length_cons] at hl
      obtain ⟨hx, hrun⟩ := (rl.mem x).mp (List.mem_append_right _ (List.mem_cons_self))
      rw [if_neg (show ¬ nI (x :: c).length ≤ (0 : Int32) from fun q => by have := (n_leJ (b := 0) (by rw [List.length_cons]; omega) (by omega)).mp q; rw [List.length_cons] at this; omega), c_runner h72 rl, bnd_r] at h1
      rw [if_neg (nI_m4 (by omega)), grT (inb_nI (by omega) (by omega)), nmR, nI_clamp (by omega)] at h2
      replace h1 := bnd_i h1
      obtain ⟨r9, T1, a1, h1⟩ := h1
      replace h2 := bndv_i h2
      obtain ⟨U1, a2, h2⟩ := h2
      replace h2 := bnd_i h2
      obtain ⟨r12, U2, a3, h2⟩ := h2
      have srt := rl.srt
      have s1 := List.pairwise_append.mp srt
      have s2 := List.pairwise_cons.mp s1.2.1
      have ltA : ∀ w, w ∈ a → (U.1 33 w).toInt < (U.1 33 x).toInt := fun w hw => by
        have q := s1.2.2 w hw x List.mem_cons_self
        have := ((rl.mem w).mp (List.mem_append_left _ hw)).1
        rw [sv_13 U (by omega), sv_13 U (by omega)] at q
        exact q
      have ltC : ∀ w, w ∈ c → (U.1 33 x).toInt < (U.1 33 w).toInt := fun w hw => by
        have q := s2.1 w hw
        have := ((rl.mem w).mp (List.mem_append_right _ (List.mem_cons_of_mem _ hw))).1
        rw [sv_13 U (by omega), sv_13 U (by omega)] at q
        exact q
      rcases run_al b rl a1 a2 with ⟨g, b1, rl1, od⟩ | ⟨g, st⟩
      · rw [if_neg g, nmR, nI_1, f_Trains_runAll_j52.eq_1, nmR, n_sub1, n_m1 (by rw [List.length_cons]; omega) (by rw [List.length_cons]; omega), show (x :: c).length - 1 = c.length by rw [List.length_cons]; omega] at h1
        have e33 : U1.1 33 = U.1 33 := od.m 33 (by decide) (by decide) (by decide) (by decide) (by decide) (by decide)
        have rl2 : Rn n (U1.1 0 47).toInt (sv U1) (T1.1 79) ((a ++ [x]) ++ c) := by
          rw [od.f 47 (by decide) (by decide) (by decide) (by decide), List.append_assoc]
          exact rl1
        obtain ⟨eU, nx⟩ := nr_al b1 rl2 (bv := U.1 33 x) (fun w hw => by
          rw [e33]
          rcases List.mem_append.mp hw with q | q
          · have := ltA w q; omega
          · have : w = x := by simpa using q
            subst this; exact Int.le_refl _) (fun w hw => by rw [e33]; exact ltC w hw) a3
        rw [eU] at h2
        have el : a.length + 1 = (a ++ [x]).length := by rw [List.length_append]; rfl
        rw [el] at h1
        obtain ⟨T', U', g1, g2, g3, g4⟩ := in_al N M T1 U1 (a ++ [x]) c (U.1 33 x) r12 b1 rl2 nx h1 h2
        exact ⟨T', U', g1, od.tr g2, g3, g4⟩
      · rw [if_pos g] at h1
        replace h1 := bndv_i h1
        obtain ⟨T2, er, h1⟩ := h1
        obtain ⟨b1, rl1, od⟩ := st T2 er
        rw [f_Trains_runAll_j52.eq_1, nmR, n_sub1, n_m1 (by rw [List.length_cons]; omega) (by rw [List.length_cons]; omega), show (x :: c).length - 1 = c.length by rw [List.length_cons]; omega] at h1
        have e33 : U1.1 33 = U.1 33 := od.m 33 (by decide) (by decide) (by decide) (by decide) (by decide) (by decide)
        have rl2 : Rn n (U1.1 0 47).toInt (sv U1) (T2.1 79) (a ++ c) := by
          rw [od.f 47 (by decide) (by decide) (by decide) (by decide)]
          exact rl1
        obtain ⟨eU, nx⟩ := nr_al b1 rl2 (bv := U.1 33 x) (fun w hw => by
          rw [e33]
          have := ltA w hw; omega) (fun w hw => by rw [e33]; exact ltC w hw) a3
        rw [eU] at h2
        obtain ⟨T', U', g1, g2, g3, g4⟩ := in_al N M T2 U1 a c (U.1 33 x) r12 b1 rl2 nx h1 h2
        exact ⟨T', U', g1, od.tr g2, g3, g4⟩
theorem c_running {n : Nat} {B : Int} {K : Nat → Int32} {T : SS} {l : List Nat} (r : Rn n B K (T.1 79) l) : f_State_running T = some (nI l.length, T) := by
  rw [f_State_running.eq_1, grT (by decide), show (1 : Int32).toNatClampNeg = 1 from rfl, r.len]
theorem ou_al {n np nt g : Nat} {T0 U0 V S2 : SS} {rc r2 : Int32} (hg : g ≤ 50) : ∀ (N M i : Nat) (T U : SS), Bo n np nt T U → Od T0 U0 T U → i ≤ g → f_Trains_runAll_L2 N (nI g) (nI i) T = some (rc, V) → f_M_step_L19 M (nI g) (nI i) U = some (r2, S2) → ∃ W, bnd (f_M_entered 10 rc W) (fun r S => some (r, S)) = some (r2, S2) ∧ En n np nt T0 U0 V W
  | 0, M, i, T, U, _, _, _, h1, h2 => by cases h1
  | N + 1, 0, i, T, U, _, _, _, h1, h2 => by cases h2
  | N + 1, M + 1, i, T, U, b, od, hi, h1, h2 => by
    obtain ⟨l, rl⟩ := b.w.rns
    have hl := rl.le
    have h72 := b.s.n72
    rw [f_Trains_runAll_L2.eq_2, c_running rl] at h1
    rw [f_M_step_L19.eq_2] at h2
    by_cases c : i = g
    · subst c
      rw [if_pos (nI_le (by omega) (by omega)), bnd_r] at h1
      rw [if_pos (nI_le (by omega) (by omega))] at h2
      obtain ⟨rfl, rfl⟩ := so_i h1
      replace h2 := bnd_i h2
      obtain ⟨r3, W, e, h2⟩ := h2
      rw [f_M_running.eq_1] at e
      obtain ⟨rfl, e3⟩ := run_L b NF 0 0 r3 W (by omega) e
      rw [Nat.zero_add, Nat.sub_zero, cnt_al rl] at e3
      rw [e3] at h2
      exact ⟨_, h2, en_of b od.cf od.mf (by rw [od.f 47 (by decide) (by decide) (by decide) (by decide)]; exact Int.le_refl _)⟩
    · have lt : ¬ nI g ≤ nI i := fun z => by have := (n_leJ (by omega) (by omega)).mp z; omega
      rw [if_neg lt, bnd_r] at h1
      rw [if_neg lt] at h2
      replace h2 := bnd_i h2
      obtain ⟨r7, U6, e, h2⟩ := h2
      obtain ⟨eU, nx⟩ := nr_al (a := []) (rest := l) b rl (bv := 0) (fun y hy => absurd hy (by simp)) (fun y hy => by
        have := (rl.pos y hy).1
        have hyn := ((rl.mem y).mp hy).1
        rw [sv_13 U (by omega)] at this
        exact this) e
      rw [eU] at h2
      obtain ⟨T', U', g1, g2, g3, g4⟩ := in_al NF NF T U [] l 0 r7 b rl nx h1 h2
      rw [nI_1] at g3 g4
      exact ou_al hg N M (i + 1) T' U' g1 (od.tr g2) (by omega) g3 g4
theorem step_st {n np nt L : Nat} {S S1 S2 : SS} {a1 r1 r2 : Int32} (h : Dz n np nt L S) (hL : L < 600) (hW : WR S) (hW1 : WR S1) (hW2 : WR S2) (z : Fz S S1 S2) (e1 : f_Yard_step a1 S = some (r1, S1)) (e2 : f_M_step a1 S1 = some (r2, S2)) : Az n np nt L r1 r2 S2 := by
  rw [f_Yard_step.eq_1, in_v, bnd_r] at e1
  rw [f_M_step.eq_1] at e2
  by_cases q : inV a1 1 50 = 0
  · have q' := inV0.mp q
    obtain ⟨g, g1, g2, rfl⟩ := in_n (l := 1) (h := 50) rfl rfl (by omega) (by omega) q
    rw [if_pos q] at e1
    rw [if_neg q'.1, if_pos q'.2] at e2
    refine act_stp h hL hW hW1 hW2 z (fun T U V rc b _ _ g1 g2' => ?_) e1 e2
    rw [f_Trains_runAll.eq_1] at g1
    exact ou_al g2 NF NF 0 T U b Od.rf (by omega) g1 g2'
  · rw [if_neg q] at e1
    by_cases c : a1 < 1
    · rw [if_pos c] at e2; exact az_bad h e1 e2
    · rw [if_neg c, if_neg (fun y => q (inV0.mpr ⟨c, y⟩))] at e2; exact az_bad h e1 e2
end
section
/-! ===== danger, hold, jam ===== -/
def chR (R d f : Nat) : Prop := (R = 27 ∧ d = 9 ∧ f = 7) ∨ (R = 25 ∧ d = 7 ∧ f = 5) ∨ (R = 26 ∧ d = 8 ∧ f = 6)
theorem chR_sv {R d f x : Nat} {v : Int32} {U : SS} (h : chR R d f) (hx : x < 72) : ∀ j, j < 1161 → sv (st U R x v) j = if j = 15 * x + d then v else sv U j := by
  rcases h with ⟨rfl, rfl, -⟩ | ⟨rfl, rfl, -⟩ | ⟨rfl, rfl, -⟩
  · exact svw_9 hx
  · exact svw_7 hx
  · exact svw_8 hx
theorem chR_rd {R d f x : Nat} {S : SS} (h : chR R d f) (hx : x < 72) : sv S (15 * x + d) = S.1 R x := by
  rcases h with ⟨rfl, rfl, -⟩ | ⟨rfl, rfl, -⟩ | ⟨rfl, rfl, -⟩
  · exact sv_9 S hx
  · exact sv_7 S hx
  · exact sv_8 S hx
theorem chg_body {n np nt R d f : Nat} {T U V S2 : SS} {a w v c rc r2 act ff : Int32} (b : Bo n np nt T U) (hR : chR R d f) (hff : ff = nI f) (hw : (w, v) ∈ wpr) (h1 : f_Yard_change a w ff c T = some (rc, V))
    (h2 : bnd (f_M_missThing a v U) (fun r4 S3 => bnd (f_M_ends r4 S3) (fun r6 S5 => if r6 = 0 then grd (inb a 72) (nm (S5.1 R a.toNatClampNeg) (fun z7 => grd (inb a 72) (wr S5 R a.toNatClampNeg c (fun S8 => bnd (f_M_entered act z7 S8) (fun r10 S9 => some (r10, S9)))))) else bnd (f_M_entered act (-2 : Int32) S5) (fun r12 S11 => some (r12, S11)))) = some (r2, S2)) : ∃ W, bnd (f_M_entered act rc W) (fun r S => some (r, S)) = some (r2, S2) ∧ En n np nt T U V W := by
  have h72 := b.s.n72
  subst hff
  rw [f_Yard_change.eq_1] at h1
  rcases named_al b a hw with ⟨x, hx, rfl, p1, p2, c1, c2⟩ | ⟨r, r', n1, nn2, c1, c2⟩
  · have hdf : d < 15 ∧ f < 11 ∧ pf d f ∧ d ≠ 14 ∧ mdy R ∧ R ≠ 0 ∧ R ≠ 2 := by
      unfold pf mdy
      rcases hR with ⟨rfl, rfl, rfl⟩ | ⟨rfl, rfl, rfl⟩ | ⟨rfl, rfl, rfl⟩ <;> decide
    obtain ⟨dd, df, hpf, d14, hmR, R0, R2⟩ := hdf
    rw [c1, bnd_r, if_pos rfl, sg (nI f) rfl b.s.cn h72 hx df, bnd_r, sset (nI f) c rfl b.s.cn h72 hx df, bndv_r] at h1
    rw [c2, bnd_r, ends_0, bnd_r, if_pos rfl, grT (inb_nI (by omega) (by omega)), nmR, grT (inb_nI (by omega) (by omega)), wr_r, nI_clamp (by omega)] at h2
    obtain ⟨rfl, rfl⟩ := so_i h1
    have eq : T.1 79 (154 + 11 * x + f) = U.1 R x := by
      rw [← chR_rd (S := U) (x := x) hR (by omega)]
      have th := b.w.th x hx
      rcases hR with ⟨rfl, rfl, rfl⟩ | ⟨rfl, rfl, rfl⟩ | ⟨rfl, rfl, rfl⟩
      · exact th.dgr
      · exact th.flt
      · exact th.jam
    rw [← eq] at h2
    refine ⟨_, h2, Cfa.rf.w (by unfold cdy; omega), Mf.rf.w hmR, ?_, ?_, ⟨?_, fun i => ?_⟩, ?_⟩
    · rw [st_row _ _ _ _ (Ne.symm R0)]
      exact b.w.fld (v := c) h72 b.s.np40 hx hpf (fun q => absurd q d14) (fun j hj => chR_sv hR (by omega) j hj) (fun j => by rw [st_at, if_pos rfl])
    · rw [st_row _ _ _ _ (Ne.symm R0)]; exact Int.le_refl _
    · rw [st_row _ _ _ _ (by decide), st_row _ _ _ _ (Ne.symm R0)]; exact b.tr
    · rw [st_row _ _ _ _ (by decide), st_row _ _ _ _ (Ne.symm R2)]; exact b.tc i
    · rw [st_row _ _ _ _ (by decide), st_row _ _ _ _ (Ne.symm R0)]; exact b.sr
  · rw [c1, bnd_r, if_neg n1] at h1
    replace h1 := bnd_i h1
    obtain ⟨q, V1, l, h1⟩ := h1
    obtain ⟨rfl, rfl⟩ := so_i h1
    rw [c2, bnd_r] at h2
    replace h2 := bnd_i h2
    obtain ⟨r6, S5, m2, h2⟩ := h2
    exact no_al b l nn2 m2 (g := fun S5 => grd (inb a 72) (nm (S5.1 R a.toNatClampNeg) (fun z7 => grd (inb a 72) (wr S5 R a.toNatClampNeg c (fun S8 => bnd (f_M_entered act z7 S8) (fun r10 S9 => some (r10, S9))))))) h2
theorem in_lo {a hi : Int32} (h : inV a 0 hi = 0) : ¬ a < 0 ∧ a ≤ hi := inV0.mp h
theorem in_no {a hi : Int32} {α : Type} {x y : α} (h : ¬ inV a 0 hi = 0) : (if a < 0 then x else if a ≤ hi then y else x) = x := by
  by_cases c : a < 0
  · rw [if_pos c]
  · rw [if_neg c, if_neg (fun q => h (inV0.mpr ⟨c, q⟩))]
theorem danger_st {n np nt L : Nat} {S S1 S2 : SS} {a c r1 r2 : Int32} (h : Dz n np nt L S) (hL : L < 600) (hW : WR S) (hW1 : WR S1) (hW2 : WR S2) (z : Fz S S1 S2) (e1 : f_Yard_danger a c S = some (r1, S1)) (e2 : f_M_danger a c S1 = some (r2, S2)) : Az n np nt L r1 r2 S2 := by
  rw [f_Yard_danger.eq_1, in_v, bnd_r] at e1
  rw [f_M_danger.eq_1] at e2
  by_cases q : inV c 0 9 = 0
  · rw [if_pos q] at e1
    rw [if_neg (in_lo q).1, if_pos (in_lo q).2] at e2
    exact act_al h hL hW hW1 hW2 z (fun T U V rc b _ _ g1 g2 => chg_body b (R := 27) (d := 9) (f := 7) (Or.inl ⟨rfl, rfl, rfl⟩) rfl (by decide) g1 g2) e1 e2
  · rw [if_neg q] at e1
    rw [in_no q] at e2
    exact az_bad h e1 e2
theorem jam_st {n np nt L : Nat} {S S1 S2 : SS} {a c r1 r2 : Int32} (h : Dz n np nt L S) (hL : L < 600) (hW : WR S) (hW1 : WR S1) (hW2 : WR S2) (z : Fz S S1 S2) (e1 : f_Yard_jam a c S = some (r1, S1)) (e2 : f_M_jam a c S1 = some (r2, S2)) : Az n np nt L r1 r2 S2 := by
  rw [f_Yard_jam.eq_1, in_v, bnd_r] at e1
  rw [f_M_jam.eq_1] at e2
  by_cases q : inV c 0 50 = 0
  · rw [if_pos q] at e1
    rw [if_neg (in_lo q).1, if_pos (in_lo q).2] at e2
    exact act_al h hL hW hW1 hW2 z (fun T U V rc b _ _ g1 g2 => chg_body b (R := 26) (d := 8) (f := 6) (Or.inr (Or.inr ⟨rfl, rfl, rfl⟩)) rfl (by decide) g1 g2) e1 e2
  · rw [if_neg q] at e1
    rw [in_no q] at e2
    exact az_bad h e1 e2
theorem hold_st {n np nt L : Nat} {S S1 S2 : SS} {a c r1 r2 : Int32} (h : Dz n np nt L S) (hL : L < 600) (hW : WR S) (hW1 : WR S1) (hW2 : WR S2) (z : Fz S S1 S2) (e1 : f_Yard_hold a c S = some (r1, S1)) (e2 : f_M_hold a c S1 = some (r2, S2)) : Az n np nt L r1 r2 S2 := by
  have core : f_Yard_hold_j19 a c S = some (r1, S1) → f_M_hold_j19 a c S1 = some (r2, S2) → Az n np nt L r1 r2 S2 := fun e1 e2 => by
    rw [f_Yard_hold_j19.eq_1] at e1
    rw [f_M_hold_j19.eq_1] at e2
    exact act_al h hL hW hW1 hW2 z (fun T U V rc b _ _ g1 g2 => chg_body b (R := 25) (d := 7) (f := 5) (Or.inr (Or.inl ⟨rfl, rfl, rfl⟩)) rfl (by decide) g1 g2) e1 e2
  rw [f_Yard_hold.eq_1] at e1
  rw [f_M_hold.eq_1] at e2
  by_cases q0 : c = -4
  · rw [if_pos q0] at e1 e2
    exact core e1 e2
  · rw [if_neg q0] at e1 e2
    rw [in_v, bnd_r] at e1
    by_cases q : inV c 0 999 = 0
    · rw [if_pos q] at e1
      rw [if_neg (in_lo q).1, if_pos (in_lo q).2] at e2
      exact core e1 e2
    · rw [if_neg q] at e1
      rw [in_no q] at e2
      exact az_bad h e1 e2
/-! ===== calls that are no acts ===== -/
def LgP (T U : SS) (L : Nat) : Prop := (L ≤ 600) ∧ (U.1 0 62 = nI L) ∧ (T.1 64 4 = nI (L % 40)) ∧ (T.1 64 5 = nI (min L 40)) ∧ (∀ i, i < 40 → T.1 89 ((i + 1) % 40) = U.1 41 i) ∧ (∀ i, i < 40 → T.1 90 ((i + 1) % 40) = U.1 42 i)
theorem LgP.l6 {T U : SS} {L : Nat} (h_ : LgP T U L) : L ≤ 600 := h_.1
theorem LgP.m {T U : SS} {L : Nat} (h_ : LgP T U L) : U.1 0 62 = nI L := h_.2.1
theorem LgP.c4 {T U : SS} {L : Nat} (h_ : LgP T U L) : T.1 64 4 = nI (L % 40) := h_.2.2.1
theorem LgP.c5 {T U : SS} {L : Nat} (h_ : LgP T U L) : T.1 64 5 = nI (min L 40) := h_.2.2.2.1
theorem LgP.ac {T U : SS} {L : Nat} (h_ : LgP T U L) : ∀ i, i < 40 → T.1 89 ((i + 1) % 40) = U.1 41 i := h_.2.2.2.2.1
theorem LgP.an {T U : SS} {L : Nat} (h_ : LgP T U L) : ∀ i, i < 40 → T.1 90 ((i + 1) % 40) = U.1 42 i := h_.2.2.2.2.2
theorem LgP.mk_ {T U : SS} {L : Nat} (l6_ : L ≤ 600) (m_ : U.1 0 62 = nI L) (c4_ : T.1 64 4 = nI (L % 40)) (c5_ : T.1 64 5 = nI (min L 40)) (ac_ : ∀ i, i < 40 → T.1 89 ((i + 1) % 40) = U.1 41 i) (an_ : ∀ i, i < 40 → T.1 90 ((i + 1) % 40) = U.1 42 i) : LgP T U L := ⟨l6_, m_, c4_, c5_, ac_, an_⟩
/-- the whole relation, for a pair of worlds -/
def Dw (n np nt L : Nat) (T U : SS) : Prop := (Sta n np nt T U) ∧ (Rw n np nt (U.1 3) (U.1 18) (U.1 0 47).toInt (sv U) (T.1 79)) ∧ (TrE T U) ∧ (T.1 68 5 = U.1 0 49) ∧ (∀ i, T.1 76 i = U.1 38 i) ∧ (LgP T U L) ∧ (∃ u b o, U.1 0 60 = nI u ∧ U.1 0 61 = nI b ∧ T.1 64 6 = nI u ∧ T.1 64 7 = nI b ∧ T.1 64 3 = nI o ∧ Kp n np nt (U.1 3) (U.1 18) (U.1 0 47).toInt u b o (U.1 40) (fun i => T.1 (81 + i)))
theorem Dw.s {n np nt L : Nat} {T U : SS} (h_ : Dw n np nt L T U) : Sta n np nt T U := h_.1
theorem Dw.w {n np nt L : Nat} {T U : SS} (h_ : Dw n np nt L T U) : Rw n np nt (U.1 3) (U.1 18) (U.1 0 47).toInt (sv U) (T.1 79) := h_.2.1
theorem Dw.te {n np nt L : Nat} {T U : SS} (h_ : Dw n np nt L T U) : TrE T U := h_.2.2.1
theorem Dw.sr {n np nt L : Nat} {T U : SS} (h_ : Dw n np nt L T U) : T.1 68 5 = U.1 0 49 := h_.2.2.2.1
theorem Dw.ro {n np nt L : Nat} {T U : SS} (h_ : Dw n np nt L T U) : ∀ i, T.1 76 i = U.1 38 i := h_.2.2.2.2.1
theorem Dw.lg {n np nt L : Nat} {T U : SS} (h_ : Dw n np nt L T U) : LgP T U L := h_.2.2.2.2.2.1
theorem Dw.kp {n np nt L : Nat} {T U : SS} (h_ : Dw n np nt L T U) : ∃ u b o, U.1 0 60 = nI u ∧ U.1 0 61 = nI b ∧ T.1 64 6 = nI u ∧ T.1 64 7 = nI b ∧ T.1 64 3 = nI o ∧ Kp n np nt (U.1 3) (U.1 18) (U.1 0 47).toInt u b o (U.1 40) (fun i => T.1 (81 + i)) := h_.2.2.2.2.2.2
theorem Dw.mk_ {n np nt L : Nat} {T U : SS} (s_ : Sta n np nt T U) (w_ : Rw n np nt (U.1 3) (U.1 18) (U.1 0 47).toInt (sv U) (T.1 79)) (te_ : TrE T U) (sr_ : T.1 68 5 = U.1 0 49) (ro_ : ∀ i, T.1 76 i = U.1 38 i) (lg_ : LgP T U L) (kp_ : ∃ u b o, U.1 0 60 = nI u ∧ U.1 0 61 = nI b ∧ T.1 64 6 = nI u ∧ T.1 64 7 = nI b ∧ T.1 64 3 = nI o ∧ Kp n np nt (U.1 3) (U.1 18) (U.1 0 47).toInt u b o (U.1 40) (fun i => T.1 (81 + i))) : Dw n np nt L T U := ⟨s_, w_, te_, sr_, ro_, lg_, kp_⟩
def Fg (S S1 S2 : SS) : Prop := (∀ k i, k ≤ 60 → S1.1 k i = S.1 k i) ∧ (∀ k i, 61 ≤ k → S2.1 k i = S1.1 k i)
theorem Fg.g1 {S S1 S2 : SS} (h_ : Fg S S1 S2) : ∀ k i, k ≤ 60 → S1.1 k i = S.1 k i := h_.1
theorem Fg.g2 {S S1 S2 : SS} (h_ : Fg S S1 S2) : ∀ k i, 61 ≤ k → S2.1 k i = S1.1 k i := h_.2
theorem Fg.mk_ {S S1 S2 : SS} (g1_ : ∀ k i, k ≤ 60 → S1.1 k i = S.1 k i) (g2_ : ∀ k i, 61 ≤ k → S2.1 k i = S1.1 k i) : Fg S S1 S2 := ⟨g1_, g2_⟩
theorem Fz.g {S S1 S2 : SS} (z : Fz S S1 S2) : Fg S S1 S2 := ⟨z.g1, z.g2⟩
theorem sv_low {U W : SS} (h : ∀ k, k ≤ 60 → W.1 k = U.1 k) : sv W = sv U := funext fun j => by
  unfold sv
  rw [h 19 (by decide), h 20 (by decide), h 21 (by decide), h 22 (by decide), h 23 (by decide), h 24 (by decide), h 25 (by decide), h 26 (by decide), h 27 (by decide), h 30 (by decide), h 31 (by decide), h 32 (by decide), h 33 (by decide), h 34 (by decide), h 10 (by decide), h 11 (by decide), h 0 (by decide)]
theorem Dz.dw {n np nt L : Nat} {S : SS} (h : Dz n np nt L S) : Dw n np nt L S S := ⟨h.s, h.r.w, h.e, h.sr, h.ro, ⟨h.l.l6, h.l.m, h.l.c4, h.l.c5, h.l.ac, h.l.an⟩, h.r.k⟩
theorem Dw.dz {n np nt L : Nat} {S : SS} (h : Dw n np nt L S S) : Dz n np nt L S := ⟨⟨h.s.n72, h.s.np40, h.s.nt24, h.s.cn, h.s.mn, h.s.cp, h.s.mp, h.s.ct, h.s.mt, h.w, h.kp⟩, ⟨h.lg.l6, h.lg.m, h.lg.c4, h.lg.c5, h.lg.ac, h.lg.an⟩, h.te, h.s, h.sr, h.ro⟩
theorem Dw.tp {n np nt L : Nat} {T U V W : SS} (h : Dw n np nt L T U) (c : ∀ k, 61 ≤ k → V.1 k = T.1 k) (m : ∀ k, k ≤ 60 → W.1 k = U.1 k) : Dw n np nt L V W := by
  obtain ⟨h1, h2, h3, h4, h5, ⟨l1, l2, l3, l4, l5, l6⟩, u, b, o, k1, k2, k3, k4, k5, k6⟩ := h
  refine ⟨h1.fr (fun k hk => c k (by omega)) (fun k hk => m k (by omega)) (fun i _ => by rw [m 0 (by decide)]), ?_, ⟨?_, fun i => ?_⟩, ?_, fun i => ?_, ⟨l1, ?_, ?_, ?_, fun i hi => ?_, fun i hi => ?_⟩, u, b, o, ?_, ?_, ?_, ?_, ?_, ?_⟩
  · rw [m 3 (by decide), m 18 (by decide), m 0 (by decide), sv_low m, c 79 (by decide)]; exact h2
  · rw [c 62 (by decide), m 0 (by decide)]; exact h3.n
  · rw [c 78 (by decide), m 2 (by decide)]; exact h3.r i
  · rw [c 68 (by decide), m 0 (by decide)]; exact h4
  · rw [c 76 (by decide), m 38 (by decide)]; exact h5 i
  · rw [m 0 (by decide)]; exact l2
  · rw [c 64 (by decide)]; exact l3
  · rw [c 64 (by decide)]; exact l4
  · rw [c 89 (by decide), m 41 (by decide)]; exact l5 i hi
  · rw [c 90 (by decide), m 42 (by decide)]; exact l6 i hi
  · rw [m 0 (by decide)]; exact k1
  · rw [m 0 (by decide)]; exact k2
  · rw [c 64 (by decide)]; exact k3
  · rw [c 64 (by decide)]; exact k4
  · rw [c 64 (by decide)]; exact k5
  · rw [m 3 (by decide), m 18 (by decide), m 0 (by decide), m 40 (by decide), show (fun i => V.1 (81 + i)) = (fun i => T.1 (81 + i)) from funext fun i => c _ (by omega)]; exact k6
theorem Dz.dw1 {n np nt L : Nat} {S S1 S2 : SS} (h : Dz n np nt L S) (z : Fg S S1 S2) : Dw n np nt L S S1 := h.dw.tp (fun _ _ => rfl) (fun k hk => funext fun i => z.g1 k i hk)
theorem Dw.dz2 {n np nt L : Nat} {S S1 S2 : SS} (h : Dw n np nt L S1 S2) (z : Fg S S1 S2) : Dz n np nt L S2 := (h.tp (V := S2) (W := S2) (fun k hk => funext fun i => z.g2 k i hk) (fun _ _ => rfl)).dz
theorem Dw.qz {n np nt L : Nat} {T U V W : SS} (h : Dw n np nt L T U) (q : Qz T U V W) : Dw n np nt L V W := by
  obtain ⟨h1, h2, h3, h4, h5, ⟨l1, l2, l3, l4, l5, l6⟩, u, b, o, k1, k2, k3, k4, k5, k6⟩ := h
  have c : ∀ k, ¬ cdy k → V.1 k = T.1 k := q.cf
  have m : ∀ k, k ≠ 0 → ¬ mdy k → W.1 k = U.1 k := q.mf.r
  have f : ∀ i, ¬ mdf i → W.1 0 i = U.1 0 i := q.mf.f
  have m3 := m 3 (by decide) (by unfold mdy; omega)
  have m18 := m 18 (by decide) (by unfold mdy; omega)
  have f47 := q.f7 47 (by omega)
  refine ⟨h1.cm q.cf q.mf, ?_, q.te, ?_, fun i => ?_, ⟨l1, ?_, ?_, ?_, fun i hi => ?_, fun i hi => ?_⟩, u, b, o, ?_, ?_, ?_, ?_, ?_, ?_⟩
  · rw [m3, m18, f47, q.svE, q.c79]; exact h2
  · rw [q.c68, q.f7 49 (by omega)]; exact h4
  · rw [c 76 (by unfold cdy; omega), m 38 (by decide) (by unfold mdy; omega)]; exact h5 i
  · rw [f 62 (by unfold mdf; omega)]; exact l2
  · rw [c 64 (by unfold cdy; omega)]; exact l3
  · rw [c 64 (by unfold cdy; omega)]; exact l4
  · rw [c 89 (by unfold cdy; omega), m 41 (by decide) (by unfold mdy; omega)]; exact l5 i hi
  · rw [c 90 (by unfold cdy; omega), m 42 (by decide) (by unfold mdy; omega)]; exact l6 i hi
  · rw [f 60 (by unfold mdf; omega)]; exact k1
  · rw [f 61 (by unfold mdf; omega)]; exact k2
  · rw [c 64 (by unfold cdy; omega)]; exact k3
  · rw [c 64 (by unfold cdy; omega)]; exact k4
  · rw [c 64 (by unfold cdy; omega)]; exact k5
  · have e : ∀ i, i < 8 → V.1 (81 + i) = T.1 (81 + i) := fun i hi => c _ (by unfold cdy; omega)
    rw [m3, m18, f47, m 40 (by decide) (by unfold mdy; omega)]
    refine ⟨k6.ub, k6.o8, fun s hs => ?_, fun s hs => ?_⟩
    · have g := k6.un s hs
      show Rw _ _ _ _ _ _ _ (V.1 (81 + (o + s) % 8))
      rw [e ((o + s) % 8) (by omega)]; exact g
    · have g := k6.bk s hs
      show Rw _ _ _ _ _ _ _ (V.1 (81 + (o + u + (b - 1 - s)) % 8))
      rw [e ((o + u + (b - 1 - s)) % 8) (by omega)]; exact g
theorem Dw.begin {n np nt L : Nat} {T U : SS} (h : Dw n np nt L T U) : ∃ T' U', f_Report_begin T = some T' ∧ f_M_begin U = some U' ∧ Dw n np nt L T' U' ∧ (∀ k, k ≠ 62 → T'.1 k = T.1 k) ∧ (∀ k, k ≠ 0 → U'.1 k = U.1 k) ∧ (∀ i, 5 < i → U'.1 0 i = U.1 0 i) := by
  obtain ⟨T', a1, a2, a3⟩ := ba_begin T
  obtain ⟨U', b1, b2, b3, b4⟩ := bm_begin U
  refine ⟨T', U', a1, b1, ?_, a3, b3, b4⟩
  refine h.qz ⟨fun k hk => a3 k (by unfold cdy at hk; omega), ⟨fun k k0 _ => b3 k k0, fun i hi => b4 i (by unfold mdf at hi; omega)⟩, a3 79 (by decide), by rw [a3 68 (by decide)], fun k hk => b3 k (by omega), fun i hi => b4 i (by omega), ⟨by rw [a2, b2], fun i => by rw [a3 78 (by decide), b3 2 (by decide)]; exact h.te.r i⟩⟩
theorem Dw.bo {n np nt L : Nat} {T U : SS} (h : Dw n np nt L T U) (hU : WR U) : Bo n np nt T U := by
  have hn := h.s.n72
  have hp := h.s.np40
  refine ⟨h.s, h.w, fun x hx => ?_, h.te.n, h.te.r, h.sr, fun p hp' => rg_n (b := 2) (by omega) (ro_10 hU p), ?_, fun x hx => rg_n (b := 9) (by omega) (ro_27 hU x), fun x hx => rg_n (b := 50) (by omega) (ro_26 hU x)⟩
  · obtain ⟨k, k1, k2⟩ := rg_n (b := 1) (by omega) (ro_22 hU x)
    exact ⟨k, by omega, k2⟩
  · obtain ⟨n', hn', h29, hA, -⟩ := hU.2.1
    have : n = n' := nI_inj (by omega) (by omega) (h.s.mn.symm.trans h29)
    subst this
    exact hA
/-- the relation of both worlds behind a call -/
def Ay (L : Nat) (r1 r2 : Int32) (S2 : SS) : Prop := r1 = r2 ∧ ∃ n np nt L', L' ≤ L + 1 ∧ Dz n np nt L' S2
theorem Az.y {n np nt L : Nat} {r1 r2 : Int32} {S2 : SS} (h : Az n np nt L r1 r2 S2) : Ay L r1 r2 S2 := ⟨h.1, n, np, nt, h.2⟩
theorem ay_bad {n np nt L : Nat} {S S1 S2 : SS} {r1 r2 v : Int32} (h : Dz n np nt L S) (e1 : some (v, S) = some (r1, S1)) (e2 : some (v, S1) = some (r2, S2)) : Ay L r1 r2 S2 := (az_bad h e1 e2).y
/-- a call that begins -/
theorem beg_al {n np nt L : Nat} {S S1 S2 : SS} {r1 r2 : Int32} {gC gM : SS → Option (Int32 × SS)} (h : Dz n np nt L S) (hW1 : WR S1) (z : Fg S S1 S2)
    (body : ∀ (T U : SS), Bo n np nt T U → Dw n np nt L T U → WR U → gC T = some (r1, S1) → gM U = some (r2, S2) → r1 = r2 ∧ ∃ n' np' nt', Dw n' np' nt' L S1 S2)
    (e1 : bndv (f_Report_begin S) gC = some (r1, S1)) (e2 : bndv (f_M_begin S1) gM = some (r2, S2)) : Ay L r1 r2 S2 := by
  obtain ⟨T, U, eT, eU, d, -, -, -⟩ := (h.dw1 z).begin
  rw [eT, bndv_r] at e1
  rw [eU, bndv_r] at e2
  obtain ⟨U', eU', wU, -⟩ := t_M_begin hW1
  rw [eU] at eU'
  injection eU' with eU'
  subst eU'
  obtain ⟨q1, n', np', nt', d'⟩ := body T U (d.bo wU) d wU e1 e2
  exact ⟨q1, n', np', nt', L, by omega, d'.dz2 z⟩
theorem ask_al {n np nt L : Nat} {S S1 S2 : SS} {r1 r2 : Int32} {gC gM : SS → Option (Int32 × SS)} (h : Dz n np nt L S) (hW1 : WR S1) (z : Fg S S1 S2)
    (body : ∀ (T U : SS), Bo n np nt T U → gC T = some (r1, S1) → gM U = some (r2, S2) → r1 = r2 ∧ Qz T U S1 S2)
    (e1 : bndv (f_Report_begin S) gC = some (r1, S1)) (e2 : bndv (f_M_begin S1) gM = some (r2, S2)) : Ay L r1 r2 S2 := beg_al h hW1 z (fun T U b d _ g1 g2 => by
  obtain ⟨q1, q2⟩ := body T U b g1 g2
  exact ⟨q1, n, np, nt, d.qz q2⟩) e1 e2
/-- a FINDING on both sides -/
theorem fnd_al {n np nt : Nat} {T U V W S1 S2 : SS} {kc km qc qm r1 r2 : Int32} (b : Bo n np nt T U) (l : f_Report_found kc T = some (qc, V)) (hr : ¬ km = 0) (m2 : f_M_ends km U = some (qm, W)) (e1 : some (qc, V) = some (r1, S1)) {g : Option (Int32 × SS)} (h2 : (if qm = 0 then g else some ((-2 : Int32), W)) = some (r2, S2)) : r1 = r2 ∧ Qz T U S1 S2 := by
  obtain ⟨rfl, rfl⟩ := so_i e1
  obtain ⟨rfl, qf⟩ := fnd_c l
  rcases ends_i m2 with ⟨z, -, -⟩ | ⟨-, z, q5⟩
  · exact absurd z hr
  · rw [if_neg z] at h2
    obtain ⟨rfl, rfl⟩ := so_i h2
    exact ⟨rfl, Qz.of b.te qf q5⟩
/-- the other FINDING: found -/
theorem fnd2_al {n np nt : Nat} {T U S1 S2 : SS} {kc km r1 r2 : Int32} (b : Bo n np nt T U) (l : bnd (f_Report_found kc T) (fun r S => some (r, S)) = some (r1, S1)) (m : bnd (f_M_found km U) (fun r S => some (r, S)) = some (r2, S2)) : r1 = r2 ∧ Qz T U S1 S2 := by
  replace l := bnd_i l
  obtain ⟨q, V, l, e⟩ := l
  obtain ⟨rfl, rfl⟩ := so_i e
  replace m := bnd_i m
  obtain ⟨q', W, m, e⟩ := m
  obtain ⟨rfl, rfl⟩ := so_i e
  obtain ⟨rfl, qf⟩ := fnd_c l
  obtain ⟨rfl, qg⟩ := fnd_m m
  exact ⟨rfl, Qz.of b.te qf qg⟩
/-! ===== what is asked ===== -/
theorem tf_al {n np nt : Nat} {T U : SS} (b : Bo n np nt T U) (a : Int32) : (∃ t q, t < nt ∧ a = nI t ∧ U.1 3 t = nI q ∧ 1 ≤ q ∧ q ≤ 24 ∧ f_Layout_trackFinding a T = some (0, T) ∧ f_M_missTrack a U = some (0, U)) ∨ (∃ r, ¬ r = 0 ∧ f_Layout_trackFinding a T = some (r, T) ∧ f_M_missTrack a U = some (r, U)) := by
  have hp := b.s.nt24
  rw [f_Layout_trackFinding.eq_1, f_M_missTrack.eq_1, b.s.ct, b.s.mt]
  by_cases c0 : a < 0
  · rw [if_pos c0, if_pos c0]; exact Or.inr ⟨3, by decide, rfl, rfl⟩
  · rw [if_neg c0, if_neg c0]
    by_cases c1 : a < (24 : Int32)
    · rw [if_pos c1, if_pos c1]
      obtain ⟨p, hp', rfl⟩ := lt_e (k := 24) (by omega) c0 c1
      by_cases d : p < nt
      · rw [if_neg (nI_ge d (by omega)), if_pos ((nI_ltJ (by omega) (by omega)).mpr d)]
        obtain ⟨q, q1, q2, q3⟩ := b.s.pl p d
        exact Or.inl ⟨p, q, d, rfl, q3, q1, q2, rfl, rfl⟩
      · rw [if_pos (nI_le (by omega) (by omega)), if_neg (fun z => d ((nI_ltJ (by omega) (by omega)).mp z))]
        exact Or.inr ⟨1, by decide, rfl, rfl⟩
    · rw [if_neg c1, if_neg c1]; exact Or.inr ⟨3, by decide, rfl, rfl⟩
theorem plf_al {n np nt : Nat} {T U : SS} (b : Bo n np nt T U) (a c : Int32) : (∃ t p q, t < nt ∧ a = nI t ∧ c = nI p ∧ U.1 3 t = nI q ∧ q ≤ 24 ∧ p < q ∧ f_Layout_placeFinding a c T = some (0, T) ∧ f_M_missPlace a c U = some (0, U)) ∨ (∃ r, ¬ r = 0 ∧ f_Layout_placeFinding a c T = some (r, T) ∧ f_M_missPlace a c U = some (r, U)) := by
  have hp := b.s.nt24
  rw [f_Layout_placeFinding.eq_1, f_M_missPlace.eq_1]
  rcases tf_al b a with ⟨t, q, ht, rfl, hq, q1, q2, c1, c2⟩ | ⟨r, hr, c1, c2⟩
  · rw [c1, c2, bnd_r, bnd_r, if_pos rfl, if_pos rfl]
    by_cases c0 : c < 0
    · rw [if_pos c0, if_pos c0]; exact Or.inr ⟨3, by decide, rfl, rfl⟩
    · rw [if_neg c0, if_neg c0, c_places b ht hq, bnd_r, grT (inb_nI (by omega) (by omega)), nI_clamp (by omega), hq]
      by_cases d : c < nI q
      · rw [if_pos d, if_pos d]
        obtain ⟨p, hp', rfl⟩ := lt_e (k := q) (by omega) c0 d
        exact Or.inl ⟨t, p, q, ht, rfl, rfl, hq, q2, hp', rfl, rfl⟩
      · rw [if_neg d, if_neg d]; exact Or.inr ⟨3, by decide, rfl, rfl⟩
  · rw [c1, c2, bnd_r, bnd_r, if_neg hr, if_neg hr]
    exact Or.inr ⟨r, hr, rfl, rfl⟩
theorem at_st {n np nt L : Nat} {S S1 S2 : SS} {a1 a2 r1 r2 : Int32} (h : Dz n np nt L S) (hW1 : WR S1) (z : Fg S S1 S2) (e1 : f_Yard_at a1 a2 S = some (r1, S1)) (e2 : f_M_at a1 a2 S1 = some (r2, S2)) : Ay L r1 r2 S2 := by
  rw [f_Yard_at.eq_1] at e1
  rw [f_M_at.eq_1] at e2
  refine ask_al h hW1 z (fun T U b g1 g2 => ?_) e1 e2
  rcases plf_al b a1 a2 with ⟨t, p, q, ht, rfl, rfl, hq, q2, hp, c1, c2⟩ | ⟨r, hr, c1, c2⟩
  · rw [c1, bnd_r, if_pos rfl, f_Layout_spot.eq_1, bnd_r, nM24, nI_add] at g1
    rw [c2, bnd_r, ends_0, bnd_r, if_pos rfl] at g2
    replace g1 := bnd_i g1
    obtain ⟨r7, T1, s1, g1⟩ := g1
    obtain ⟨rfl, rfl⟩ := so_i g1
    replace g2 := bnd_i g2
    obtain ⟨r8, U1, s2, g2⟩ := g2
    obtain ⟨rfl, rfl⟩ := so_i g2
    obtain ⟨rfl, rfl, rfl, -⟩ := stand_al b ht hp q2 s1 s2
    exact ⟨rfl, Qz.rf b⟩
  · rw [c1, bnd_r, if_neg hr] at g1
    replace g1 := bnd_i g1
    obtain ⟨q, V, l, g1⟩ := g1
    rw [c2, bnd_r] at g2
    replace g2 := bnd_i g2
    obtain ⟨q', W, m2, g2⟩ := g2
    exact fnd_al b l hr m2 g1 g2
theorem thing_st {n np nt L : Nat} {S S1 S2 : SS} {a1 a2 r1 r2 : Int32} (h : Dz n np nt L S) (hW1 : WR S1) (z : Fg S S1 S2) (e1 : f_Yard_thing a1 a2 S = some (r1, S1)) (e2 : f_M_thing a1 a2 S1 = some (r2, S2)) : Ay L r1 r2 S2 := by
  rw [f_Yard_thing.eq_1, in_v, bnd_r] at e1
  rw [f_M_thing.eq_1] at e2
  by_cases q : inV a2 0 10 = 0
  · rw [if_pos q] at e1
    rw [if_neg (in_lo q).1, if_pos (in_lo q).2] at e2
    obtain ⟨w, -, hw, rfl⟩ := in_n (l := 0) (h := 10) rfl rfl (by omega) (by omega) q
    refine ask_al h hW1 z (fun T U b g1 g2 => ?_) e1 e2
    have h72 := b.s.n72
    rcases named_al b a1 (w := 127) (v := 0) (by decide) with ⟨x, hx, rfl, p1, p2, c1, c2⟩ | ⟨r, r', n1, nn2, c1, c2⟩
    · rw [c1, bnd_r, if_pos rfl] at g1
      rw [c2, bnd_r, ends_0, bnd_r, if_pos rfl] at g2
      have tx := b.w.th x hx
      obtain ⟨t, p, q', ht, hq, hq2, hp, e20, e21, e79⟩ := b.pos hx p1
      have hnt := b.s.nt24
      rcases (show w = 0 ∨ w = 1 ∨ w = 2 ∨ w = 3 ∨ w = 4 ∨ w = 5 ∨ w = 6 ∨ w = 7 ∨ w = 8 ∨ w = 9 ∨ w = 10 by omega) with rfl | rfl | rfl | rfl | rfl | rfl | rfl | rfl | rfl | rfl | rfl
      · rw [if_pos (by decide), stg (f := 0) 0 rfl (by omega) (by omega), bnd_r, Nat.add_zero, (b.kc x hx).1] at g1
        rw [if_pos (by decide), grT (inb_nI (by omega) (by omega)), nI_clamp (by omega), (b.km x hx).1] at g2
        obtain ⟨rfl, rfl⟩ := so_i g1
        obtain ⟨rfl, rfl⟩ := so_i g2
        exact ⟨rfl, Qz.rf b⟩
      · rw [if_neg (by decide), if_pos (by decide), sg (f := 0) 0 rfl b.s.cn h72 hx (by omega), bnd_r, Nat.add_zero, e79, f_Layout_trackOf.eq_1, bnd_r, n_d24 (by omega), show (24 * t + p) / 24 = t by omega] at g1
        rw [if_neg (by decide), if_pos (by decide), grT (inb_nI (by omega) (by omega)), nI_clamp (by omega), e20] at g2
        obtain ⟨rfl, rfl⟩ := so_i g1
        obtain ⟨rfl, rfl⟩ := so_i g2
        exact ⟨rfl, Qz.rf b⟩
      · rw [if_neg (by decide), if_neg (by decide), if_pos (by decide), sg (f := 0) 0 rfl b.s.cn h72 hx (by omega), bnd_r, Nat.add_zero, e79, f_Layout_placeOf.eq_1, bnd_r, n_r24 (by omega), show (24 * t + p) % 24 = p by omega] at g1
        rw [if_neg (by decide), if_neg (by decide), if_pos (by decide), grT (inb_nI (by omega) (by omega)), nI_clamp (by omega), e21] at g2
        obtain ⟨rfl, rfl⟩ := so_i g1
        obtain ⟨rfl, rfl⟩ := so_i g2
        exact ⟨rfl, Qz.rf b⟩
      · have e := tx.look
        rw [sv_3 U (by omega)] at e
        rw [if_neg (by decide), if_neg (by decide), if_neg (by decide), if_pos (by decide), sg (f := 1) 1 rfl b.s.cn h72 hx (by omega), bnd_r, e] at g1
        rw [if_neg (by decide), if_neg (by decide), if_neg (by decide), if_pos (by decide), grT (inb_nI (by omega) (by omega)), nI_clamp (by omega)] at g2
        obtain ⟨rfl, rfl⟩ := so_i g1
        obtain ⟨rfl, rfl⟩ := so_i g2
        exact ⟨rfl, Qz.rf b⟩
      · have e := tx.m0
        rw [sv_4 U (by omega)] at e
        rw [if_neg (by decide), if_neg (by decide), if_neg (by decide), if_neg (by decide), if_pos (by decide), sg (f := 2) 2 rfl b.s.cn h72 hx (by omega), bnd_r, e] at g1
        rw [if_neg (by decide), if_neg (by decide), if_neg (by decide), if_neg (by decide), if_pos (by decide), nM2, grT (inb_nI (by omega) (by omega)), nI_clamp (by omega)] at g2
        obtain ⟨rfl, rfl⟩ := so_i g1
        obtain ⟨rfl, rfl⟩ := so_i g2
        exact ⟨rfl, Qz.rf b⟩
      · have e := tx.m1
        rw [sv_5 U (by omega)] at e
        rw [if_neg (by decide), if_neg (by decide), if_neg (by decide), if_neg (by decide), if_neg (by decide), if_pos (by decide), sg (f := 3) 3 rfl b.s.cn h72 hx (by omega), bnd_r, e] at g1
        rw [if_neg (by decide), if_neg (by decide), if_neg (by decide), if_neg (by decide), if_neg (by decide), if_pos (by decide), nM2, nI_1, grT (inb_nI (by omega) (by omega)), nI_clamp (by omega)] at g2
        obtain ⟨rfl, rfl⟩ := so_i g1
        obtain ⟨rfl, rfl⟩ := so_i g2
        exact ⟨rfl, Qz.rf b⟩
      · have e := tx.ser
        rw [sv_6 U (by omega)] at e
        rw [if_neg (by decide), if_neg (by decide), if_neg (by decide), if_neg (by decide), if_neg (by decide), if_neg (by decide), if_pos (by decide), sg (f := 4) 4 rfl b.s.cn h72 hx (by omega), bnd_r, e] at g1
        rw [if_neg (by decide), if_neg (by decide), if_neg (by decide), if_neg (by decide), if_neg (by decide), if_neg (by decide), if_pos (by decide), grT (inb_nI (by omega) (by omega)), nI_clamp (by omega)] at g2
        obtain ⟨rfl, rfl⟩ := so_i g1
        obtain ⟨rfl, rfl⟩ := so_i g2
        exact ⟨rfl, Qz.rf b⟩
      · have e := tx.flt
        rw [sv_7 U (by omega)] at e
        rw [if_neg (by decide), if_neg (by decide), if_neg (by decide), if_neg (by decide), if_neg (by decide), if_neg (by decide), if_neg (by decide), if_pos (by decide), sg (f := 5) 5 rfl b.s.cn h72 hx (by omega), bnd_r, e] at g1
        rw [if_neg (by decide), if_neg (by decide), if_neg (by decide), if_neg (by decide), if_neg (by decide), if_neg (by decide), if_neg (by decide), if_pos (by decide), grT (inb_nI (by omega) (by omega)), nI_clamp (by omega)] at g2
        obtain ⟨rfl, rfl⟩ := so_i g1
        obtain ⟨rfl, rfl⟩ := so_i g2
        exact ⟨rfl, Qz.rf b⟩
      · have e := tx.jam
        rw [sv_8 U (by omega)] at e
        rw [if_neg (by decide), if_neg (by decide), if_neg (by decide), if_neg (by decide), if_neg (by decide), if_neg (by decide), if_neg (by decide), if_neg (by decide), if_pos (by decide), sg (f := 6) 6 rfl b.s.cn h72 hx (by omega), bnd_r, e] at g1
        rw [if_neg (by decide), if_neg (by decide), if_neg (by decide), if_neg (by decide), if_neg (by decide), if_neg (by decide), if_neg (by decide), if_neg (by decide), if_pos (by decide), grT (inb_nI (by omega) (by omega)), nI_clamp (by omega)] at g2
        obtain ⟨rfl, rfl⟩ := so_i g1
        obtain ⟨rfl, rfl⟩ := so_i g2
        exact ⟨rfl, Qz.rf b⟩
      · have e := tx.run
        rw [sv_10 U (by omega)] at e
        rw [if_neg (by decide), if_neg (by decide), if_neg (by decide), if_neg (by decide), if_neg (by decide), if_neg (by decide), if_neg (by decide), if_neg (by decide), if_neg (by decide), if_pos (by decide), sg (f := 8) 8 rfl b.s.cn h72 hx (by omega), bnd_r, e] at g1
        rw [if_neg (by decide), if_neg (by decide), if_neg (by decide), if_neg (by decide), if_neg (by decide), if_neg (by decide), if_neg (by decide), if_neg (by decide), if_neg (by decide), if_pos (by decide), grT (inb_nI (by omega) (by omega)), nI_clamp (by omega)] at g2
        obtain ⟨rfl, rfl⟩ := so_i g1
        obtain ⟨rfl, rfl⟩ := so_i g2
        exact ⟨rfl, Qz.rf b⟩
      · have e := tx.tst
        rw [sv_14 U (by omega)] at e
        rw [if_neg (by decide), if_neg (by decide), if_neg (by decide), if_neg (by decide), if_neg (by decide), if_neg (by decide), if_neg (by decide), if_neg (by decide), if_neg (by decide), if_neg (by decide), sg (f := 10) 10 rfl b.s.cn h72 hx (by omega), bnd_r, e] at g1
        rw [if_neg (by decide), if_neg (by decide), if_neg (by decide), if_neg (by decide), if_neg (by decide), if_neg (by decide), if_neg (by decide), if_neg (by decide), if_neg (by decide), if_neg (by decide), grT (inb_nI (by omega) (by omega)), nI_clamp (by omega)] at g2
        by_cases y : U.1 34 x = 0
        · rw [if_pos y] at g1 g2
          obtain ⟨rfl, rfl⟩ := so_i g1
          obtain ⟨rfl, rfl⟩ := so_i g2
          exact ⟨rfl, Qz.rf b⟩
        · rw [if_neg y] at g1 g2
          obtain ⟨rfl, rfl⟩ := so_i g1
          obtain ⟨rfl, rfl⟩ := so_i g2
          exact ⟨rfl, Qz.rf b⟩
    · rw [c1, bnd_r, if_neg n1] at g1
      replace g1 := bnd_i g1
      obtain ⟨q, V, l, g1⟩ := g1
      rw [c2, bnd_r] at g2
      replace g2 := bnd_i g2
      obtain ⟨q', W, m2, g2⟩ := g2
      exact fnd_al b l nn2 m2 g1 g2
  · rw [if_neg q] at e1
    rw [in_no q] at e2
    exact ay_bad h e1 e2
theorem pointed_st {n np nt L : Nat} {S S1 S2 : SS} {a1 a2 r1 r2 : Int32} (h : Dz n np nt L S) (hW1 : WR S1) (z : Fg S S1 S2) (e1 : f_Yard_pointed a1 a2 S = some (r1, S1)) (e2 : f_M_pointed a1 a2 S1 = some (r2, S2)) : Ay L r1 r2 S2 := by
  rw [f_Yard_pointed.eq_1, in_v, bnd_r] at e1
  rw [f_M_pointed.eq_1] at e2
  by_cases q : inV a2 0 4 = 0
  · rw [if_pos q] at e1
    rw [if_neg (in_lo q).1, if_pos (in_lo q).2] at e2
    obtain ⟨w, -, hw, rfl⟩ := in_n (l := 0) (h := 4) rfl rfl (by omega) (by omega) q
    refine ask_al h hW1 z (fun T U b g1 g2 => ?_) e1 e2
    have hnp := b.s.np40
    have hnt := b.s.nt24
    rcases pt_al b a1 with ⟨p, hp, rfl, c1, c2⟩ | ⟨r, hr, c1, c2⟩
    · obtain ⟨e, he, ee⟩ := b.s.pe p hp
      rw [c1, bnd_r, if_pos rfl, c_endOf b hp ee, bnd_r] at g1
      rw [c2, bnd_r, ends_0, bnd_r, if_pos rfl] at g2
      rcases (show w = 0 ∨ w = 1 ∨ w = 2 ∨ w = 3 ∨ w = 4 by omega) with rfl | rfl | rfl | rfl | rfl
      · rw [if_pos (by decide), n_shr (by omega)] at g1
        rw [if_pos (by decide), grT (inb_nI (by omega) (by omega)), nI_clamp (by omega), ee, n_d2 (by omega)] at g2
        obtain ⟨rfl, rfl⟩ := so_i g1
        obtain ⟨rfl, rfl⟩ := so_i g2
        exact ⟨rfl, Qz.rf b⟩
      · rw [if_neg (by decide), if_pos (by decide), n_and (by omega)] at g1
        rw [if_neg (by decide), if_pos (by decide), grT (inb_nI (by omega) (by omega)), nI_clamp (by omega), ee, n_r2 (by omega)] at g2
        obtain ⟨rfl, rfl⟩ := so_i g1
        obtain ⟨rfl, rfl⟩ := so_i g2
        exact ⟨rfl, Qz.rf b⟩
      · rw [if_neg (by decide), if_neg (by decide), if_pos (by decide), c_links b (by omega), bnd_r] at g1
        rw [if_neg (by decide), if_neg (by decide), if_pos (by decide), grT (inb_nI (by omega) (by omega)), nI_clamp (n := p) (by omega), ee, grT (inb_nI (by omega) (by omega)), nI_clamp (by omega)] at g2
        obtain ⟨rfl, rfl⟩ := so_i g1
        obtain ⟨rfl, rfl⟩ := so_i g2
        exact ⟨rfl, Qz.rf b⟩
      · rw [if_neg (by decide), if_neg (by decide), if_neg (by decide), if_pos (by decide), c_setting b hp, bnd_r] at g1
        rw [if_neg (by decide), if_neg (by decide), if_neg (by decide), if_pos (by decide), grT (inb_nI (by omega) (by omega)), nI_clamp (by omega)] at g2
        obtain ⟨rfl, rfl⟩ := so_i g1
        obtain ⟨rfl, rfl⟩ := so_i g2
        exact ⟨rfl, Qz.rf b⟩
      · rw [if_neg (by decide), if_neg (by decide), if_neg (by decide), if_neg (by decide), c_locker b hp, bnd_r] at g1
        rw [if_neg (by decide), if_neg (by decide), if_neg (by decide), if_neg (by decide), grT (inb_nI (by omega) (by omega)), nI_clamp (by omega)] at g2
        obtain ⟨rfl, rfl⟩ := so_i g1
        obtain ⟨rfl, rfl⟩ := so_i g2
        exact ⟨rfl, Qz.rf b⟩
    · rw [c1, bnd_r, if_neg hr] at g1
      replace g1 := bnd_i g1
      obtain ⟨q, V, l, g1⟩ := g1
      rw [c2, bnd_r] at g2
      replace g2 := bnd_i g2
      obtain ⟨q', W, m2, g2⟩ := g2
      exact fnd_al b l hr m2 g1 g2
  · rw [if_neg q] at e1
    rw [in_no q] at e2
    exact ay_bad h e1 e2
theorem ask_st {n np nt L : Nat} {S S1 S2 : SS} {a1 a2 r1 r2 : Int32} (h : Dz n np nt L S) (hW1 : WR S1) (z : Fg S S1 S2) (e1 : f_Yard_ask a1 a2 S = some (r1, S1)) (e2 : f_M_ask a1 a2 S1 = some (r2, S2)) : Ay L r1 r2 S2 := by
  rw [f_Yard_ask.eq_1, in_v, bnd_r] at e1
  rw [f_M_ask.eq_1] at e2
  by_cases q : inV a2 0 7 = 0
  · rw [if_pos q] at e1
    rw [if_neg (in_lo q).1, if_pos (in_lo q).2] at e2
    obtain ⟨w, -, hw, rfl⟩ := in_n (l := 0) (h := 7) rfl rfl (by omega) (by omega) q
    refine ask_al h hW1 z (fun T U b g1 g2 => ?_) e1 e2
    have h72 := b.s.n72
    rw [f_Yard_wantedFor.eq_1] at g1
    have core : ∀ (wn vn : Int32), (wn, vn) ∈ wpr → bnd (f_Yard_named a1 wn T) (fun r7 S6 => if r7 = 0 then if nI w = (6 : Int32) then bnd (f_Stock_get a1 (3 : Int32) S6) (fun r29 S28 => if r29 = (-4 : Int32) then f_Yard_ask_j55 a1 (nI w) (1 : Int32) S28 else f_Yard_ask_j55 a1 (nI w) r7 S28) else f_Yard_ask_j55 a1 (nI w) r7 S6 else f_Yard_ask_j55 a1 (nI w) r7 S6) = some (r1, S1) → f_M_ask_j55 a1 (nI w) vn U = some (r2, S2) → r1 = r2 ∧ Qz T U S1 S2 := fun wn vn hwv g1 g2 => by
      rw [f_M_ask_j55.eq_1] at g2
      rcases named_al b a1 hwv with ⟨x, hx, rfl, p1, p2, c1, c2⟩ | ⟨r, r', n1, nn2, c1, c2⟩
      · rw [c1, bnd_r, if_pos rfl] at g1
        rw [c2, bnd_r, ends_0, bnd_r, if_pos rfl] at g2
        obtain ⟨k, a, s, m, k2⟩ := (b.s.sk x hx).two
        rcases (show w = 0 ∨ w = 1 ∨ w = 2 ∨ w = 3 ∨ w = 4 ∨ w = 5 ∨ w = 6 ∨ w = 7 by omega) with rfl | rfl | rfl | rfl | rfl | rfl | rfl | rfl
        · rw [if_neg (show ¬ nI 0 = (6 : Int32) by decide), f_Yard_ask_j55.eq_1, if_pos rfl, if_pos (by decide)] at g1
          rw [if_pos (by decide)] at g2
          replace g1 := bnd_i g1
          obtain ⟨ra, T1, s1, g1⟩ := g1
          obtain ⟨rfl, rfl⟩ := so_i g1
          replace g2 := bnd_i g2
          obtain ⟨rb, U1, s2, g2⟩ := g2
          obtain ⟨rfl, rfl⟩ := so_i g2
          obtain ⟨e, -, t⟩ := weight_al (by omega) b.te k2 s1 s2
          exact ⟨e, t.q⟩
        · rw [if_neg (show ¬ nI 1 = (6 : Int32) by decide), f_Yard_ask_j55.eq_1, if_pos rfl, if_neg (by decide), if_pos (by decide)] at g1
          rw [if_neg (by decide), if_pos (by decide)] at g2
          replace g1 := bnd_i g1
          obtain ⟨ra, T1, s1, g1⟩ := g1
          obtain ⟨rfl, rfl⟩ := so_i g1
          replace g2 := bnd_i g2
          obtain ⟨rb, U1, s2, g2⟩ := g2
          obtain ⟨rfl, rfl⟩ := so_i g2
          obtain ⟨e, -, t⟩ := brake_al (by omega) b.te k2 s1 s2
          exact ⟨e, t.q⟩
        · rw [if_neg (show ¬ nI 2 = (6 : Int32) by decide), f_Yard_ask_j55.eq_1, if_pos rfl, if_neg (by decide), if_neg (by decide), if_pos (by decide)] at g1
          rw [if_neg (by decide), if_neg (by decide), if_pos (by decide)] at g2
          replace g1 := bnd_i g1
          obtain ⟨ra, T1, s1, g1⟩ := g1
          obtain ⟨rfl, rfl⟩ := so_i g1
          replace g2 := bnd_i g2
          obtain ⟨rb, U1, s2, g2⟩ := g2
          obtain ⟨rfl, rfl⟩ := so_i g2
          obtain ⟨e, -, t⟩ := heavy_al (by omega) b.te k2 s1 s2
          exact ⟨e, t.q⟩
        · rw [if_neg (show ¬ nI 3 = (6 : Int32) by decide), f_Yard_ask_j55.eq_1, if_pos rfl, if_neg (by decide), if_neg (by decide), if_neg (by decide), if_pos (by decide)] at g1
          rw [if_neg (by decide), if_neg (by decide), if_neg (by decide), if_pos (by decide)] at g2
          replace g1 := bnd_i g1
          obtain ⟨ra, T1, s1, g1⟩ := g1
          replace g1 := bnd_i g1
          obtain ⟨rz, T2, s3, g1⟩ := g1
          obtain ⟨rfl, rfl⟩ := so_i g1
          replace g2 := bnd_i g2
          obtain ⟨rb, U1, s2, g2⟩ := g2
          obtain ⟨e, t⟩ := perAxle_al (by omega) b.te k2 s1 s2
          rw [f_Yard_orZero.eq_1] at s3
          rcases e with ⟨y1, y2⟩ | ⟨y1, y3, y2⟩
          · rw [if_pos y1] at s3
            rw [if_neg y2] at g2
            have q2 := fnd2_al (b.q t.q) s3 g2
            exact ⟨q2.1, t.q.tr q2.2⟩
          · rw [if_neg y1] at s3
            rw [if_pos y2] at g2
            obtain ⟨rfl, rfl⟩ := so_i s3
            obtain ⟨rfl, rfl⟩ := so_i g2
            exact ⟨y3, t.q⟩
        · rw [if_neg (show ¬ nI 4 = (6 : Int32) by decide), f_Yard_ask_j55.eq_1, if_pos rfl, if_neg (by decide), if_neg (by decide), if_neg (by decide), if_neg (by decide), if_pos (by decide)] at g1
          rw [if_neg (by decide), if_neg (by decide), if_neg (by decide), if_neg (by decide), if_pos (by decide)] at g2
          replace g1 := bnd_i g1
          obtain ⟨ra, T1, s1, g1⟩ := g1
          obtain ⟨rfl, rfl⟩ := so_i g1
          replace g2 := bnd_i g2
          obtain ⟨rb, U1, s2, g2⟩ := g2
          obtain ⟨rfl, rfl⟩ := so_i g2
          obtain ⟨e, -, t⟩ := pulls_al b.bd hx s1 s2
          exact ⟨e, t.q⟩
        · obtain ⟨d, d1, d2, d3⟩ := b.bd.dg x hx
          rw [if_neg (show ¬ nI 5 = (6 : Int32) by decide), f_Yard_ask_j55.eq_1, if_pos rfl, if_neg (by decide), if_neg (by decide), if_neg (by decide), if_neg (by decide), if_neg (by decide), if_pos (by decide), sg (f := 7) 7 rfl b.s.cn h72 hx (by omega), bnd_r, d3] at g1
          rw [if_neg (by decide), if_neg (by decide), if_neg (by decide), if_neg (by decide), if_neg (by decide), if_pos (by decide), grT (inb_nI (by omega) (by omega)), nI_clamp (by omega), d2] at g2
          obtain ⟨rfl, rfl⟩ := so_i g1
          obtain ⟨rfl, rfl⟩ := so_i g2
          exact ⟨rfl, Qz.rf b⟩
        · rw [if_pos (show nI 6 = (6 : Int32) by decide), stg (f := 3) 3 rfl (by omega) (by omega), bnd_r] at g1
          rw [if_neg (by decide), if_neg (by decide), if_neg (by decide), if_neg (by decide), if_neg (by decide), if_neg (by decide), if_pos (by decide), grT (inb_nI (by omega) (by omega)), nI_clamp (by omega)] at g2
          rcases (b.s.sk x hx).ld with ⟨l1, l2, l3, l4⟩ | ⟨m', s', m1, q1, l1, l2, l3, l4, l5, l6⟩
          · rw [if_pos l1, f_Yard_ask_j55.eq_1, if_neg (by decide)] at g1
            rw [if_pos l2] at g2
            exact fnd2_al b g1 g2
          · rw [l3, if_neg (nI_m4 (by omega)), f_Yard_ask_j55.eq_1, if_pos rfl, if_neg (by decide), if_neg (by decide), if_neg (by decide), if_neg (by decide), if_neg (by decide), if_neg (by decide), if_pos (by decide), stg (f := 4) 4 rfl (by omega) (by omega), bnd_r, l2] at g1
            rw [l1, if_neg (nI_m4 (by omega)), grT (inb_nI (by omega) (by omega))] at g2
            obtain ⟨rfl, rfl⟩ := so_i g1
            obtain ⟨rfl, rfl⟩ := so_i g2
            exact ⟨rfl, Qz.rf b⟩
        · rw [if_neg (show ¬ nI 7 = (6 : Int32) by decide), f_Yard_ask_j55.eq_1, if_pos rfl, if_neg (by decide), if_neg (by decide), if_neg (by decide), if_neg (by decide), if_neg (by decide), if_neg (by decide), if_neg (by decide), stg (f := 1) 1 rfl (by omega) (by omega), bnd_r, k2.ca] at g1
          rw [if_neg (by decide), if_neg (by decide), if_neg (by decide), if_neg (by decide), if_neg (by decide), if_neg (by decide), if_neg (by decide), grT (inb_nI (by omega) (by omega)), nI_clamp (by omega), k2.ma] at g2
          obtain ⟨rfl, rfl⟩ := so_i g1
          obtain ⟨rfl, rfl⟩ := so_i g2
          exact ⟨rfl, Qz.rf b⟩
      · rw [c1, bnd_r, if_neg n1, f_Yard_ask_j55.eq_1, if_neg n1] at g1
        replace g1 := bnd_i g1
        obtain ⟨q, V, l, g1⟩ := g1
        rw [c2, bnd_r] at g2
        replace g2 := bnd_i g2
        obtain ⟨q', W, m2, g2⟩ := g2
        exact fnd_al b l nn2 m2 g1 g2
    by_cases w4 : nI w = 4
    · rw [if_pos w4, bnd_r] at g1
      rw [if_pos w4] at g2
      exact core 96 2 (by decide) g1 g2
    · rw [if_neg w4] at g1 g2
      by_cases w5 : nI w = 5
      · rw [if_pos w5, bnd_r] at g1
        rw [if_pos w5] at g2
        exact core 31 1 (by decide) g1 g2
      · rw [if_neg w5] at g1 g2
        by_cases w6 : nI w = 6
        · rw [if_pos w6, bnd_r] at g1
          rw [if_pos w6] at g2
          exact core 15 3 (by decide) g1 g2
        · rw [if_neg w6] at g1 g2
          by_cases w7 : nI w = 7
          · rw [if_pos w7, bnd_r] at g1
            rw [if_pos w7] at g2
            exact core 4 4 (by decide) g1 g2
          · rw [if_neg w7, bnd_r] at g1
            rw [if_neg w7] at g2
            exact core 127 0 (by decide) g1 g2
  · rw [if_neg q] at e1
    rw [in_no q] at e2
    exact ay_bad h e1 e2
/-! ===== raise, rolled, weigh, share, consist, meet ===== -/
theorem nf_al' {n np nt : Nat} {T U S1 S2 : SS} {kc km r1 r2 : Int32} (b : Bo n np nt T U) (hr : ¬ km = 0) {g : SS → Option (Int32 × SS)} (g1 : bnd (f_Report_found kc T) (fun r S => some (r, S)) = some (r1, S1)) (g2 : bnd (f_M_ends km U) (fun r5 S4 => if r5 = 0 then g S4 else some ((-2 : Int32), S4)) = some (r2, S2)) : r1 = r2 ∧ Qz T U S1 S2 := by
  replace g1 := bnd_i g1
  obtain ⟨q, V, l, g1⟩ := g1
  replace g2 := bnd_i g2
  obtain ⟨q', W, m2, g2⟩ := g2
  exact fnd_al b l hr m2 g1 g2
theorem raise_st {n np nt L : Nat} {S S1 S2 : SS} {a1 r1 r2 : Int32} (h : Dz n np nt L S) (hW1 : WR S1) (z : Fg S S1 S2) (e1 : f_Yard_raise a1 S = some (r1, S1)) (e2 : f_M_raise a1 S1 = some (r2, S2)) : Ay L r1 r2 S2 := by
  rw [f_Yard_raise.eq_1] at e1
  rw [f_M_raise.eq_1] at e2
  refine ask_al h hW1 z (fun T U b g1 g2 => ?_) e1 e2
  rcases named_al b a1 (w := 127) (v := 0) (by decide) with ⟨x, hx, rfl, p1, p2, c1, c2⟩ | ⟨r, r', n1, nn2, c1, c2⟩
  · rw [c1, bnd_r, if_pos rfl] at g1
    rw [c2, bnd_r, if_pos rfl] at g2
    replace g1 := bnd_i g1
    obtain ⟨ra, T1, s1, g1⟩ := g1
    replace g2 := bnd_i g2
    obtain ⟨rb, U1, s2, g2⟩ := g2
    obtain ⟨-, -, qc, qm⟩ := raise_al b hx s1 s2
    have q1 := Qz.of b.te qc qm
    have q2 := fnd2_al (b.q q1) g1 g2
    exact ⟨q2.1, q1.tr q2.2⟩
  · rw [c1, bnd_r, if_neg n1] at g1
    rw [c2, bnd_r, if_neg nn2] at g2
    exact fnd2_al b g1 g2
theorem wg_al {n np nt m : Nat} {hk : Nat → Nat} : ∀ (N M i : Nat) (v r r' : Int32) (T U V W : SS), Bo n np nt T U → Ln n T U m hk → i ≤ m → f_Yard_lineWeight_L4 N v (nI i) T = some (r, V) → f_M_weigh_L29 M v (nI i) U = some (r', W) → r = r' ∧ Tl T U V W
  | 0, M, i, v, r, r', T, U, V, W, _, _, _, h1, h2 => by cases h1
  | N + 1, 0, i, v, r, r', T, U, V, W, _, _, _, h1, h2 => by cases h2
  | N + 1, M + 1, i, v, r, r', T, U, V, W, b, l, hi, h1, h2 => by
    have h72 := b.s.n72
    have hm := l.m72
    rw [f_Yard_lineWeight_L4.eq_2, l.cl] at h1
    rw [f_M_weigh_L29.eq_2, l.ml] at h2
    by_cases c : i = m
    · subst c
      rw [if_pos (nI_le (by omega) (by omega))] at h1 h2
      obtain ⟨rfl, rfl⟩ := so_i h1
      obtain ⟨rfl, rfl⟩ := so_i h2
      exact ⟨rfl, Tl.rf b.te⟩
    · have hx : hk i / 2 < n := by have := l.lt i (by omega); omega
      obtain ⟨k, a, s, w, k2⟩ := (b.s.sk (hk i / 2) hx).two
      rw [if_neg (nI_ge (by omega) (by omega)), c_inL l h72 (by omega), bnd_r] at h1
      rw [if_neg (nI_ge (by omega) (by omega)), grT (inb_nI (by omega) (by omega)), nI_clamp (by omega), l.mr i (by omega)] at h2
      replace h1 := bnd_i h1
      obtain ⟨rb, T1, b1, h1⟩ := h1
      replace h2 := bnd_i h2
      obtain ⟨rb', U1, b2, h2⟩ := h2
      obtain ⟨rfl, -, t1⟩ := weight_al (by omega) b.te k2 b1 b2
      rw [nmR, nmR, nI_1] at h1 h2
      obtain ⟨g, t2⟩ := wg_al N M (i + 1) _ r r' T1 U1 V W (b.q t1.q) (l.tl t1) (by omega) h1 h2
      exact ⟨g, t1.tr t2⟩
theorem weigh_st {n np nt L : Nat} {S S1 S2 : SS} {a1 r1 r2 : Int32} (h : Dz n np nt L S) (hW1 : WR S1) (z : Fg S S1 S2) (e1 : f_Yard_weigh a1 S = some (r1, S1)) (e2 : f_M_weigh a1 S1 = some (r2, S2)) : Ay L r1 r2 S2 := by
  rw [f_Yard_weigh.eq_1] at e1
  rw [f_M_weigh.eq_1] at e2
  refine ask_al h hW1 z (fun T U b g1 g2 => ?_) e1 e2
  rcases named_al b a1 (w := 127) (v := 0) (by decide) with ⟨x, hx, rfl, p1, p2, c1, c2⟩ | ⟨r, r', n1, nn2, c1, c2⟩
  · rw [c1, bnd_r, if_pos rfl, nM2] at g1
    rw [c2, bnd_r, ends_0, bnd_r, if_pos rfl] at g2
    replace g1 := bndv_i g1
    obtain ⟨T1, l1, g1⟩ := g1
    replace g2 := bndv_i g2
    obtain ⟨U1, l2, g2⟩ := g2
    obtain ⟨m, hk, l, -, -, -, q1⟩ := b.line hx l1 l2
    replace g1 := bnd_i g1
    obtain ⟨ra, T2, s1, g1⟩ := g1
    obtain ⟨rfl, rfl⟩ := so_i g1
    rw [f_Yard_lineWeight.eq_1] at s1
    obtain ⟨e, t⟩ := wg_al NF NF 0 0 r1 r2 T1 U1 S1 S2 (b.q q1) l (by omega) s1 g2
    exact ⟨e, q1.tr t.q⟩
  · rw [c1, bnd_r, if_neg n1] at g1
    rw [c2, bnd_r] at g2
    exact nf_al' b nn2 (g := fun S4 => bndv (f_M_lineUp a1 S4) (fun S6 => f_M_weigh_L29 NF (0 : Int32) (0 : Int32) S6)) g1 g2
theorem sh_al {n np nt m : Nat} {hk : Nat → Nat} : ∀ (N M i g d : Nat) (r r' : Int32) (T U V W : SS), Bo n np nt T U → Ln n T U m hk → i ≤ m → g ≤ 100 * i → d ≤ 8 * i → f_Yard_share_L46 N (nI g) (nI d) (nI i) T = some (r, V) → f_M_share_L32 M (nI g) (nI d) (nI i) U = some (r', W) → r = r' ∧ Qz T U V W
  | 0, M, i, g, d, r, r', T, U, V, W, _, _, _, _, _, h1, h2 => by cases h1
  | N + 1, 0, i, g, d, r, r', T, U, V, W, _, _, _, _, _, h1, h2 => by cases h2
  | N + 1, M + 1, i, g, d, r, r', T, U, V, W, b, l, hi, hg, hd, h1, h2 => by
    have h72 := b.s.n72
    have hm := l.m72
    rw [f_Yard_share_L46.eq_2, l.cl] at h1
    rw [f_M_share_L32.eq_2, l.ml] at h2
    by_cases c : i = m
    · subst c
      rw [if_pos (nI_le (by omega) (by omega))] at h1 h2
      by_cases y : d = 0
      · subst y
        rw [if_pos (by decide), f_Yard_orZero.eq_1, if_pos rfl] at h1
        rw [if_pos (by decide)] at h2
        replace h1 := bnd_i h1
        obtain ⟨ra, T2, s1, h1⟩ := h1
        obtain ⟨rfl, rfl⟩ := so_i h1
        exact fnd2_al b s1 h2
      · have y' := n_ne0 (a := d) (by omega) y
        rw [if_neg y'] at h1 h2
        replace h1 := (grd_i h1).2
        replace h2 := (grd_i h2).2
        have eq : (100 : Int32) * nI g / nI d = nI (100 * g / d) := by
          rw [show (100 : Int32) * nI g = nI (100 * g) from nI_mul 100 g]
          exact nI_div (by omega) (by omega) (by omega)
        have le : 100 * g / d ≤ 100 * g := Nat.div_le_self _ _
        rw [eq, f_Yard_orZero.eq_1, if_neg (nI_m4 (by omega)), bnd_r] at h1
        rw [eq] at h2
        obtain ⟨rfl, rfl⟩ := so_i h1
        obtain ⟨rfl, rfl⟩ := so_i h2
        exact ⟨rfl, Qz.rf b⟩
    · have hx : hk i / 2 < n := by have := l.lt i (by omega); omega
      obtain ⟨k, a, s, w, k2⟩ := (b.s.sk (hk i / 2) hx).two
      have a8 := k2.a8
      rw [if_neg (nI_ge (by omega) (by omega)), c_inL l h72 (by omega), bnd_r] at h1
      rw [if_neg (nI_ge (by omega) (by omega)), grT (inb_nI (by omega) (by omega)), nI_clamp (by omega), l.mr i (by omega)] at h2
      replace h1 := bnd_i h1
      obtain ⟨rb, T1, b1, h1⟩ := h1
      replace h2 := bnd_i h2
      obtain ⟨rb', U1, b2, h2⟩ := h2
      obtain ⟨rfl, ⟨w1, hw1, ew1⟩, t1⟩ := brake_al (by omega) b.te k2 b1 b2
      have l1 := l.tl t1
      have k3 := k2.tl t1
      rw [nmR, c_inL l1 h72 (by omega), bnd_r, stg (f := 1) 1 rfl (by omega) (by omega), bnd_r, nmR, nmR, nI_1, k3.ca, ew1, nI_add, nI_add] at h1
      rw [nmR, grT (inb_nI (by omega) (by omega)), l1.mr i (by omega), grT (inb_nI (by omega) (by omega)), nmR, nmR, nI_1, nI_clamp (by omega), k3.ma, ew1, nI_add, nI_add] at h2
      obtain ⟨e, q⟩ := sh_al N M (i + 1) (g + w1) (d + a) r r' T1 U1 V W (b.q t1.q) l1 (by omega) (by omega) (by omega) h1 h2
      exact ⟨e, t1.q.tr q⟩
theorem share_st {n np nt L : Nat} {S S1 S2 : SS} {a1 r1 r2 : Int32} (h : Dz n np nt L S) (hW1 : WR S1) (z : Fg S S1 S2) (e1 : f_Yard_share a1 S = some (r1, S1)) (e2 : f_M_share a1 S1 = some (r2, S2)) : Ay L r1 r2 S2 := by
  rw [f_Yard_share.eq_1] at e1
  rw [f_M_share.eq_1] at e2
  refine ask_al h hW1 z (fun T U b g1 g2 => ?_) e1 e2
  rcases named_al b a1 (w := 127) (v := 0) (by decide) with ⟨x, hx, rfl, p1, p2, c1, c2⟩ | ⟨r, r', n1, nn2, c1, c2⟩
  · rw [c1, bnd_r, if_pos rfl, nM2] at g1
    rw [c2, bnd_r, ends_0, bnd_r, if_pos rfl] at g2
    replace g1 := bndv_i g1
    obtain ⟨T1, l1, g1⟩ := g1
    replace g2 := bndv_i g2
    obtain ⟨U1, l2, g2⟩ := g2
    obtain ⟨m, hk, l, -, -, -, q1⟩ := b.line hx l1 l2
    obtain ⟨e, t⟩ := sh_al NF NF 0 0 0 r1 r2 T1 U1 S1 S2 (b.q q1) l (by omega) (by omega) (by omega) g1 g2
    exact ⟨e, q1.tr t⟩
  · rw [c1, bnd_r, if_neg n1] at g1
    rw [c2, bnd_r] at g2
    exact nf_al' b nn2 (g := fun S4 => bndv (f_M_lineUp a1 S4) (fun S6 => f_M_share_L32 NF (0 : Int32) (0 : Int32) (0 : Int32) S6)) g1 g2
theorem consist_st {n np nt L : Nat} {S S1 S2 : SS} {a1 a2 r1 r2 : Int32} (h : Dz n np nt L S) (hW1 : WR S1) (z : Fg S S1 S2) (e1 : f_Yard_consist a1 a2 S = some (r1, S1)) (e2 : f_M_consist a1 a2 S1 = some (r2, S2)) : Ay L r1 r2 S2 := by
  rw [f_Yard_consist.eq_1] at e1
  rw [f_M_consist.eq_1] at e2
  by_cases q : 0 ≤ a2
  · rw [if_pos q] at e1 e2
    refine ask_al h hW1 z (fun T U b g1 g2 => ?_) e1 e2
    have h72 := b.s.n72
    rcases named_al b a1 (w := 127) (v := 0) (by decide) with ⟨x, hx, rfl, p1, p2, c1, c2⟩ | ⟨r, r', n1, nn2, c1, c2⟩
    · rw [c1, bnd_r, if_pos rfl, nM2] at g1
      rw [c2, bnd_r, ends_0, bnd_r, if_pos rfl] at g2
      replace g1 := bndv_i g1
      obtain ⟨T1, l1, g1⟩ := g1
      replace g2 := bndv_i g2
      obtain ⟨U1, l2, g2⟩ := g2
      obtain ⟨m, hk, l, -, -, -, q1⟩ := b.line hx l1 l2
      have hm := l.m72
      have q' : ¬ a2 < 0 := fun y => by rw [Int32.le_iff_toInt_le] at q; rw [Int32.lt_iff_toInt_lt] at y; omega
      rw [l.ml] at g2
      by_cases y : nI m ≤ a2
      · rw [if_pos y] at g2
        rw [f_Trains_inLine.eq_1, f_Trains_hookInLine.eq_1, if_neg q', l.cl, if_pos y, bnd_r, if_pos rfl, bnd_r] at g1
        obtain ⟨rfl, rfl⟩ := so_i g1
        obtain ⟨rfl, rfl⟩ := so_i g2
        exact ⟨rfl, q1⟩
      · have y2 : a2 < nI m := by rw [Int32.le_iff_toInt_le] at y; rw [Int32.lt_iff_toInt_lt]; omega
        obtain ⟨k, hk', rfl⟩ := lt_e (k := m) (by omega) q' y2
        rw [if_neg y, grT (inb_nI (by omega) (by omega)), nI_clamp (by omega), l.mr k hk'] at g2
        rw [c_inL l h72 hk', bnd_r] at g1
        obtain ⟨rfl, rfl⟩ := so_i g1
        obtain ⟨rfl, rfl⟩ := so_i g2
        exact ⟨rfl, q1⟩
    · rw [c1, bnd_r, if_neg n1] at g1
      rw [c2, bnd_r] at g2
      exact nf_al' b nn2 (g := fun S4 => bndv (f_M_lineUp a1 S4) (fun S6 => if (S6.1 0 56) ≤ a2 then some ((-4 : Int32), S6) else grd (inb a2 72) (some (S6.1 39 a2.toNatClampNeg, S6)))) g1 g2
  · rw [if_neg q] at e1 e2
    exact ay_bad h e1 e2
theorem mt_al {n np nt g : Nat} {T U S1 S2 : SS} {r1 r2 : Int32} (b : Bo n np nt T U) (hg : g ≤ 100) : ∀ (N M i x s : Nat), x < n → s < 2 → i ≤ g → f_Yard_meet_L54 N (nI g) (nI (2 * x + s)) (nI i) T = some (r1, S1) → f_M_meet_L42 M (nI g) (nI x) (nI s) (nI i) U = some (r2, S2) → r1 = r2 ∧ Qz T U S1 S2
  | 0, M, i, x, s, _, _, _, h1, h2 => by cases h1
  | N + 1, 0, i, x, s, _, _, _, h1, h2 => by cases h2
  | N + 1, M + 1, i, x, s, hx, hs, hi, h1, h2 => by
    have h72 := b.s.n72
    have mt := b.w.mates h72 b.s.cn
    rw [f_Yard_meet_L54.eq_2] at h1
    rw [f_M_meet_L42.eq_2] at h2
    by_cases c : i = g
    · subst c
      rw [if_pos (nI_le (by omega) (by omega)), n_shr (by omega), show (2 * x + s) / 2 = x by omega] at h1
      rw [if_pos (nI_le (by omega) (by omega))] at h2
      obtain ⟨rfl, rfl⟩ := so_i h1
      obtain ⟨rfl, rfl⟩ := so_i h2
      exact ⟨rfl, Qz.rf b⟩
    · have lt : ¬ nI g ≤ nI i := fun y => by have := (n_leJ (by omega) (by omega)).mp y; omega
      rw [if_neg lt] at h1 h2
      rw [n2, grT (inb_nI (by omega) (by omega)), nmR, nI_clamp (by omega)] at h2
      by_cases q : U.1 23 (2 * x + s) = -4
      · rw [c_onw_no mt hx hs q, bnd_r, if_pos rfl] at h1
        rw [if_pos q] at h2
        exact fnd2_al b h1 h2
      · obtain ⟨pos, dir, hc⟩ := b.ac
        obtain ⟨o, t, ho, ht, f1, f2, f3, -⟩ := ac_next hc h72 hx hs q
        rw [c_onw mt hx hs ho ht f1 f3, bnd_r, if_neg (nI_m4 (by omega)), nmR, nI_1] at h1
        rw [if_neg q, f1, sideTo_s rfl (by omega) ht f3, bnd_r, nmR, nmR, nI_1, n1m ht] at h2
        exact mt_al b hg N M (i + 1) o (1 - t) ho (by omega) (by omega) h1 h2
theorem meet_st {n np nt L : Nat} {S S1 S2 : SS} {a1 a2 a3 r1 r2 : Int32} (h : Dz n np nt L S) (hW1 : WR S1) (z : Fg S S1 S2) (e1 : f_Yard_meet a1 a2 a3 S = some (r1, S1)) (e2 : f_M_meet a1 a2 a3 S1 = some (r2, S2)) : Ay L r1 r2 S2 := by
  rw [f_Yard_meet.eq_1, in_v, bnd_r] at e1
  rw [f_M_meet.eq_1] at e2
  by_cases q : inV a3 0 100 = 0
  · rw [if_pos q] at e1
    rw [if_neg (in_lo q).1, if_pos (in_lo q).2] at e2
    obtain ⟨g, -, hg, rfl⟩ := in_n (l := 0) (h := 100) rfl rfl (by omega) (by omega) q
    refine ask_al h hW1 z (fun T U b g1 g2 => ?_) e1 e2
    rcases side_al b a1 a2 (w := 127) (v := 0) (by decide) with ⟨x, s, hx, hs, rfl, rfl, th, p2, c1, c2⟩ | ⟨r, r', n1, nn2, c1, c2⟩
    · rw [c1, bnd_r, if_pos rfl, nmR, n2] at g1
      rw [c2, bnd_r, ends_0, bnd_r, if_pos rfl] at g2
      exact mt_al b hg NF NF 0 x s hx hs (by omega) g1 g2
    · rw [c1, bnd_r, if_neg n1] at g1
      rw [c2, bnd_r] at g2
      exact nf_al' b nn2 (g := fun S4 => f_M_meet_L42 NF (nI g) a1 a2 (0 : Int32) S4) g1 g2
  · rw [if_neg q] at e1
    rw [in_no q] at e2
    exact ay_bad h e1 e2
/-! ===== the roster: rolled, store, roll ===== -/
theorem lt8 {a : Int32} (h0 : ¬ a < 0) (h : inV a 0 7 = 0 ↔ a < 8) : True := trivial
theorem in7 {a : Int32} : inV a 0 7 = 0 ↔ ¬ a < 0 ∧ a < 8 := by
  rw [inV0, Int32.le_iff_toInt_le, Int32.lt_iff_toInt_lt, Int32.lt_iff_toInt_lt]
  have e7 : (7 : Int32).toInt = 7 := by decide
  have e8 : (8 : Int32).toInt = 8 := by decide
  constructor <;> intro q <;> exact ⟨q.1, by omega⟩
theorem rolled_st {n np nt L : Nat} {S S1 S2 : SS} {a1 r1 r2 : Int32} (h : Dz n np nt L S) (hW1 : WR S1) (z : Fg S S1 S2) (e1 : f_Yard_rolled a1 S = some (r1, S1)) (e2 : f_M_rolled a1 S1 = some (r2, S2)) : Ay L r1 r2 S2 := by
  rw [f_Yard_rolled.eq_1] at e1
  rw [f_M_rolled.eq_1] at e2
  refine beg_al h hW1 z (fun T U b d _ g1 g2 => ?_) e1 e2
  rw [in_v, bnd_r] at g1
  by_cases q : inV a1 0 7 = 0
  · have q' := in7.mp q
    obtain ⟨i, -, hi, rfl⟩ := in_n (l := 0) (h := 7) rfl rfl (by omega) (by omega) q
    rw [if_pos q, grT (inb_nI (by omega) (by omega)), nI_clamp (by omega), d.ro] at g1
    rw [if_neg q'.1, if_pos q'.2, grT (inb_nI (by omega) (by omega)), nI_clamp (by omega)] at g2
    obtain ⟨rfl, rfl⟩ := so_i g1
    obtain ⟨rfl, rfl⟩ := so_i g2
    exact ⟨rfl, n, np, nt, d⟩
  · rw [if_neg q] at g1
    have g2' : f_M_rolled_j14 U = some (r2, S2) := by
      by_cases c0 : a1 < 0
      · rw [if_pos c0] at g2; exact g2
      · rw [if_neg c0, if_neg (fun y => q (in7.mpr ⟨c0, y⟩))] at g2; exact g2
    rw [f_M_rolled_j14.eq_1] at g2'
    obtain ⟨e, qz⟩ := fnd2_al b g1 g2'
    exact ⟨e, n, np, nt, d.qz qz⟩
theorem Dw.ros {n np nt L : Nat} {T U : SS} (h : Dw n np nt L T U) (i : Nat) (v : Int32) : Dw n np nt L (st T 76 i v) (st U 38 i v) := by
  obtain ⟨h1, h2, h3, h4, h5, ⟨l1, l2, l3, l4, l5, l6⟩, u, b, o, k1, k2, k3, k4, k5, k6⟩ := h
  have c : ∀ k, k ≠ 76 → (st T 76 i v).1 k = T.1 k := fun k hk => st_row _ _ _ _ hk
  have m : ∀ k, k ≠ 38 → (st U 38 i v).1 k = U.1 k := fun k hk => st_row _ _ _ _ hk
  have sve : sv (st U 38 i v) = sv U := funext fun j => by
    unfold sv
    rw [m 19 (by decide), m 20 (by decide), m 21 (by decide), m 22 (by decide), m 23 (by decide), m 24 (by decide), m 25 (by decide), m 26 (by decide), m 27 (by decide), m 30 (by decide), m 31 (by decide), m 32 (by decide), m 33 (by decide), m 34 (by decide), m 10 (by decide), m 11 (by decide), m 0 (by decide)]
  refine ⟨h1.fr (fun k hk => c k (by omega)) (fun k hk => m k (by omega)) (fun j _ => by rw [m 0 (by decide)]), ?_, ⟨?_, fun j => ?_⟩, ?_, fun j => ?_, ⟨l1, ?_, ?_, ?_, fun j hj => ?_, fun j hj => ?_⟩, u, b, o, ?_, ?_, ?_, ?_, ?_, ?_⟩
  · rw [m 3 (by decide), m 18 (by decide), m 0 (by decide), sve, c 79 (by decide)]; exact h2
  · rw [c 62 (by decide), m 0 (by decide)]; exact h3.n
  · rw [c 78 (by decide), m 2 (by decide)]; exact h3.r j
  · rw [c 68 (by decide), m 0 (by decide)]; exact h4
  · rw [st_at, st_at, if_pos rfl, if_pos rfl, h5 j]
  · rw [m 0 (by decide)]; exact l2
  · rw [c 64 (by decide)]; exact l3
  · rw [c 64 (by decide)]; exact l4
  · rw [c 89 (by decide), m 41 (by decide)]; exact l5 j hj
  · rw [c 90 (by decide), m 42 (by decide)]; exact l6 j hj
  · rw [m 0 (by decide)]; exact k1
  · rw [m 0 (by decide)]; exact k2
  · rw [c 64 (by decide)]; exact k3
  · rw [c 64 (by decide)]; exact k4
  · rw [c 64 (by decide)]; exact k5
  · rw [m 3 (by decide), m 18 (by decide), m 0 (by decide), m 40 (by decide), show (fun i' => (st T 76 i v).1 (81 + i')) = (fun i' => T.1 (81 + i')) from funext fun i' => c _ (by omega)]; exact k6
theorem Bo.ros {n np nt : Nat} {T U : SS} (h : Bo n np nt T U) (i : Nat) (v : Int32) : Bo n np nt (st T 76 i v) (st U 38 i v) := by
  have c : ∀ k, k ≠ 76 → (st T 76 i v).1 k = T.1 k := fun k hk => st_row _ _ _ _ hk
  have m : ∀ k, k ≠ 38 → (st U 38 i v).1 k = U.1 k := fun k hk => st_row _ _ _ _ hk
  have sve : sv (st U 38 i v) = sv U := funext fun j => by
    unfold sv
    rw [m 19 (by decide), m 20 (by decide), m 21 (by decide), m 22 (by decide), m 23 (by decide), m 24 (by decide), m 25 (by decide), m 26 (by decide), m 27 (by decide), m 30 (by decide), m 31 (by decide), m 32 (by decide), m 33 (by decide), m 34 (by decide), m 10 (by decide), m 11 (by decide), m 0 (by decide)]
  refine ⟨h.s.fr (fun k hk => c k (by omega)) (fun k hk => m k (by omega)) (fun j _ => by rw [m 0 (by decide)]), ?_, ?_, ?_, fun j => ?_, ?_, ?_, ?_, ?_, ?_⟩
  · rw [m 3 (by decide), m 18 (by decide), m 0 (by decide), sve, c 79 (by decide)]; exact h.w
  · rw [m 22 (by decide)]; exact h.lk
  · rw [c 62 (by decide), m 0 (by decide)]; exact h.tr
  · rw [c 78 (by decide), m 2 (by decide)]; exact h.tc j
  · rw [c 68 (by decide), m 0 (by decide)]; exact h.sr
  · rw [m 10 (by decide)]; exact h.pb
  · rw [m 23 (by decide)]; exact h.ac
  · rw [m 27 (by decide)]; exact h.dg
  · rw [m 26 (by decide)]; exact h.jm
theorem store_st {n np nt L : Nat} {S S1 S2 : SS} {a1 a2 r1 r2 : Int32} (h : Dz n np nt L S) (hW1 : WR S1) (z : Fg S S1 S2) (e1 : f_Yard_store a1 a2 S = some (r1, S1)) (e2 : f_M_store a1 a2 S1 = some (r2, S2)) : Ay L r1 r2 S2 := by
  rw [f_Yard_store.eq_1] at e1
  rw [f_M_store.eq_1] at e2
  refine beg_al h hW1 z (fun T U b d _ g1 g2 => ?_) e1 e2
  have h72 := b.s.n72
  have fin : r1 = r2 ∧ Qz T U S1 S2 → r1 = r2 ∧ ∃ n' np' nt', Dw n' np' nt' L S1 S2 := fun q => ⟨q.1, n, np, nt, d.qz q.2⟩
  have no : ∀ k, ¬ k = 0 → f_Yard_store_j31 a1 a2 k T = some (r1, S1) → bnd (f_Report_found k T) (fun r S => some (r, S)) = some (r1, S1) := fun k hk g => by
    rw [f_Yard_store_j31.eq_1, if_neg hk, f_Yard_store_j50.eq_1, if_neg hk] at g; exact g
  rcases named_al b a1 (w := 127) (v := 0) (by decide) with ⟨x, hx, rfl, p1, p2, c1, c2⟩ | ⟨r, r', n1, nn2, c1, c2⟩
  · rw [c1, bnd_r, if_pos rfl, in_v, bnd_r] at g1
    rw [c2, bnd_r, ends_0, bnd_r, if_pos rfl] at g2
    by_cases q : inV a2 0 7 = 0
    · have q' := in7.mp q
      obtain ⟨i, -, hi, rfl⟩ := in_n (l := 0) (h := 7) rfl rfl (by omega) (by omega) q
      obtain ⟨k, a, s, m, k2⟩ := (b.s.sk x hx).two
      have k6 := k2.k6
      obtain ⟨o1, -, -⟩ := okw_c (k := k) (by omega)
      rw [if_pos q, f_Yard_store_j31.eq_1, if_pos rfl, isAs_c 96 (by omega) k2.ck k2.k6, bnd_r] at g1
      rw [if_neg q'.1, if_pos q'.2, grT (inb_nI (by omega) (by omega)), nI_clamp (n := x) (by omega), k2.mkk] at g2
      by_cases e : 5 ≤ k
      · rw [if_pos (o1.mpr e), if_neg (by decide), f_Yard_store_j50.eq_1, if_pos rfl, grT (inb_nI (by omega) (by omega)), wr_r, nI_clamp (by omega)] at g1
        rw [if_pos (show (5 : Int32) ≤ nI k from (n_leJ (a := 5) (by omega) (by omega)).mpr e), grT (inb_nI (by omega) (by omega)), wr_r, nI_clamp (by omega)] at g2
        obtain ⟨rfl, rfl⟩ := so_i g1
        obtain ⟨rfl, rfl⟩ := so_i g2
        exact ⟨rfl, n, np, nt, d.ros i (nI x)⟩
      · rw [if_neg (fun y => e (o1.mp y)), if_pos rfl, f_Yard_store_j50.eq_1, if_neg (by decide)] at g1
        rw [if_neg (show ¬ (5 : Int32) ≤ nI k from fun y => e ((n_leJ (a := 5) (by omega) (by omega)).mp y))] at g2
        exact fin (fnd2_al b g1 g2)
    · rw [if_neg q] at g1
      have g2' : f_M_store_j30 U = some (r2, S2) := by
        by_cases c0 : a2 < 0
        · rw [if_pos c0] at g2; exact g2
        · rw [if_neg c0, if_neg (fun y => q (in7.mpr ⟨c0, y⟩))] at g2; exact g2
      rw [f_M_store_j30.eq_1] at g2'
      exact fin (fnd2_al b (no 3 (by decide) g1) g2')
  · rw [c1, bnd_r, if_neg n1] at g1
    rw [c2, bnd_r] at g2
    exact fin (nf_al' b nn2 (g := fun S4 => if a2 < 0 then f_M_store_j30 S4 else if a2 < (8 : Int32) then grd (inb a1 72) (if (5 : Int32) ≤ (S4.1 18 a1.toNatClampNeg) then grd (inb a2 8) (wr S4 38 a2.toNatClampNeg a1 (fun S8 => some ((1 : Int32), S8))) else bnd (f_M_found (4 : Int32) S4) (fun r10 S9 => some (r10, S9))) else f_M_store_j30 S4) (no r n1 g1) g2)
theorem rl_al {n np nt L t q i g : Nat} {S1 S2 : SS} {r1 r2 : Int32} (ht : t < nt) (hq2 : q ≤ 24) (hg : g ≤ 8) (hig : i + g ≤ q) : ∀ (N M k : Nat) (T U : SS), Bo n np nt T U → Dw n np nt L T U → k ≤ g → f_Yard_roll_L71 N (nI t) (nI i) (nI g) (nI k) T = some (r1, S1) → f_M_roll_L54 M (nI t) (nI i) (nI g) (nI k) U = some (r2, S2) → r1 = r2 ∧ ∃ n' np' nt', Dw n' np' nt' L S1 S2
  | 0, M, k, T, U, _, _, _, h1, h2 => by cases h1
  | N + 1, 0, k, T, U, _, _, _, h1, h2 => by cases h2
  | N + 1, M + 1, k, T, U, b, d, hk, h1, h2 => by
    have h72 := b.s.n72
    have hnt := b.s.nt24
    rw [f_Yard_roll_L71.eq_2] at h1
    rw [f_M_roll_L54.eq_2] at h2
    by_cases c : k = g
    · subst c
      rw [if_pos (nI_le (by omega) (by omega))] at h1 h2
      obtain ⟨rfl, rfl⟩ := so_i h1
      obtain ⟨rfl, rfl⟩ := so_i h2
      exact ⟨rfl, n, np, nt, d⟩
    · have lt : ¬ nI g ≤ nI k := fun y => by have := (n_leJ (by omega) (by omega)).mp y; omega
      rw [if_neg lt, f_Layout_spot.eq_1, bnd_r, nM24, nI_add, nI_add] at h1
      rw [if_neg lt, nI_add] at h2
      replace h1 := bnd_i h1
      obtain ⟨ra, T1, s1, h1⟩ := h1
      replace h2 := bnd_i h2
      obtain ⟨rb, U1, s2, h2⟩ := h2
      obtain ⟨eT, eU, er, so⟩ := stand_al b ht (show i + k < q by omega) hq2 s1 s2
      rw [eT] at h1
      rw [eU, er] at h2
      have go : f_Yard_roll_j124 (fun v0 v1 v2 v3 S => f_Yard_roll_L71 N v0 v1 v2 v3 S) (nI t) (nI i) (nI g) (nI k) ra T = some (r1, S1) → f_M_roll_j95 (fun v0 v1 v2 v3 S => f_M_roll_L54 M v0 v1 v2 v3 S) (nI t) (nI i) (nI g) (nI k) ra U = some (r2, S2) → r1 = r2 ∧ ∃ n' np' nt', Dw n' np' nt' L S1 S2 := fun h1 h2 => by
        rw [f_Yard_roll_j124.eq_1, grT (inb_nI (by omega) (by omega)), wr_r, nmR, nI_1, nI_clamp (by omega)] at h1
        rw [f_M_roll_j95.eq_1, grT (inb_nI (by omega) (by omega)), wr_r, nmR, nI_1, nI_clamp (by omega)] at h2
        exact rl_al ht hq2 hg hig N M (k + 1) _ _ (b.ros k ra) (d.ros k ra) (by omega) h1 h2
      by_cases y : ra = -4
      · rw [if_pos y] at h1 h2
        exact go h1 h2
      · rw [if_neg y] at h1 h2
        rcases so with w | ⟨o, ho, eo, -, -⟩
        · exact absurd w y
        · obtain ⟨k', a, s, m, k2⟩ := (b.s.sk o ho).two
          have k6 := k2.k6
          obtain ⟨o1, -, -⟩ := okw_c (k := k') (by omega)
          rw [eo, isAs_c 96 (by omega) k2.ck k2.k6, bnd_r, ← eo] at h1
          have h2' : (if (5 : Int32) ≤ nI k' then f_M_roll_j95 (fun v0 v1 v2 v3 S => f_M_roll_L54 M v0 v1 v2 v3 S) (nI t) (nI i) (nI g) (nI k) ra U else bnd (f_M_found (4 : Int32) U) (fun r13 S12 => some (r13, S12))) = some (r2, S2) := by
            have e18 : U.1 18 ra.toNatClampNeg = nI k' := by rw [eo, nI_clamp (by omega)]; exact k2.mkk
            rw [e18, grT (by rw [eo]; exact inb_nI (by omega) (by omega))] at h2
            exact h2
          by_cases e : 5 ≤ k'
          · rw [if_pos (o1.mpr e), if_neg (by decide)] at h1
            rw [if_pos (show (5 : Int32) ≤ nI k' from (n_leJ (a := 5) (by omega) (by omega)).mpr e)] at h2'
            exact go h1 h2'
          · rw [if_neg (fun w => e (o1.mp w)), if_pos rfl] at h1
            rw [if_neg (show ¬ (5 : Int32) ≤ nI k' from fun w => e ((n_leJ (a := 5) (by omega) (by omega)).mp w))] at h2'
            obtain ⟨q1, q2⟩ := fnd2_al b h1 h2'
            exact ⟨q1, n, np, nt, d.qz q2⟩
theorem roll_st {n np nt L : Nat} {S S1 S2 : SS} {a1 a2 a3 r1 r2 : Int32} (h : Dz n np nt L S) (hW1 : WR S1) (z : Fg S S1 S2) (e1 : f_Yard_roll a1 a2 a3 S = some (r1, S1)) (e2 : f_M_roll a1 a2 a3 S1 = some (r2, S2)) : Ay L r1 r2 S2 := by
  rw [f_Yard_roll.eq_1] at e1
  rw [f_M_roll.eq_1] at e2
  refine beg_al h hW1 z (fun T U b d _ g1 g2 => ?_) e1 e2
  have hnt := b.s.nt24
  have fin : r1 = r2 ∧ Qz T U S1 S2 → r1 = r2 ∧ ∃ n' np' nt', Dw n' np' nt' L S1 S2 := fun q => ⟨q.1, n, np, nt, d.qz q.2⟩
  have bd : f_Yard_roll_j50 a1 a2 a3 T = some (r1, S1) → f_M_roll_j45 U = some (r2, S2) → r1 = r2 ∧ ∃ n' np' nt', Dw n' np' nt' L S1 S2 := fun g1 g2 => by
    rw [f_Yard_roll_j50.eq_1, f_Yard_roll_j53.eq_1, if_neg (by decide)] at g1
    rw [f_M_roll_j45.eq_1] at g2
    exact fin (fnd2_al b g1 g2)
  rcases tf_al b a1 with ⟨t, q, ht, rfl, hq, q1, q2, c1, c2⟩ | ⟨r, hr, c1, c2⟩
  · rw [c1, bnd_r, if_pos rfl] at g1
    rw [c2, bnd_r, ends_0, bnd_r, if_pos rfl] at g2
    by_cases y1 : a2 < 0
    · rw [if_pos y1] at g1 g2; exact bd g1 g2
    · rw [if_neg y1] at g1 g2
      by_cases y2 : a3 < 0
      · rw [if_pos y2] at g1 g2; exact bd g1 g2
      · rw [if_neg y2] at g1 g2
        by_cases y3 : (8 : Int32) < a3
        · rw [if_pos y3] at g1 g2; exact bd g1 g2
        · rw [if_neg y3, c_places b ht hq, bnd_r] at g1
          rw [if_neg y3, grT (inb_nI (by omega) (by omega)), nI_clamp (by omega), hq] at g2
          have e8 : (8 : Int32).toInt = 8 := by decide
          have e0 : (0 : Int32).toInt = 0 := by decide
          have w1 := y1
          have w2 := y2
          have w3 := y3
          rw [Int32.lt_iff_toInt_lt] at w1 w2 w3
          have hb := a2.toInt_lt
          have s1 : (nI q - a3).toInt = (q : Int) - a3.toInt := by rw [Int32.toInt_sub, nI_ti (by omega), bm (by omega) (by omega)]
          have s2 : (nI q - a2).toInt = (q : Int) - a2.toInt := by rw [Int32.toInt_sub, nI_ti (by omega), bm (by omega) (by omega)]
          have iff : a2 ≤ nI q - a3 ↔ a3 ≤ nI q - a2 := by
            rw [Int32.le_iff_toInt_le, Int32.le_iff_toInt_le, s1, s2]; omega
          by_cases y4 : a2 ≤ nI q - a3
          · have w4 := y4
            rw [Int32.le_iff_toInt_le, s1] at w4
            rw [if_pos y4, f_Yard_roll_j53.eq_1, if_pos rfl] at g1
            rw [if_pos (iff.mp y4)] at g2
            obtain ⟨i, hi, rfl⟩ := lt_e (a := a2) (k := q + 1) (by omega) y1 (by rw [Int32.lt_iff_toInt_lt, nI_ti (by omega)]; omega)
            obtain ⟨g, hg, rfl⟩ := lt_e (a := a3) (k := 9) (by omega) y2 (by rw [Int32.lt_iff_toInt_lt, nI_ti (by omega)]; omega)
            rw [nI_ti (by omega), nI_ti (by omega)] at w4
            exact rl_al ht q2 (by omega) (by omega) NF NF 0 T U b d (by omega) g1 g2
          · rw [if_neg y4] at g1
            rw [if_neg (fun w => y4 (iff.mpr w))] at g2
            exact bd g1 g2
  · rw [c1, bnd_r, if_neg hr, f_Yard_roll_j53.eq_1, if_neg hr] at g1
    rw [c2, bnd_r] at g2
    replace g1 := bnd_i g1
    obtain ⟨q, V, l, g1⟩ := g1
    replace g2 := bnd_i g2
    obtain ⟨q', W, m2, g2⟩ := g2
    exact fin (fnd_al b l hr m2 g1 g2)
/-! ===== log, trace ===== -/
theorem rd_y {n np nt L : Nat} {S S1 S2 : SS} {r1 r2 : Int32} (h : Dz n np nt L S) (e : r1 = r2) (e1 : S1 = S) (e2 : S2 = S1) : Ay L r1 r2 S2 := by
  subst e1 e2
  exact ⟨e, n, np, nt, L, by omega, h⟩
theorem log_st {n np nt L : Nat} {S S1 S2 : SS} {a1 a2 r1 r2 : Int32} (h : Dz n np nt L S) (e1 : f_Yard_log a1 a2 S = some (r1, S1)) (e2 : f_M_log a1 a2 S1 = some (r2, S2)) : Ay L r1 r2 S2 := by
  rw [f_Yard_log.eq_1] at e1
  rw [f_M_log.eq_1] at e2
  by_cases c0 : a1 < 0
  · rw [if_pos c0] at e1 e2
    exact ay_bad h e1 e2
  · rw [if_neg c0] at e1 e2
    rw [in_v, bnd_r] at e1
    by_cases q : inV a2 0 1 = 0
    · rw [if_pos q] at e1
      rw [if_neg (in_lo q).1, if_pos (in_lo q).2] at e2
      have hl := h.l.l6
      rw [f_History_written.eq_1, if_neg c0, h.l.c5] at e1
      by_cases c1 : a1 < nI (min L 40)
      · obtain ⟨k, hk, rfl⟩ := lt_e (k := min L 40) (by omega) c0 c1
        have i1 : (nI (L % 40) + 40 - nI k) - (nI (L % 40) + 40 - nI k) / (40 : Int32) * (40 : Int32) = nI ((L % 40 + 40 - k) % 40) := by
          rw [show nI (L % 40) + (40 : Int32) = nI (L % 40 + 40) from nI_add _ 40, nI_sb (by omega) (by omega)]
          exact nI_rem (b := 40) (by omega) (by omega) (by omega)
        have i2 : (nI L - 1 - nI k) - (nI L - 1 - nI k) / (40 : Int32) * (40 : Int32) = nI ((L - 1 - k) % 40) := by
          rw [n_m1 (by omega) (by omega), nI_sb (by omega) (by omega)]
          exact nI_rem (b := 40) (by omega) (by omega) (by omega)
        have ix : ((L - 1 - k) % 40 + 1) % 40 = (L % 40 + 40 - k) % 40 := by omega
        rw [if_pos c1, h.l.c4, i1, nmR] at e1
        replace e1 := bnd_i e1
        obtain ⟨r4, S3, g1, e1⟩ := e1
        obtain ⟨rfl, rfl⟩ := so_i e1
        by_cases w : a2 = 0
        · rw [if_pos w, grT (inb_nI (by omega) (by omega)), nI_clamp (by omega)] at g1
          obtain ⟨rfl, rfl⟩ := so_i g1
          rw [if_neg (show ¬ (40 : Int32) ≤ nI k from nI_ge (b := 40) (by omega) (by omega)), h.l.m, if_pos ((nI_ltJ (by omega) (by omega)).mpr (by omega)), i2, nmR, if_pos w, grT (inb_nI (by omega) (by omega)), nI_clamp (by omega)] at e2
          obtain ⟨rfl, rfl⟩ := so_i e2
          exact rd_y h (by rw [← ix]; exact h.l.ac _ (by omega)) rfl rfl
        · rw [if_neg w, grT (inb_nI (by omega) (by omega)), nI_clamp (by omega)] at g1
          obtain ⟨rfl, rfl⟩ := so_i g1
          rw [if_neg (show ¬ (40 : Int32) ≤ nI k from nI_ge (b := 40) (by omega) (by omega)), h.l.m, if_pos ((nI_ltJ (by omega) (by omega)).mpr (by omega)), i2, nmR, if_neg w, grT (inb_nI (by omega) (by omega)), nI_clamp (by omega)] at e2
          obtain ⟨rfl, rfl⟩ := so_i e2
          exact rd_y h (by rw [← ix]; exact h.l.an _ (by omega)) rfl rfl
      · rw [if_neg c1, bnd_r] at e1
        obtain ⟨rfl, rfl⟩ := so_i e1
        have e2' : some ((-4 : Int32), S1) = some (r2, S2) := by
          by_cases c2 : (40 : Int32) ≤ a1
          · rw [if_pos c2] at e2; exact e2
          · rw [if_neg c2, h.l.m, if_neg (fun y => c1 (by
              rw [Int32.lt_iff_toInt_lt, nI_ti (by omega)] at y ⊢
              rw [Int32.le_iff_toInt_le] at c2
              have : (40 : Int32).toInt = 40 := by decide
              omega))] at e2
            exact e2
        obtain ⟨rfl, rfl⟩ := so_i e2'
        exact rd_y h rfl rfl rfl
    · rw [if_neg q] at e1
      rw [in_no q] at e2
      exact ay_bad h e1 e2
theorem trace_st {n np nt L : Nat} {S S1 S2 : SS} {a1 r1 r2 : Int32} (h : Dz n np nt L S) (e1 : f_Yard_trace a1 S = some (r1, S1)) (e2 : f_M_trace a1 S1 = some (r2, S2)) : Ay L r1 r2 S2 := by
  rw [f_Yard_trace.eq_1] at e1
  rw [f_M_trace.eq_1] at e2
  by_cases c : 0 ≤ a1
  · have c0 : ¬ a1 < 0 := fun y => by rw [Int32.le_iff_toInt_le] at c; rw [Int32.lt_iff_toInt_lt] at y; omega
    rw [if_pos c] at e1 e2
    rw [f_Report_bodyAt.eq_1, if_neg c0, h.e.n] at e1
    replace e1 := bnd_i e1
    obtain ⟨r4, S3, g1, e1⟩ := e1
    obtain ⟨rfl, rfl⟩ := so_i e1
    by_cases d : S.1 0 5 ≤ a1
    · rw [if_pos d] at g1
      obtain ⟨rfl, rfl⟩ := so_i g1
      rw [if_pos d] at e2
      obtain ⟨rfl, rfl⟩ := so_i e2
      exact rd_y h rfl rfl rfl
    · rw [if_neg d] at g1
      have eS : S1 = S := by
        by_cases y : a1 < 200
        · rw [if_pos y] at g1; exact (so_i (grd_i g1).2).2
        · rw [if_neg y] at g1; exact (so_i g1).2
      rw [eS, if_neg d] at e2
      obtain ⟨hb, e2⟩ := grd_i e2
      obtain ⟨k, hk, rfl⟩ := inb_e hb (by omega)
      rw [if_pos (show nI k < (200 : Int32) from (nI_ltJ (b := 200) (by omega) (by omega)).mpr hk), grT hb, nI_clamp (by omega), h.e.r] at g1
      rw [nI_clamp (by omega)] at e2
      obtain ⟨rfl, -⟩ := so_i g1
      obtain ⟨rfl, rfl⟩ := so_i e2
      exact rd_y h rfl eS eS.symm
  · rw [if_neg c] at e1 e2
    exact ay_bad h e1 e2
/-! ===== digest ===== -/
theorem bndl_i {ρ : Type} {A : Option (Int64 × SS)} {f : Int64 → SS → Option ρ} {y : ρ} (h : bndl A f = some y) : ∃ a T, A = some (a, T) ∧ f a T = some y := by
  match A, h with
  | some (a, T), h => exact ⟨a, T, rfl, h⟩
theorem bndl_r {ρ : Type} (v : Int64) (S : SS) (g : Int64 → SS → Option ρ) : bndl (some (v, S)) g = g v S := rfl
theorem dgP {n np nt : Nat} {T U : SS} (b : Bo n np nt T U) : ∀ (N M p : Nat) (v r r' : Int64) (V W : SS), p ≤ np → f_Yard_digest_L32 N v (nI p) T = some (r, V) → f_M_digest_L192 M v (nI p) U = some (r', W) → r = r' ∧ V = T ∧ W = U
  | 0, M, p, v, r, r', V, W, _, h1, h2 => by cases h1
  | N + 1, 0, p, v, r, r', V, W, _, h1, h2 => by cases h2
  | N + 1, M + 1, p, v, r, r', V, W, hp, h1, h2 => by
    have hnp := b.s.np40
    rw [f_Yard_digest_L32.eq_2, b.s.cp] at h1
    rw [f_M_digest_L192.eq_2, b.s.mp] at h2
    by_cases c : p = np
    · subst c
      rw [if_pos (nI_le (by omega) (by omega))] at h1 h2
      obtain ⟨rfl, rfl⟩ := so_i h1
      obtain ⟨rfl, rfl⟩ := so_i h2
      exact ⟨rfl, rfl, rfl⟩
    · rw [if_neg (nI_ge (by omega) (by omega)), c_setting b (by omega), bnd_r, nmR, c_locker b (by omega), bnd_r, nmR, nmR, nI_1] at h1
      rw [if_neg (nI_ge (by omega) (by omega)), grT (inb_nI (by omega) (by omega)), nmR, grT (inb_nI (by omega) (by omega)), nmR, nmR, nI_1, nI_clamp (by omega)] at h2
      exact dgP b N M (p + 1) _ r r' V W (by omega) h1 h2
theorem dgT {n np nt : Nat} {T U : SS} (b : Bo n np nt T U) : ∀ (N M x : Nat) (v r r' : Int64) (V W : SS), x ≤ n → f_Yard_digest_L6 N v (nI x) T = some (r, V) → f_M_digest_L6 M v (nI x) U = some (r', W) → r = r' ∧ V = T ∧ W = U
  | 0, M, x, v, r, r', V, W, _, h1, h2 => by cases h1
  | N + 1, 0, x, v, r, r', V, W, _, h1, h2 => by cases h2
  | N + 1, M + 1, x, v, r, r', V, W, hx, h1, h2 => by
    have h72 := b.s.n72
    have hnt := b.s.nt24
    rw [f_Yard_digest_L6.eq_2, b.s.cn] at h1
    rw [f_M_digest_L6.eq_2, b.s.mn] at h2
    by_cases c : x = n
    · subst c
      rw [if_pos (nI_le (by omega) (by omega))] at h1 h2
      exact dgP b NF NF 0 v r r' V W (by omega) h1 h2
    · have hxn : x < n := by omega
      have tx := b.w.th x hxn
      have tc := b.thc x hxn
      rw [if_neg (nI_ge hxn (by omega)), f_Yard_digestThing.eq_1, f_State_isThere.eq_1, sg (f := 0) 0 rfl b.s.cn h72 hxn (by omega), bnd_r, Nat.add_zero] at h1
      rw [if_neg (nI_ge hxn (by omega)), grT (inb_nI (by omega) (by omega)), nI_clamp (n := x) (by omega)] at h2
      by_cases d : U.1 19 x = 0
      · rw [if_pos (tc.mpr (fun y => y d)), bnd_r, if_pos rfl, bndl_r, nmR, nI_1] at h1
        rw [if_pos d, nmR, f_M_digest_j184.eq_1, nmR, nI_1] at h2
        exact dgT b N M (x + 1) _ r r' V W (by omega) h1 h2
      · obtain ⟨t, p, q, ht, hq, hq2, hp, e20, e21, e79⟩ := b.pos hxn d
        have g : ∀ f, f < 11 → ∀ a : Int32, a = nI f → f_State_get (nI x) a T = some (T.1 79 (154 + 11 * x + f), T) := fun f hf a ha => sg a ha b.s.cn h72 hxn hf
        have l3 := tx.look
        have l4 := tx.m0
        have l5 := tx.m1
        have l7 := tx.flt
        have l8 := tx.jam
        have l10 := tx.run
        have l9 := tx.dgr
        have l14 := tx.tst
        rw [sv_3 U (by omega)] at l3
        rw [sv_4 U (by omega)] at l4
        rw [sv_5 U (by omega)] at l5
        rw [sv_7 U (by omega)] at l7
        rw [sv_8 U (by omega)] at l8
        rw [sv_10 U (by omega)] at l10
        rw [sv_9 U (by omega)] at l9
        rw [sv_14 U (by omega)] at l14
        rw [if_neg (fun y => (tc.mp y) d), bnd_r, if_neg (by decide), g 0 (by omega) 0 rfl, bnd_r, nmR, g 1 (by omega) 1 rfl, bnd_r, nmR, g 2 (by omega) 2 rfl, bnd_r, nmR, g 3 (by omega) 3 rfl, bnd_r, nmR, g 5 (by omega) 5 rfl, bnd_r, nmR, g 6 (by omega) 6 rfl, bnd_r, nmR, g 8 (by omega) 8 rfl, bnd_r, nmR, g 7 (by omega) 7 rfl, bnd_r, nmR, g 10 (by omega) 10 rfl, bnd_r, bndl_r, nmR, nI_1, Nat.add_zero, e79, l3, l4, l5, l7, l8, l10, l9, l14] at h1
        rw [if_neg d, grT (inb_nI (by omega) (by omega)), grT (inb_nI (by omega) (by omega)), nmR, grT (inb_nI (by omega) (by omega)), nmR, nM2, nI_1, grT (inb_nI (by omega) (by omega)), nmR, grT (inb_nI (by omega) (by omega)), nmR, grT (inb_nI (by omega) (by omega)), nmR, grT (inb_nI (by omega) (by omega)), nmR, grT (inb_nI (by omega) (by omega)), nmR, grT (inb_nI (by omega) (by omega)), nmR, grT (inb_nI (by omega) (by omega)), nI_clamp (n := 2 * x) (by omega), nI_clamp (n := 2 * x + 1) (by omega), e20, e21, nM24, nI_add] at h2
        by_cases y : U.1 34 x = 0
        · rw [if_pos y] at h1
          rw [if_pos y, f_M_digest_j181.eq_1, nmR, f_M_digest_j184.eq_1, nmR, nI_1] at h2
          exact dgT b N M (x + 1) _ r r' V W (by omega) h1 h2
        · rw [if_neg y] at h1
          rw [if_neg y, f_M_digest_j181.eq_1, nmR, f_M_digest_j184.eq_1, nmR, nI_1] at h2
          exact dgT b N M (x + 1) _ r r' V W (by omega) h1 h2
theorem digest_st {n np nt L : Nat} {S S1 S2 : SS} {r1 r2 : Int64} (h : Dz n np nt L S) (hW : WR S) (hW1 : WR S1) (z : Fg S S1 S2) (e1 : f_Yard_digest S = some (r1, S1)) (e2 : f_M_digest S1 = some (r2, S2)) : r1 = r2 ∧ S1 = S ∧ S2 = S1 := by
  rw [f_Yard_digest.eq_1] at e1
  rw [f_M_digest.eq_1] at e2
  exact dgT ((h.dw1 z).bo hW1) NF NF 0 7 r1 r2 S1 S2 (by omega) e1 e2
/-! ===== what a call leaves that touches nothing of it ===== -/
def rC (k : Nat) : Prop := k = 62 ∨ k = 63 ∨ k = 64 ∨ k = 66 ∨ k = 67 ∨ k = 68 ∨ k = 75 ∨ k = 76 ∨ k = 78 ∨ k = 79 ∨ (81 ≤ k ∧ k ≤ 102) ∨ k = 105
def rM (k : Nat) : Prop := (2 ≤ k ∧ k ≤ 38) ∨ k = 40 ∨ k = 41 ∨ k = 42
def rF (i : Nat) : Prop := i = 5 ∨ i = 7 ∨ i = 14 ∨ i = 15 ∨ i = 19 ∨ i = 29 ∨ i = 47 ∨ i = 48 ∨ i = 49 ∨ i = 60 ∨ i = 61 ∨ i = 62
theorem Dz.kf {n np nt L : Nat} {S S2 : SS} (h : Dz n np nt L S) (c : ∀ k, rC k → S2.1 k = S.1 k) (m : ∀ k, rM k → S2.1 k = S.1 k) (f : ∀ i, rF i → S2.1 0 i = S.1 0 i) : Dz n np nt L S2 := by
  have hd := h.dw
  obtain ⟨h1, h2, h3, h4, h5, ⟨l1, l2, l3, l4, l5, l6⟩, u, b, o, k1, k2, k3, k4, k5, k6⟩ := hd
  have M : ∀ k, (2 ≤ k ∧ k ≤ 38) ∨ k = 40 ∨ k = 41 ∨ k = 42 → S2.1 k = S.1 k := m
  have sve : sv S2 = sv S := funext fun j => by
    unfold sv
    rw [M 19 (by omega), M 20 (by omega), M 21 (by omega), M 22 (by omega), M 23 (by omega), M 24 (by omega), M 25 (by omega), M 26 (by omega), M 27 (by omega), M 30 (by omega), M 31 (by omega), M 32 (by omega), M 33 (by omega), M 34 (by omega), M 10 (by omega), M 11 (by omega), f 48 (by unfold rF; omega)]
  have C : ∀ k, (k = 62 ∨ k = 63 ∨ k = 64 ∨ k = 66 ∨ k = 67 ∨ k = 68 ∨ k = 75 ∨ k = 76 ∨ k = 78 ∨ k = 79 ∨ (81 ≤ k ∧ k ≤ 102) ∨ k = 105) → S2.1 k = S.1 k := c
  have F : ∀ i, (i = 5 ∨ i = 7 ∨ i = 14 ∨ i = 15 ∨ i = 19 ∨ i = 29 ∨ i = 47 ∨ i = 48 ∨ i = 49 ∨ i = 60 ∨ i = 61 ∨ i = 62) → S2.1 0 i = S.1 0 i := f
  refine Dw.dz ⟨h1.fr (fun k hk => C k (by omega)) (fun k hk => M k (by omega)) (fun j hj => F j (by omega)), ?_, ⟨?_, fun j => ?_⟩, ?_, fun j => ?_, ⟨l1, ?_, ?_, ?_, fun j hj => ?_, fun j hj => ?_⟩, u, b, o, ?_, ?_, ?_, ?_, ?_, ?_⟩
  · rw [M 3 (by omega), M 18 (by omega), F 47 (by omega), sve, C 79 (by omega)]; exact h2
  · rw [C 62 (by omega), F 5 (by omega)]; exact h3.n
  · rw [C 78 (by omega), M 2 (by omega)]; exact h3.r j
  · rw [C 68 (by omega), F 49 (by omega)]; exact h4
  · rw [C 76 (by omega), M 38 (by omega)]; exact h5 j
  · rw [F 62 (by omega)]; exact l2
  · rw [C 64 (by omega)]; exact l3
  · rw [C 64 (by omega)]; exact l4
  · rw [C 89 (by omega), M 41 (by omega)]; exact l5 j hj
  · rw [C 90 (by omega), M 42 (by omega)]; exact l6 j hj
  · rw [F 60 (by omega)]; exact k1
  · rw [F 61 (by omega)]; exact k2
  · rw [C 64 (by omega)]; exact k3
  · rw [C 64 (by omega)]; exact k4
  · rw [C 64 (by omega)]; exact k5
  · have e : ∀ i, i < 8 → S2.1 (81 + i) = S.1 (81 + i) := fun i hi => C _ (by omega)
    rw [M 3 (by omega), M 18 (by omega), F 47 (by omega), M 40 (by omega)]
    refine ⟨k6.ub, k6.o8, fun s hs => ?_, fun s hs => ?_⟩
    · have g := k6.un s hs
      show Rw _ _ _ _ _ _ _ (S2.1 (81 + (o + s) % 8))
      rw [e ((o + s) % 8) (by omega)]; exact g
    · have g := k6.bk s hs
      show Rw _ _ _ _ _ _ _ (S2.1 (81 + (o + u + (b - 1 - s)) % 8))
      rw [e ((o + u + (b - 1 - s)) % 8) (by omega)]; exact g
theorem Dz.gh {n np nt L : Nat} {S : SS} (h : Dz n np nt L S) (d : Nat) : Dz n np nt L (gho S d) := h.kf (fun _ _ => rfl) (fun _ _ => rfl) (fun _ _ => rfl)
/-! ===== undo, back ===== -/
theorem ub_y {n np nt L : Nat} {S S1 S2 : SS} (h : Dz n np nt L S) (r : Rst n np nt S2) (C : ∀ k, (k = 62 ∨ k = 63 ∨ k = 66 ∨ k = 67 ∨ k = 68 ∨ k = 75 ∨ k = 76 ∨ k = 78 ∨ (89 ≤ k ∧ k ≤ 102) ∨ k = 105) → S2.1 k = S.1 k) (c4 : S2.1 64 4 = S.1 64 4) (c5 : S2.1 64 5 = S.1 64 5) (M : ∀ k, ((2 ≤ k ∧ k ≤ 9) ∨ (12 ≤ k ∧ k ≤ 18) ∨ k = 28 ∨ k = 29 ∨ (35 ≤ k ∧ k ≤ 38) ∨ k = 41 ∨ k = 42) → S2.1 k = S.1 k) (F : ∀ i, (i = 5 ∨ i = 7 ∨ i = 14 ∨ i = 15 ∨ i = 19 ∨ i = 29 ∨ i = 49 ∨ i = 62) → S2.1 0 i = S.1 0 i) : Dz n np nt L S2 := by
  refine ⟨r, ⟨h.l.l6, ?_, ?_, ?_, fun i hi => ?_, fun i hi => ?_⟩, ⟨?_, fun i => ?_⟩, h.s.fr (fun k hk => C k (by omega)) (fun k hk => M k (by omega)) (fun i hi => F i (by omega)), ?_, fun i => ?_⟩
  · rw [F 62 (by omega)]; exact h.l.m
  · rw [c4]; exact h.l.c4
  · rw [c5]; exact h.l.c5
  · rw [C 89 (by omega), M 41 (by omega)]; exact h.l.ac i hi
  · rw [C 90 (by omega), M 42 (by omega)]; exact h.l.an i hi
  · rw [C 62 (by omega), F 5 (by omega)]; exact h.e.n
  · rw [C 78 (by omega), M 2 (by omega)]; exact h.e.r i
  · rw [C 68 (by omega), F 49 (by omega)]; exact h.sr
  · rw [C 76 (by omega), M 38 (by omega)]; exact h.ro i
/-! ===== makers: what they change of what no act changes ===== -/
def rep (S : SS) (k : Nat) (r : Nat → Int32) : SS := (fun a => if a = k then r else S.1 a, S.2)
theorem rep_eq {S T : SS} {k : Nat} {P : Nat → Prop} (h : ∀ a, a ≠ k → P a → S.1 a = T.1 a) : ∀ a, P a → (rep S k (T.1 k)).1 a = T.1 a := fun a ha => by
  show (if a = k then T.1 k else S.1 a) = T.1 a
  by_cases c : a = k
  · rw [if_pos c, c]
  · rw [if_neg c]; exact h a c ha
def sC (k : Nat) : Prop := k = 63 ∨ k = 66 ∨ k = 67 ∨ k = 75 ∨ (91 ≤ k ∧ k ≤ 102) ∨ k = 105
def sM (k : Nat) : Prop := (3 ≤ k ∧ k ≤ 9) ∨ (12 ≤ k ∧ k ≤ 18) ∨ k = 28 ∨ k = 29 ∨ (35 ≤ k ∧ k ≤ 37)
def sF (i : Nat) : Prop := i = 7 ∨ i = 14 ∨ i = 15 ∨ i = 19 ∨ i = 29
theorem Sta.r1 {n np nt : Nat} {T U V W : SS} (k j : Nat) (h : Sta n np nt T U) (c : ∀ a, a ≠ k → sC a → V.1 a = T.1 a) (m : ∀ a, a ≠ j → sM a → W.1 a = U.1 a) (f : ∀ i, sF i → W.1 0 i = U.1 0 i) (hj : j ≠ 0) : Sta n np nt (rep V k (T.1 k)) (rep W j (U.1 j)) := h.fr (rep_eq (P := sC) c) (rep_eq (P := sM) m) (fun i hi => by
  show (if 0 = j then U.1 j else W.1 0) i = U.1 0 i
  rw [if_neg (Ne.symm hj)]; exact f i hi)
theorem Dw.upd {n np nt L n' np' nt' : Nat} {T U V W : SS} (h : Dw n np nt L T U) (s' : Sta n' np' nt' V W) (w' : Rw n' np' nt' (W.1 3) (W.1 18) (W.1 0 47).toInt (sv W) (V.1 79)) (c : ∀ k, (k = 62 ∨ k = 76 ∨ k = 78 ∨ k = 89 ∨ k = 90) → V.1 k = T.1 k) (sr : V.1 68 5 = W.1 0 49) (c4 : ∀ i, (i = 3 ∨ i = 4 ∨ i = 5) → V.1 64 i = T.1 64 i) (m : ∀ k, (k = 2 ∨ k = 38 ∨ k = 41 ∨ k = 42) → W.1 k = U.1 k) (f : ∀ i, (i = 5 ∨ i = 62) → W.1 0 i = U.1 0 i) (z6 : V.1 64 6 = 0) (z7 : V.1 64 7 = 0) (z60 : W.1 0 60 = 0) (z61 : W.1 0 61 = 0) : Dw n' np' nt' L V W := by
  obtain ⟨h1, h2, h3, h4, h5, ⟨l1, l2, l3, l4, l5, l6⟩, u, b, o, k1, k2, k3, k4, k5, k6⟩ := h
  refine ⟨s', w', ⟨?_, fun j => ?_⟩, sr, fun j => ?_, ⟨l1, ?_, ?_, ?_, fun j hj => ?_, fun j hj => ?_⟩, 0, 0, o, z60, z61, z6, z7, ?_, Kp.none_ k6.o8⟩
  · rw [c 62 (by omega), f 5 (by omega)]; exact h3.n
  · rw [c 78 (by omega), m 2 (by omega)]; exact h3.r j
  · rw [c 76 (by omega), m 38 (by omega)]; exact h5 j
  · rw [f 62 (by omega)]; exact l2
  · rw [c4 4 (by omega)]; exact l3
  · rw [c4 5 (by omega)]; exact l4
  · rw [c 89 (by omega), m 41 (by omega)]; exact l5 j hj
  · rw [c 90 (by omega), m 42 (by omega)]; exact l6 j hj
  · rw [c4 3 (by omega)]; exact k5
/-- the same, where THINGS and POINTS stay -/
theorem Dw.upd1 {n np nt L : Nat} {T U V W : SS} (h : Dw n np nt L T U) (s' : Sta n np nt V W) (c : ∀ k, (k = 62 ∨ k = 68 ∨ k = 76 ∨ k = 78 ∨ k = 79 ∨ k = 89 ∨ k = 90) → V.1 k = T.1 k) (c4 : ∀ i, (i = 3 ∨ i = 4 ∨ i = 5) → V.1 64 i = T.1 64 i) (m : ∀ k, (k = 2 ∨ k = 3 ∨ k = 10 ∨ k = 11 ∨ (18 ≤ k ∧ k ≤ 27) ∨ (30 ≤ k ∧ k ≤ 34) ∨ k = 38 ∨ k = 41 ∨ k = 42) → W.1 k = U.1 k) (f : ∀ i, (i = 5 ∨ i = 47 ∨ i = 48 ∨ i = 49 ∨ i = 62) → W.1 0 i = U.1 0 i) (z6 : V.1 64 6 = 0) (z7 : V.1 64 7 = 0) (z60 : W.1 0 60 = 0) (z61 : W.1 0 61 = 0) : Dw n np nt L V W := by
  have sve : sv W = sv U := funext fun j => by
    unfold sv
    rw [m 19 (by omega), m 20 (by omega), m 21 (by omega), m 22 (by omega), m 23 (by omega), m 24 (by omega), m 25 (by omega), m 26 (by omega), m 27 (by omega), m 30 (by omega), m 31 (by omega), m 32 (by omega), m 33 (by omega), m 34 (by omega), m 10 (by omega), m 11 (by omega), f 48 (by omega)]
  refine h.upd s' ?_ (fun k hk => c k (by omega)) ?_ c4 (fun k hk => m k (by omega)) (fun i hi => f i (by omega)) z6 z7 z60 z61
  · rw [m 3 (by omega), m 18 (by omega), f 47 (by omega), sve, c 79 (by omega)]; exact h.w
  · rw [c 68 (by omega), f 49 (by omega)]; exact h.sr
theorem fgC (T : SS) : f_History_forget T = some (st (st T 64 6 0) 64 7 0) := rfl
theorem fgM (U : SS) : f_M_forget U = some (st (st U 0 60 0) 0 61 0) := rfl
theorem sd_al (a : Int32) : (∃ e, e < 2 ∧ a = nI e ∧ inV a 0 1 = 0 ∧ ∀ S, f_M_isSide a S = some (1, S)) ∨ (¬ inV a 0 1 = 0 ∧ ∀ S, f_M_isSide a S = some (0, S)) := by
  by_cases q0 : a = 0
  · exact Or.inl ⟨0, by omega, q0, by rw [q0]; decide, fun S => by rw [f_M_isSide.eq_1, if_pos q0]⟩
  · by_cases q1 : a = 1
    · exact Or.inl ⟨1, by omega, q1, by rw [q1]; decide, fun S => by rw [f_M_isSide.eq_1, if_neg q0, if_pos q1]⟩
    · refine Or.inr ⟨fun z => ?_, fun S => by rw [f_M_isSide.eq_1, if_neg q0, if_neg q1]⟩
      obtain ⟨j, -, h, ej⟩ := in_n (l := 0) (h := 1) rfl rfl (by omega) (by omega) z
      rcases (show j = 0 ∨ j = 1 by omega) with rfl | rfl
      · exact q0 ej
      · exact q1 ej
/-! ===== exit ===== -/
/-- what is told of THINGS and LAYOUT changes, the rest stays -/
theorem Dw.sta0 {n np nt L : Nat} {T U V W : SS} (h : Dw n np nt L T U) (s' : Sta n np nt V W) (c : ∀ k, (k = 62 ∨ k = 64 ∨ k = 68 ∨ k = 76 ∨ k = 78 ∨ k = 79 ∨ (81 ≤ k ∧ k ≤ 90)) → V.1 k = T.1 k) (m : ∀ k, (k = 2 ∨ k = 3 ∨ k = 10 ∨ k = 11 ∨ (18 ≤ k ∧ k ≤ 27) ∨ (30 ≤ k ∧ k ≤ 34) ∨ k = 38 ∨ k = 40 ∨ k = 41 ∨ k = 42) → W.1 k = U.1 k) (f : ∀ i, (i = 5 ∨ i = 47 ∨ i = 48 ∨ i = 49 ∨ i = 60 ∨ i = 61 ∨ i = 62) → W.1 0 i = U.1 0 i) : Dw n np nt L V W := by
  obtain ⟨h1, h2, h3, h4, h5, ⟨l1, l2, l3, l4, l5, l6⟩, u, b, o, k1, k2, k3, k4, k5, k6⟩ := h
  have sve : sv W = sv U := funext fun j => by
    unfold sv
    rw [m 19 (by omega), m 20 (by omega), m 21 (by omega), m 22 (by omega), m 23 (by omega), m 24 (by omega), m 25 (by omega), m 26 (by omega), m 27 (by omega), m 30 (by omega), m 31 (by omega), m 32 (by omega), m 33 (by omega), m 34 (by omega), m 10 (by omega), m 11 (by omega), f 48 (by omega)]
  refine ⟨s', ?_, ⟨?_, fun j => ?_⟩, ?_, fun j => ?_, ⟨l1, ?_, ?_, ?_, fun j hj => ?_, fun j hj => ?_⟩, u, b, o, ?_, ?_, ?_, ?_, ?_, ?_⟩
  · rw [m 3 (by omega), m 18 (by omega), f 47 (by omega), sve, c 79 (by omega)]; exact h2
  · rw [c 62 (by omega), f 5 (by omega)]; exact h3.n
  · rw [c 78 (by omega), m 2 (by omega)]; exact h3.r j
  · rw [c 68 (by omega), f 49 (by omega)]; exact h4
  · rw [c 76 (by omega), m 38 (by omega)]; exact h5 j
  · rw [f 62 (by omega)]; exact l2
  · rw [c 64 (by omega)]; exact l3
  · rw [c 64 (by omega)]; exact l4
  · rw [c 89 (by omega), m 41 (by omega)]; exact l5 j hj
  · rw [c 90 (by omega), m 42 (by omega)]; exact l6 j hj
  · rw [f 60 (by omega)]; exact k1
  · rw [f 61 (by omega)]; exact k2
  · rw [c 64 (by omega)]; exact k3
  · rw [c 64 (by omega)]; exact k4
  · rw [c 64 (by omega)]; exact k5
  · have e : ∀ i, i < 8 → V.1 (81 + i) = T.1 (81 + i) := fun i hi => c _ (by omega)
    rw [m 3 (by omega), m 18 (by omega), f 47 (by omega), m 40 (by omega)]
    refine ⟨k6.ub, k6.o8, fun s hs => ?_, fun s hs => ?_⟩
    · have g := k6.un s hs
      show Rw _ _ _ _ _ _ _ (V.1 (81 + (o + s) % 8))
      rw [e ((o + s) % 8) (by omega)]; exact g
    · have g := k6.bk s hs
      show Rw _ _ _ _ _ _ _ (V.1 (81 + (o + u + (b - 1 - s)) % 8))
      rw [e ((o + u + (b - 1 - s)) % 8) (by omega)]; exact g
theorem Dw.fg {n np nt L : Nat} {T U : SS} (h : Dw n np nt L T U) : Dw n np nt L (st (st T 64 6 0) 64 7 0) (st (st U 0 60 0) 0 61 0) := by
  have C : ∀ a, a ≠ 64 → (st (st T 64 6 0) 64 7 0).1 a = T.1 a := fun a q => by rw [st_row _ _ _ _ q, st_row _ _ _ _ q]
  have M : ∀ a, a ≠ 0 → (st (st U 0 60 0) 0 61 0).1 a = U.1 a := fun a q => by rw [st_row _ _ _ _ q, st_row _ _ _ _ q]
  have F : ∀ a, a ≠ 60 → a ≠ 61 → (st (st U 0 60 0) 0 61 0).1 0 a = U.1 0 a := fun a p q => by rw [st_no (by omega), st_no (by omega)]
  refine h.upd1 (h.s.fr (fun k hk => C k (by omega)) (fun k hk => M k (by omega)) (fun i hi => F i (by omega) (by omega))) (fun a q => C a (by omega)) (fun a q => by rw [st_no (by omega), st_no (by omega)]) (fun a q => M a (by omega)) (fun a q => F a (by omega) (by omega)) ?_ ?_ ?_ ?_
  · rw [st_no (by omega), st_here]
  · rw [st_here]
  · rw [st_no (by omega), st_here]
  · rw [st_here]
theorem Dw.row0 {n np nt L k j i : Nat} {v : Int32} {T U : SS} (h : Dw n np nt L T U) (hk : (k = 98 ∧ j = 4) ∨ (k = 105 ∧ j = 16) ∨ (k = 75 ∧ j = 17)) : Dw n np nt L (st T k i v) (st U j i v) := by
  have C : ∀ a, a ≠ k → (st T k i v).1 a = T.1 a := fun a p => st_row _ _ _ _ p
  have M : ∀ a, a ≠ j → (st U j i v).1 a = U.1 a := fun a p => st_row _ _ _ _ p
  have F : ∀ a, (st U j i v).1 0 a = U.1 0 a := fun a => by rw [M 0 (by omega)]
  have ro : ∀ e : (∀ a, T.1 k a = U.1 j a), ∀ a, (st T k i v).1 k a = (st U j i v).1 j a := fun e a => by rw [st_at, st_at, if_pos rfl, if_pos rfl, e]
  have h0 := h.s.r1 (V := st T k i v) (W := st U j i v) k j (fun a p q => C a p) (fun a p q => M a p) (fun a q => F a) (by omega)
  have sk' : ∀ x, x < n → Stk (st T k i v) (st U j i v) x := fun x hx => (h.s.sk x hx).fr (C 91 (by omega)) (C 92 (by omega)) (fun a ha => M a (by omega))
  refine h.sta0 ?_ (fun a q => C a (by omega)) (fun a q => M a (by omega)) (fun a q => F a)
  rcases hk with ⟨rfl, rfl⟩ | ⟨rfl, rfl⟩ | ⟨rfl, rfl⟩
  · exact (Sta.mk_ (n72_ := h0.n72)
    (np40_ := h0.np40)
    (nt24_ := h0.nt24)
    (cn_ := h0.cn)
    (mn_ := h0.mn)
    (cp_ := h0.cp)
    (mp_ := h0.mp)
    (ct_ := h0.ct)
    (mt_ := h0.mt)
    (pl_ := h0.pl)
    (e3_ := h0.e3)
    (e5_ := h0.e5)
    (e9_ := h0.e9)
    (e6_ := h0.e6)
    (e7_ := h0.e7)
    (e4_ := ro h.s.e4)
    (pa_ := h0.pa)
    (pe_ := h0.pe)
    (lm_ := h0.lm)
    (lt_ := h0.lt)
    (li_ := h0.li)
    (ls_ := h0.ls)
    (ld_ := h0.ld)
    (er_ := h0.er)
    (r19_ := h0.r19)
    (e12_ := h0.e12)
    (e13_ := h0.e13)
    (e14_ := h0.e14)
    (e15_ := h0.e15)
    (en_ := h0.en)
    (ep_ := h0.ep)
    (e16_ := h0.e16)
    (e17_ := h0.e17)
    (sk_ := sk')
    (sz_ := h0.sz))
  · exact (Sta.mk_ (n72_ := h0.n72)
    (np40_ := h0.np40)
    (nt24_ := h0.nt24)
    (cn_ := h0.cn)
    (mn_ := h0.mn)
    (cp_ := h0.cp)
    (mp_ := h0.mp)
    (ct_ := h0.ct)
    (mt_ := h0.mt)
    (pl_ := h0.pl)
    (e3_ := h0.e3)
    (e5_ := h0.e5)
    (e9_ := h0.e9)
    (e6_ := h0.e6)
    (e7_ := h0.e7)
    (e4_ := h0.e4)
    (pa_ := h0.pa)
    (pe_ := h0.pe)
    (lm_ := h0.lm)
    (lt_ := h0.lt)
    (li_ := h0.li)
    (ls_ := h0.ls)
    (ld_ := h0.ld)
    (er_ := h0.er)
    (r19_ := h0.r19)
    (e12_ := h0.e12)
    (e13_ := h0.e13)
    (e14_ := h0.e14)
    (e15_ := h0.e15)
    (en_ := h0.en)
    (ep_ := h0.ep)
    (e16_ := ro h.s.e16)
    (e17_ := h0.e17)
    (sk_ := sk')
    (sz_ := h0.sz))
  · exact (Sta.mk_ (n72_ := h0.n72)
    (np40_ := h0.np40)
    (nt24_ := h0.nt24)
    (cn_ := h0.cn)
    (mn_ := h0.mn)
    (cp_ := h0.cp)
    (mp_ := h0.mp)
    (ct_ := h0.ct)
    (mt_ := h0.mt)
    (pl_ := h0.pl)
    (e3_ := h0.e3)
    (e5_ := h0.e5)
    (e9_ := h0.e9)
    (e6_ := h0.e6)
    (e7_ := h0.e7)
    (e4_ := h0.e4)
    (pa_ := h0.pa)
    (pe_ := h0.pe)
    (lm_ := h0.lm)
    (lt_ := h0.lt)
    (li_ := h0.li)
    (ls_ := h0.ls)
    (ld_ := h0.ld)
    (er_ := h0.er)
    (r19_ := h0.r19)
    (e12_ := h0.e12)
    (e13_ := h0.e13)
    (e14_ := h0.e14)
    (e15_ := h0.e15)
    (en_ := h0.en)
    (ep_ := h0.ep)
    (e16_ := h0.e16)
    (e17_ := ro h.s.e17)
    (sk_ := sk')
    (sz_ := h0.sz))
theorem Dw.row {n np nt L k j i : Nat} {v : Int32} {T U : SS} (h : Dw n np nt L T U) (hk : (k = 98 ∧ j = 4) ∨ (k = 105 ∧ j = 16) ∨ (k = 75 ∧ j = 17)) : Dw n np nt L (st (st (st T 64 6 0) 64 7 0) k i v) (st (st (st U j i v) 0 60 0) 0 61 0) := by
  have g := h.fg.row0 (k := k) (j := j) (i := i) (v := v) hk
  rw [st_comm (st U 0 60 0) 61 i 0 v (show (0 : Nat) ≠ j by omega), st_comm U 60 i 0 v (show (0 : Nat) ≠ j by omega)] at g
  exact g
theorem exit_st {n np nt L : Nat} {S S1 S2 : SS} {a1 a2 a3 r1 r2 : Int32} (h : Dz n np nt L S) (hW1 : WR S1) (z : Fg S S1 S2) (e1 : f_Yard_exit a1 a2 a3 S = some (r1, S1)) (e2 : f_M_exit a1 a2 a3 S1 = some (r2, S2)) : Ay L r1 r2 S2 := by
  rw [f_Yard_exit.eq_1, in_v, bnd_r] at e1
  rw [f_M_exit.eq_1] at e2
  rcases sd_al a2 with ⟨e, he, rfl, i0, is⟩ | ⟨i0, is⟩
  · rw [if_pos i0] at e1
    rw [is, bnd_r, if_neg (by decide)] at e2
    refine beg_al h hW1 z (fun T U b d _ g1 g2 => ?_) e1 e2
    have hnt := b.s.nt24
    rcases tf_al b a1 with ⟨t, q, ht, rfl, hq, q1, q2, c1, c2⟩ | ⟨r, hr, c1, c2⟩
    · rw [c1, bnd_r, if_pos rfl, fgC, bndv_r, n2, f_Layout_setExit.eq_1, f_Layout_isEnd.eq_1, if_neg (nI_nn (by omega)), if_neg (show ¬ (48 : Int32) ≤ nI (2 * t + e) from nI_ge (b := 48) (by omega) (by omega)), bnd_r, if_neg (by decide), grT (inb_nI (by omega) (by omega)), nmR, grT (inb_nI (by omega) (by omega)), wr_r, nI_clamp (by omega), st_row _ _ _ _ (by decide), st_row _ _ _ _ (by decide), d.s.e4] at g1
      rw [c2, bnd_r, ends_0, bnd_r, if_pos rfl, n2, grT (inb_nI (by omega) (by omega)), nI_clamp (by omega)] at g2
      replace g1 := bnd_i g1
      obtain ⟨r8, T8, g0, g1⟩ := g1
      replace g0 := (grd_i g0).2
      obtain ⟨rfl, rfl⟩ := so_i g0
      have j : ∀ y, f_M_exit_j46 (nI t) (nI e) a3 y U = some (r2, S2) → r2 = y ∧ S2 = st (st (st U 4 (2 * t + e) (vp_nar .boolean a3)) 0 60 0) 0 61 0 := fun y g => by
        rw [f_M_exit_j46.eq_1, n2, grT (inb_nI (by omega) (by omega)), wr_r, fgM, bndv_r, nI_clamp (by omega)] at g
        exact so_i g
      by_cases w : U.1 4 (2 * t + e) = 0
      · rw [if_pos w] at g1 g2
        obtain ⟨rfl, rfl⟩ := so_i g1
        obtain ⟨rfl, rfl⟩ := j _ g2
        exact ⟨rfl, n, np, nt, d.row (Or.inl ⟨rfl, rfl⟩)⟩
      · rw [if_neg w] at g1 g2
        obtain ⟨rfl, rfl⟩ := so_i g1
        obtain ⟨rfl, rfl⟩ := j _ g2
        exact ⟨rfl, n, np, nt, d.row (Or.inl ⟨rfl, rfl⟩)⟩
    · rw [c1, bnd_r, if_neg hr] at g1
      rw [c2, bnd_r] at g2
      replace g1 := bnd_i g1
      obtain ⟨q, V, l, g1⟩ := g1
      replace g2 := bnd_i g2
      obtain ⟨q', W, m2, g2⟩ := g2
      obtain ⟨y1, y2⟩ := fnd_al b l hr m2 g1 g2
      exact ⟨y1, n, np, nt, d.qz y2⟩
  · rw [if_neg i0] at e1
    rw [is, bnd_r, if_pos rfl] at e2
    exact ay_bad h e1 e2
/-! ===== table, bar ===== -/
theorem dw_y {L n' np' nt' : Nat} {S S1 S2 : SS} {r1 r2 : Int32} (z : Fg S S1 S2) (e : r1 = r2) (d : Dw n' np' nt' L S1 S2) : Ay L r1 r2 S2 := ⟨e, n', np', nt', L, by omega, d.dz2 z⟩
theorem table_st {n np nt L : Nat} {S S1 S2 : SS} {a1 a2 r1 r2 : Int32} (h : Dz n np nt L S) (z : Fg S S1 S2) (e1 : f_Yard_table a1 a2 S = some (r1, S1)) (e2 : f_M_table a1 a2 S1 = some (r2, S2)) : Ay L r1 r2 S2 := by
  have d := h.dw1 z
  rw [f_Yard_table.eq_1, in_v, bnd_r] at e1
  rw [f_M_table.eq_1] at e2
  by_cases q : inV a1 0 7 = 0
  · have q' := inV0.mp q
    obtain ⟨i, -, hi, rfl⟩ := in_n (l := 0) (h := 7) rfl rfl (by omega) (by omega) q
    rw [if_pos q, in_v, bnd_r] at e1
    rw [if_neg q'.1, if_neg (show ¬ (7 : Int32) < nI i from fun y => by have := (nI_ltJ (a := 7) (by omega) (by omega)).mp y; omega)] at e2
    by_cases w : inV a2 0 99 = 0
    · have w' := inV0.mp w
      rw [if_pos w, fgC, bndv_r, grT (inb_nI (by omega) (by omega)), nmR, grT (inb_nI (by omega) (by omega)), wr_r, nI_clamp (by omega), st_row _ _ _ _ (by decide), st_row _ _ _ _ (by decide)] at e1
      rw [if_neg w'.1, if_pos w'.2, grT (inb_nI (by omega) (by omega)), nmR, grT (inb_nI (by omega) (by omega)), wr_r, fgM, bndv_r, nI_clamp (by omega)] at e2
      obtain ⟨rfl, x1⟩ := so_i e1
      obtain ⟨rfl, x2⟩ := so_i e2
      have eq : S.1 75 i = S1.1 17 i := d.s.e17 i
      refine dw_y (n' := n) (np' := np) (nt' := nt) z eq ?_
      rw [x2]
      have := d.row (k := 75) (j := 17) (i := i) (v := a2) (Or.inr (Or.inr ⟨rfl, rfl⟩))
      rw [← x1] at this
      exact this
    · rw [if_neg w] at e1
      rw [in_no w] at e2
      exact ay_bad h e1 e2
  · rw [if_neg q] at e1
    have e2' : some ((-1 : Int32), S1) = some (r2, S2) := by
      by_cases c0 : a1 < 0
      · rw [if_pos c0] at e2; exact e2
      · rw [if_neg c0, if_pos (by
          rw [Int32.lt_iff_toInt_lt]
          have w : ¬ _ := fun y => q (inV0.mpr ⟨c0, y⟩)
          rw [Int32.le_iff_toInt_le] at w
          omega)] at e2
        exact e2
    exact ay_bad h e1 e2'
theorem bar_st {n np nt L : Nat} {S S1 S2 : SS} {a1 a2 a3 r1 r2 : Int32} (h : Dz n np nt L S) (z : Fg S S1 S2) (e1 : f_Yard_bar a1 a2 a3 S = some (r1, S1)) (e2 : f_M_bar a1 a2 a3 S1 = some (r2, S2)) : Ay L r1 r2 S2 := by
  have d := h.dw1 z
  rw [f_Yard_bar.eq_1, in_v, bnd_r] at e1
  rw [f_M_bar.eq_1] at e2
  by_cases q : inV a1 0 9 = 0
  · have q' := inV0.mp q
    obtain ⟨i, -, hi, rfl⟩ := in_n (l := 0) (h := 9) rfl rfl (by omega) (by omega) q
    rw [if_pos q, in_v, bnd_r] at e1
    rw [if_neg q'.1, if_neg (show ¬ (9 : Int32) < nI i from fun y => by have := (nI_ltJ (a := 9) (by omega) (by omega)).mp y; omega)] at e2
    by_cases w : inV a2 0 9 = 0
    · have w' := inV0.mp w
      obtain ⟨j, -, hj, rfl⟩ := in_n (l := 0) (h := 9) rfl rfl (by omega) (by omega) w
      have e10 : (10 : Int32) * nI i = nI (10 * i) := nI_mul 10 i
      have e10' : (10 : Int32) * nI j = nI (10 * j) := nI_mul 10 j
      rw [if_pos w, fgC, bndv_r, f_Bodies_setBarred.eq_1, f_Bodies_isBarred.eq_1, in_v, bnd_r, if_pos q, in_v, bnd_r, if_pos w, e10, e10', nI_add, nI_add, grT (inb_nI (by omega) (by omega)), nI_clamp (n := 10 * i + j) (by omega), nI_clamp (n := 10 * j + i) (by omega), st_row _ _ _ _ (by decide), st_row _ _ _ _ (by decide), show S.1 105 (10 * i + j) = S1.1 16 (10 * i + j) from d.s.e16 _] at e1
      rw [if_neg w'.1, if_pos w'.2, e10, nI_add, grT (inb_nI (by omega) (by omega)), nI_clamp (by omega)] at e2
      have jj : ∀ y, f_M_bar_j41 (nI i) (nI j) a3 y S1 = some (r2, S2) → r2 = y ∧ S2 = st (st (st (st S1 16 (10 * i + j) (vp_nar .boolean a3)) 16 (10 * j + i) (vp_nar .boolean a3)) 0 60 0) 0 61 0 := fun y g => by
        rw [f_M_bar_j41.eq_1, e10, e10', nI_add, nI_add, grT (inb_nI (by omega) (by omega)), wr_r, grT (inb_nI (by omega) (by omega)), wr_r, fgM, bndv_r, nI_clamp (n := 10 * i + j) (by omega), nI_clamp (n := 10 * j + i) (by omega)] at g
        exact so_i g
      have cc : ∀ y : Int32, bnd (some (y, st (st S 64 6 0) 64 7 0)) (fun r2 S1 => bnd (f_Yard_isNot (nI i) (0 : Int32) (9 : Int32) S1) (fun r4 S3 => if r4 = 0 then bnd (f_Yard_isNot (nI j) (0 : Int32) (9 : Int32) S3) (fun r6 S5 => if r6 = 0 then grd (inb (nI (10 * i + j)) 100) (wr S5 105 (10 * i + j) (vp_nar .boolean a3) (fun S7 => grd (inb (nI (10 * j + i)) 100) (wr S7 105 (10 * j + i) (vp_nar .boolean a3) (fun S8 => grd (isB r2) (some (r2, S8)))))) else grd (isB r2) (some (r2, S5))) else grd (isB r2) (some (r2, S3)))) = grd (isB y) (some (y, st (st (st (st S 64 6 0) 64 7 0) 105 (10 * i + j) (vp_nar .boolean a3)) 105 (10 * j + i) (vp_nar .boolean a3))) := fun y => by
        rw [bnd_r, in_v, bnd_r, if_pos q, in_v, bnd_r, if_pos w, grT (inb_nI (by omega) (by omega)), wr_r, grT (inb_nI (by omega) (by omega)), wr_r]
      -- both rows changed twice
      have dd : Dw n np nt L (st (st (st (st S 64 6 0) 64 7 0) 105 (10 * i + j) (vp_nar .boolean a3)) 105 (10 * j + i) (vp_nar .boolean a3)) (st (st (st (st S1 16 (10 * i + j) (vp_nar .boolean a3)) 16 (10 * j + i) (vp_nar .boolean a3)) 0 60 0) 0 61 0) := by
        have d1 := (d.fg.row0 (k := 105) (j := 16) (i := 10 * i + j) (v := vp_nar .boolean a3) (Or.inr (Or.inl ⟨rfl, rfl⟩))).row0 (k := 105) (j := 16) (i := 10 * j + i) (v := vp_nar .boolean a3) (Or.inr (Or.inl ⟨rfl, rfl⟩))
        have e : ∀ (X : SS) (a b : Nat) (v : Int32), st (st (st (st X 0 60 0) 0 61 0) 16 a v) 16 b v = st (st (st (st X 16 a v) 16 b v) 0 60 0) 0 61 0 := fun X a b v => by
          rw [st_comm (st X 0 60 0) 61 a 0 v (by decide), st_comm X 60 a 0 v (by decide), st_comm (st (st X 16 a v) 0 60 0) 61 b 0 v (by decide), st_comm (st X 16 a v) 60 b 0 v (by decide)]
        rw [e] at d1
        exact d1
      by_cases y : S1.1 16 (10 * i + j) = 0
      · rw [if_pos y, cc] at e1
        rw [if_pos y] at e2
        obtain ⟨rfl, x2⟩ := jj _ e2
        replace e1 := bnd_i e1
        obtain ⟨r7, S6, g, e1⟩ := e1
        replace g := (grd_i g).2
        obtain ⟨rfl, x1⟩ := so_i g
        rw [if_pos rfl] at e1
        obtain ⟨rfl, x3⟩ := so_i e1
        refine dw_y (n' := n) (np' := np) (nt' := nt) z rfl ?_
        rw [x2]
        rw [← x1, ← x3] at dd
        exact dd
      · rw [if_neg y, cc] at e1
        rw [if_neg y] at e2
        obtain ⟨rfl, x2⟩ := jj _ e2
        replace e1 := bnd_i e1
        obtain ⟨r7, S6, g, e1⟩ := e1
        replace g := (grd_i g).2
        obtain ⟨rfl, x1⟩ := so_i g
        rw [if_neg (by decide)] at e1
        obtain ⟨rfl, x3⟩ := so_i e1
        refine dw_y (n' := n) (np' := np) (nt' := nt) z rfl ?_
        rw [x2]
        rw [← x1, ← x3] at dd
        exact dd
    · rw [if_neg w] at e1
      rw [in_no w] at e2
      exact ay_bad h e1 e2
  · rw [if_neg q] at e1
    have e2' : some ((-1 : Int32), S1) = some (r2, S2) := by
      by_cases c0 : a1 < 0
      · rw [if_pos c0] at e2; exact e2
      · rw [if_neg c0, if_pos (by
          rw [Int32.lt_iff_toInt_lt]
          have w : ¬ _ := fun y => q (inV0.mpr ⟨c0, y⟩)
          rw [Int32.le_iff_toInt_le] at w
          omega)] at e2
        exact e2
    exact ay_bad h e1 e2'
end
section
theorem rep2_eq {S T : SS} {k j : Nat} {P : Nat → Prop} (h : ∀ a, a ≠ k → a ≠ j → P a → S.1 a = T.1 a) : ∀ a, P a → (rep (rep S k (T.1 k)) j (T.1 j)).1 a = T.1 a := fun a ha => by
  show (if a = j then T.1 j else if a = k then T.1 k else S.1 a) = T.1 a
  by_cases c : a = j
  · rw [if_pos c, c]
  · rw [if_neg c]
    by_cases e : a = k
    · rw [if_pos e, e]
    · rw [if_neg e]; exact h a e c ha
theorem rep3_eq {S T : SS} {k j l : Nat} {P : Nat → Prop} (h : ∀ a, a ≠ k → a ≠ j → a ≠ l → P a → S.1 a = T.1 a) : ∀ a, P a → (rep (rep (rep S k (T.1 k)) j (T.1 j)) l (T.1 l)).1 a = T.1 a := fun a ha => by
  show (if a = l then T.1 l else if a = j then T.1 j else if a = k then T.1 k else S.1 a) = T.1 a
  by_cases c : a = l
  · rw [if_pos c, c]
  · rw [if_neg c]
    by_cases e : a = j
    · rw [if_pos e, e]
    · rw [if_neg e]
      by_cases f : a = k
      · rw [if_pos f, f]
      · rw [if_neg f]; exact h a f e c ha
/-! ===== route ===== -/
theorem route_st {n np nt L : Nat} {S S1 S2 : SS} {r1 r2 : Int32} (h : Dz n np nt L S) (z : Fg S S1 S2) (e1 : f_Yard_route S = some (r1, S1)) (e2 : f_M_route S1 = some (r2, S2)) : Ay L r1 r2 S2 := by
  have d := h.dw1 z
  obtain ⟨R, hR, eR, r0⟩ := d.s.r19
  have cR : S.1 67 8 = nI R := d.s.er.trans eR
  rw [f_Yard_route.eq_1, cR] at e1
  rw [f_M_route.eq_1, eR] at e2
  by_cases c : R < 12
  · rw [if_pos (show nI R < (12 : Int32) from (nI_ltJ (b := 12) (by omega) (by omega)).mpr c), fgC, bndv_r, f_Routes_addRoute.eq_1, st_row _ _ _ _ (by decide), st_row _ _ _ _ (by decide), cR, if_pos (show nI R < (12 : Int32) from (nI_ltJ (b := 12) (by omega) (by omega)).mpr c), wr_r, bnd_r, st_here, nI_1, n_m1 (by omega) (by omega), Nat.add_sub_cancel] at e1
    rw [if_neg (show ¬ nI R = (12 : Int32) from fun y => by have := nI_inj (b := 12) (by omega) (by omega) y; omega), grT (inb_nI (by omega) (by omega)), wr_r, wr_r, st_row _ _ _ _ (by decide), eR, nI_1, fgM, bndv_r, nI_clamp (by omega), st_no (by omega), st_no (by omega), st_here, n_m1 (by omega) (by omega), Nat.add_sub_cancel] at e2
    obtain ⟨rfl, x1⟩ := so_i e1
    obtain ⟨rfl, x2⟩ := so_i e2
    have z12 : st (st (st (st S1 12 R 0) 0 19 (nI (R + 1))) 0 60 0) 0 61 0 = st (st (st S1 0 19 (nI (R + 1))) 0 60 0) 0 61 0 := by
      have : st S1 12 R 0 = S1 := by
        have := st_same S1 12 R
        rw [r0 R (Nat.le_refl _) c] at this
        exact this
      rw [this]
    rw [z12] at x2
    have C : ∀ a, a ≠ 64 → a ≠ 67 → S1.1 a = S.1 a := fun a p q => by rw [x1, st_row _ _ _ _ q, st_row _ _ _ _ p, st_row _ _ _ _ p]
    have M : ∀ a, a ≠ 0 → S2.1 a = S1.1 a := fun a p => by rw [x2, st_row _ _ _ _ p, st_row _ _ _ _ p, st_row _ _ _ _ p]
    have F : ∀ i, i ≠ 19 → i ≠ 60 → i ≠ 61 → S2.1 0 i = S1.1 0 i := fun i p q r => by rw [x2, st_no (by omega), st_no (by omega), st_no (by omega)]
    have m19 : S2.1 0 19 = nI (R + 1) := by rw [x2, st_no (by omega), st_no (by omega), st_here]
    have c67 : S1.1 67 8 = nI (R + 1) := by rw [x1, st_here]
    have h0 : Sta n np nt (rep S1 67 (S.1 67)) (rep S2 0 (S1.1 0)) := d.s.fr (rep_eq (P := sC) (fun a p q => C a (by unfold sC at q; omega) p)) (rep_eq (P := sM) (fun a p q => M a p)) (fun i _ => rfl)
    refine dw_y (n' := n) (np' := np) (nt' := nt) z rfl (d.upd1 (show Sta n np nt S1 S2 from Sta.mk_ (n72_ := h0.n72)
      (np40_ := h0.np40)
      (nt24_ := h0.nt24)
      (cn_ := h0.cn)
      (mn_ := by rw [F 29 (by decide) (by decide) (by decide)]; exact d.s.mn)
      (cp_ := h0.cp)
      (mp_ := by rw [F 15 (by decide) (by decide) (by decide)]; exact d.s.mp)
      (ct_ := h0.ct)
      (mt_ := by rw [F 7 (by decide) (by decide) (by decide)]; exact d.s.mt)
      (pl_ := h0.pl)
      (e3_ := h0.e3)
      (e5_ := h0.e5)
      (e9_ := h0.e9)
      (e6_ := h0.e6)
      (e7_ := h0.e7)
      (e4_ := h0.e4)
      (pa_ := h0.pa)
      (pe_ := h0.pe)
      (lm_ := h0.lm)
      (lt_ := h0.lt)
      (li_ := h0.li)
      (ls_ := h0.ls)
      (ld_ := by rw [F 14 (by decide) (by decide) (by decide), M 6 (by decide), M 8 (by decide)]; exact d.s.ld)
      (er_ := by rw [c67, m19])
      (r19_ := ⟨R + 1, by omega, m19, fun i p q => by rw [M 12 (by decide)]; exact r0 i (by omega) q⟩)
      (e12_ := h0.e12)
      (e13_ := h0.e13)
      (e14_ := h0.e14)
      (e15_ := h0.e15)
      (en_ := h0.en)
      (ep_ := h0.ep)
      (e16_ := h0.e16)
      (e17_ := h0.e17)
      (sk_ := fun x hx => (d.s.sk x hx).fr (C 91 (by decide) (by decide)) (C 92 (by decide) (by decide)) (fun k hk => M k (by omega)))
      (sz_ := h0.sz)) (fun k hk => C k (by omega) (by omega)) (fun i hi => ?_) (fun k hk => M k (by omega)) (fun i hi => F i (by omega) (by omega) (by omega)) ?_ ?_ ?_ ?_)
    · rw [x1, st_row _ _ _ _ (by decide), st_no (by omega), st_no (by omega)]
    · rw [x1, st_row _ _ _ _ (by decide), st_no (by omega), st_here]
    · rw [x1, st_row _ _ _ _ (by decide), st_here]
    · rw [x2, st_no (by omega), st_here]
    · rw [x2, st_here]
  · have : R = 12 := by omega
    subst this
    rw [if_neg (by decide)] at e1
    rw [if_pos (by decide)] at e2
    exact ay_bad h e1 e2
/-! ===== track ===== -/
theorem Rw.trk {n np nt : Nat} {pl pl' kf : Nat → Int32} {B : Int} {K c : Nat → Int32} (h : Rw n np nt pl kf B K c) (e : ∀ t, t < nt → pl' t = pl t) : Rw n np (nt + 1) pl' kf B K c := by
  refine ⟨fun x hx => ?_, h.pt, h.dmp, h.rns, h.mt, h.nw⟩
  have t := h.th x hx
  have a' : (K (15 * x) = 0 ∧ c (154 + 11 * x) = -1) ∨ (K (15 * x) = 1 ∧ ∃ t p q : Nat, t < nt + 1 ∧ pl' t = nI q ∧ q ≤ 24 ∧ p < q ∧ K (15 * x + 1) = nI t ∧ K (15 * x + 2) = nI p ∧ c (154 + 11 * x) = nI (24 * t + p)) := by
    rcases t.at_ with q | ⟨q, t', p, y, h1, h2, h3⟩
    · exact Or.inl q
    · exact Or.inr ⟨q, t', p, y, by omega, by rw [e t' h1]; exact h2, h3⟩
  exact ⟨a', t.look, t.m0, t.m1, t.ser, t.flt, t.jam, t.dgr, t.run, t.rsd, t.tst, t.tb, t.run0⟩
theorem track_st {n np nt L : Nat} {S S1 S2 : SS} {a1 r1 r2 : Int32} (h : Dz n np nt L S) (hW1 : WR S1) (z : Fg S S1 S2) (e1 : f_Yard_track a1 S = some (r1, S1)) (e2 : f_M_track a1 S1 = some (r2, S2)) : Ay L r1 r2 S2 := by
  have d0 := h.dw1 z
  have hnt := d0.s.nt24
  rw [f_Yard_track.eq_1] at e1
  rw [f_M_track.eq_1] at e2
  by_cases c0 : a1 = 0
  · rw [if_pos c0] at e1 e2; exact ay_bad h e1 e2
  · rw [if_neg c0] at e1 e2
    by_cases c1 : a1 ≤ 24
    · rw [if_pos c1] at e1 e2
      rw [d0.s.ct] at e1
      rw [d0.s.mt] at e2
      by_cases c2 : nt < 24
      · rw [if_pos (show nI nt < (24 : Int32) from (nI_ltJ (b := 24) (by omega) (by omega)).mpr c2)] at e1
        rw [if_neg (show ¬ nI nt = (24 : Int32) from fun y => by have := nI_inj (b := 24) (by omega) (by omega) y; omega)] at e2
        refine beg_al h hW1 z (fun T U b d _ g1 g2 => ?_) e1 e2
        by_cases c3 : 0 ≤ a1
        · have q0 : ¬ a1 < 0 := fun y => by rw [Int32.le_iff_toInt_le] at c3; rw [Int32.lt_iff_toInt_lt] at y; omega
          obtain ⟨q, hq, rfl⟩ := lt_e (a := a1) (k := 25) (by omega) q0 (by
            rw [Int32.lt_iff_toInt_lt, nI_ti (by omega)]
            rw [Int32.le_iff_toInt_le] at c1
            have : (24 : Int32).toInt = 24 := by decide
            omega)
          have hq1 : 1 ≤ q := by
            rcases Nat.eq_zero_or_pos q with y | y
            · rw [y] at c0; exact absurd rfl c0
            · exact y
          rw [if_pos c3, fgC, bndv_r, f_Layout_addTrack.eq_1, st_row _ _ _ _ (by decide), st_row _ _ _ _ (by decide), d.s.ct, if_pos (show nI nt < (24 : Int32) from (nI_ltJ (b := 24) (by omega) (by omega)).mpr c2), grT (inb_nI (by omega) (by omega)), wr_r, nI_clamp (by omega), st_row _ _ _ _ (by decide), st_row _ _ _ _ (by decide), st_row _ _ _ _ (by decide), d.s.ct, nI_1, wr_r, bnd_r, st_here, n_m1 (by omega) (by omega), Nat.add_sub_cancel] at g1
          rw [if_pos c3, d.s.mt, grT (inb_nI (by omega) (by omega)), wr_r, nI_clamp (by omega), wr_r, st_row _ _ _ _ (by decide), d.s.mt, nI_1, fgM, bndv_r, st_no (by omega), st_no (by omega), st_here, n_m1 (by omega) (by omega), Nat.add_sub_cancel] at g2
          obtain ⟨rfl, x1⟩ := so_i g1
          obtain ⟨rfl, x2⟩ := so_i g2
          have C : ∀ a, a ≠ 64 → a ≠ 66 → a ≠ 93 → S1.1 a = T.1 a := fun a p q r => by rw [x1, st_row _ _ _ _ q, st_row _ _ _ _ r, st_row _ _ _ _ p, st_row _ _ _ _ p]
          have M : ∀ a, a ≠ 0 → a ≠ 3 → S2.1 a = U.1 a := fun a p q => by rw [x2, st_row _ _ _ _ p, st_row _ _ _ _ p, st_row _ _ _ _ p, st_row _ _ _ _ q]
          have F : ∀ i, i ≠ 7 → i ≠ 60 → i ≠ 61 → S2.1 0 i = U.1 0 i := fun i p q r => by rw [x2, st_no (by omega), st_no (by omega), st_no (by omega), st_row _ _ _ _ (by decide)]
          have m7 : S2.1 0 7 = nI (nt + 1) := by rw [x2, st_no (by omega), st_no (by omega), st_here]
          have c66 : ∀ i, i ≠ 7 → S1.1 66 i = T.1 66 i := fun i p => by rw [x1, st_no (by omega), st_row _ _ _ _ (by decide), st_row _ _ _ _ (by decide), st_row _ _ _ _ (by decide)]
          have c667 : S1.1 66 7 = nI (nt + 1) := by rw [x1, st_here]
          have M3 : ∀ i, S2.1 3 i = if i = nt then nI q else U.1 3 i := fun i => by rw [x2, st_row _ _ _ _ (by decide), st_row _ _ _ _ (by decide), st_row _ _ _ _ (by decide), st_at, if_pos rfl]
          have C93 : ∀ i, S1.1 93 i = if i = nt then nI q else T.1 93 i := fun i => by rw [x1, st_row _ 66 _ _ (by decide), st_at, if_pos rfl, st_row _ _ _ _ (by decide), st_row _ _ _ _ (by decide)]
          have h0 : Sta n np nt (rep (rep S1 93 (T.1 93)) 66 (T.1 66)) (rep (rep S2 3 (U.1 3)) 0 (U.1 0)) := d.s.fr (rep2_eq (P := sC) (fun a p q r => C a (by unfold sC at r; omega) q p)) (rep2_eq (P := sM) (fun a p q r => M a q p)) (fun i _ => rfl)
          have sve : sv S2 = sv U := funext fun j => by
            unfold sv
            rw [M 19 (by decide) (by decide), M 20 (by decide) (by decide), M 21 (by decide) (by decide), M 22 (by decide) (by decide), M 23 (by decide) (by decide), M 24 (by decide) (by decide), M 25 (by decide) (by decide), M 26 (by decide) (by decide), M 27 (by decide) (by decide), M 30 (by decide) (by decide), M 31 (by decide) (by decide), M 32 (by decide) (by decide), M 33 (by decide) (by decide), M 34 (by decide) (by decide), M 10 (by decide) (by decide), M 11 (by decide) (by decide), F 48 (by decide) (by decide) (by decide)]
          have s' : Sta n np (nt + 1) S1 S2 := (Sta.mk_ (n72_ := h0.n72)
            (np40_ := h0.np40)
            (nt24_ := by omega)
            (cn_ := h0.cn)
            (mn_ := by rw [F 29 (by decide) (by decide) (by decide)]; exact d.s.mn)
            (cp_ := by rw [c66 8 (by decide)]; exact d.s.cp)
            (mp_ := by rw [F 15 (by decide) (by decide) (by decide)]; exact d.s.mp)
            (ct_ := c667)
            (mt_ := m7)
            (pl_ := fun t ht => by
              rw [M3]
              by_cases e : t = nt
              · rw [if_pos e]; exact ⟨q, hq1, by omega, rfl⟩
              · rw [if_neg e]; exact d.s.pl t (by omega))
            (e3_ := fun i => by rw [M3, C93, d.s.e3])
            (e5_ := h0.e5)
            (e9_ := h0.e9)
            (e6_ := h0.e6)
            (e7_ := h0.e7)
            (e4_ := h0.e4)
            (pa_ := h0.pa)
            (pe_ := fun p hp => by
              obtain ⟨e, he, ee⟩ := d.s.pe p hp
              exact ⟨e, by omega, by rw [M 9 (by decide) (by decide)]; exact ee⟩)
            (lm_ := h0.lm)
            (lt_ := fun e k m he hm m3 hk => by
              rw [M 6 (by decide) (by decide)] at hm
              obtain ⟨f, hf, hne, ef⟩ := d.s.lt e k m he hm m3 hk
              exact ⟨f, by omega, hne, by rw [M 7 (by decide) (by decide)]; exact ef⟩)
            (li_ := h0.li)
            (ls_ := h0.ls)
            (ld_ := by rw [F 14 (by decide) (by decide) (by decide), M 6 (by decide) (by decide), M 8 (by decide) (by decide)]; exact d.s.ld)
            (er_ := by rw [F 19 (by decide) (by decide) (by decide), C 67 (by decide) (by decide) (by decide)]; exact d.s.er)
            (r19_ := by rw [F 19 (by decide) (by decide) (by decide), M 12 (by decide) (by decide)]; exact d.s.r19)
            (e12_ := h0.e12)
            (e13_ := h0.e13)
            (e14_ := h0.e14)
            (e15_ := h0.e15)
            (en_ := h0.en)
            (ep_ := h0.ep)
            (e16_ := h0.e16)
            (e17_ := h0.e17)
            (sk_ := fun x hx => (d.s.sk x hx).fr (C 91 (by decide) (by decide) (by decide)) (C 92 (by decide) (by decide) (by decide)) (fun k hk => M k (by omega) (by omega)))
            (sz_ := h0.sz))
          refine ⟨rfl, n, np, nt + 1, d.upd s' ?_ (fun k hk => C k (by omega) (by omega) (by omega)) ?_ (fun i hi => ?_) (fun k hk => M k (by omega) (by omega)) (fun i hi => F i (by omega) (by omega) (by omega)) ?_ ?_ ?_ ?_⟩
          · rw [M 18 (by decide) (by decide), F 47 (by decide) (by decide) (by decide), sve, C 79 (by decide) (by decide) (by decide)]
            exact d.w.trk (fun t ht => by rw [M3, if_neg (by omega)])
          · rw [C 68 (by decide) (by decide) (by decide), F 49 (by decide) (by decide) (by decide)]; exact d.sr
          · rw [x1, st_row _ _ _ _ (by decide), st_row _ _ _ _ (by decide), st_no (by omega), st_no (by omega)]
          · rw [x1, st_row _ _ _ _ (by decide), st_row _ _ _ _ (by decide), st_no (by omega), st_here]
          · rw [x1, st_row _ _ _ _ (by decide), st_row _ _ _ _ (by decide), st_here]
          · rw [x2, st_no (by omega), st_here]
          · rw [x2, st_here]
        · rw [if_neg c3] at g1 g2
          obtain ⟨y1, y2⟩ := fnd2_al b g1 g2
          exact ⟨y1, n, np, nt, d.qz y2⟩
      · have : nt = 24 := by omega
        subst this
        rw [if_neg (by decide)] at e1
        rw [if_pos (by decide)] at e2
        exact ay_bad h e1 e2
    · rw [if_neg c1] at e1 e2; exact ay_bad h e1 e2
/-! ===== point ===== -/
theorem Rw.addp {n np nt : Nat} {pl kf : Nat → Int32} {B : Int} {K c K' c' : Nat → Int32} (h : Rw n np nt pl kf B K c) (hn : n ≤ 72) (hnp : np < 40) (eK : ∀ j, j < 1161 → K' j = if j = 1080 + 2 * np then 0 else if j = 1080 + 2 * np + 1 then -4 else K j) (ec : ∀ j, c' j = if j = 74 + np then 0 else if j = 114 + np then -4 else c j) : Rw n (np + 1) nt pl kf B K' c' := by
  have kk : ∀ y d, y < 72 → d < 15 → K' (15 * y + d) = K (15 * y + d) := fun y d hy hd => by rw [eK _ (by omega), if_neg (by omega), if_neg (by omega)]
  have cc : ∀ j, j < 74 ∨ 154 ≤ j → c' j = c j := fun j hj => by rw [ec, if_neg (by omega), if_neg (by omega)]
  have k0 : ∀ y, y < 72 → K' (15 * y) = K (15 * y) := fun y hy => kk y 0 hy (by omega)
  refine ⟨fun x hx => ?_, fun q hq => ?_, ?_, ?_, fun x s o hx hs ho q => ?_, fun y e hy h72 he => by rw [kk y e h72 (by omega)]; exact h.nw y e hy h72 he⟩
  · have t := h.th x hx
    have d0 := cc (154 + 11 * x) (by omega)
    have K1 : ∀ j, j < 15 → K' (15 * x + j) = K (15 * x + j) := fun j hj => kk x j (by omega) hj
    have C1 : ∀ j, c' (154 + 11 * x + j) = c (154 + 11 * x + j) := fun j => cc _ (by omega)
    refine ⟨?_, ?_, ?_, ?_, ?_, ?_, ?_, ?_, ?_, ?_, ?_, ?_, ?_⟩
    · rw [k0 x (by omega), d0, K1 1 (by omega), K1 2 (by omega)]; exact t.at_
    · rw [C1, K1 3 (by omega)]; exact t.look
    · rw [C1, K1 4 (by omega)]; exact t.m0
    · rw [C1, K1 5 (by omega)]; exact t.m1
    · rw [C1, K1 6 (by omega)]; exact t.ser
    · rw [C1, K1 7 (by omega)]; exact t.flt
    · rw [C1, K1 8 (by omega)]; exact t.jam
    · rw [C1, K1 9 (by omega)]; exact t.dgr
    · rw [C1, K1 10 (by omega)]; exact t.run
    · rw [C1, K1 12 (by omega)]; exact t.rsd
    · rw [C1, K1 14 (by omega)]; exact t.tst
    · rw [K1 14 (by omega)]; exact t.tb
    · rw [k0 x (by omega), K1 11 (by omega), K1 10 (by omega), K1 4 (by omega), K1 5 (by omega), K1 12 (by omega)]; exact t.run0
  · rw [ec, ec, eK _ (by omega), eK _ (by omega)]
    by_cases e : q = np
    · subst e
      refine ⟨?_, ?_⟩
      · rw [if_pos (show 74 + q = 74 + q from rfl), if_pos (show 1080 + 2 * q = 1080 + 2 * q from rfl)]
      · rw [if_neg (show ¬ 114 + q = 74 + q by omega), if_pos (show 114 + q = 114 + q from rfl), if_neg (show ¬ 1080 + 2 * q + 1 = 1080 + 2 * q by omega), if_pos (show 1080 + 2 * q + 1 = 1080 + 2 * q + 1 from rfl)]
    · rw [if_neg (by omega), if_neg (by omega), if_neg (by omega), if_neg (by omega), if_neg (by omega), if_neg (by omega), if_neg (by omega), if_neg (by omega)]
      exact h.pt q (by omega)
  · rw [cc 0 (by omega), eK _ (by omega), if_neg (by omega), if_neg (by omega)]; exact h.dmp
  · obtain ⟨r, g⟩ := h.rns
    exact ⟨r, g.same hn (fun j a b => cc j (by omega)) (fun y hy => kk y 11 (by omega) (by omega)) (fun y hy => kk y 13 (by omega) (by omega))⟩
  · rw [Nat.add_assoc, kk x (4 + s) (by omega) (by omega), ← Nat.add_assoc] at q
    rw [k0 x (by omega), k0 o (by omega)]; exact h.mt x s o hx hs ho q
theorem point_st {n np nt L : Nat} {S S1 S2 : SS} {a1 a2 r1 r2 : Int32} (h : Dz n np nt L S) (hW1 : WR S1) (z : Fg S S1 S2) (e1 : f_Yard_point a1 a2 S = some (r1, S1)) (e2 : f_M_point a1 a2 S1 = some (r2, S2)) : Ay L r1 r2 S2 := by
  have d0 := h.dw1 z
  have hnp := d0.s.np40
  rw [f_Yard_point.eq_1, in_v, bnd_r] at e1
  rw [f_M_point.eq_1] at e2
  rcases sd_al a2 with ⟨e, he, rfl, i0, is⟩ | ⟨i0, is⟩
  · rw [if_pos i0, d0.s.cp] at e1
    rw [is, bnd_r, if_neg (by decide), d0.s.mp] at e2
    by_cases c2 : np < 40
    · rw [if_pos (show nI np < (40 : Int32) from (nI_ltJ (b := 40) (by omega) (by omega)).mpr c2)] at e1
      rw [if_neg (show ¬ nI np = (40 : Int32) from fun y => by have := nI_inj (b := 40) (by omega) (by omega) y; omega)] at e2
      refine beg_al h hW1 z (fun T U b d _ g1 g2 => ?_) e1 e2
      have hnt := b.s.nt24
      have h72 := b.s.n72
      have fin : r1 = r2 ∧ Qz T U S1 S2 → r1 = r2 ∧ ∃ n' np' nt', Dw n' np' nt' L S1 S2 := fun q => ⟨q.1, n, np, nt, d.qz q.2⟩
      rcases tf_al b a1 with ⟨t, q, ht, rfl, hq, q1, q2, c1, c2'⟩ | ⟨r, hr, c1, c2'⟩
      · rw [c1, bnd_r, if_pos rfl, n2, f_Layout_pointAt.eq_1, if_neg (nI_nn (by omega)), if_neg (show ¬ (48 : Int32) ≤ nI (2 * t + e) from nI_ge (b := 48) (by omega) (by omega)), grT (inb_nI (by omega) (by omega)), bnd_r, nI_clamp (by omega), b.s.e5] at g1
        rw [c2', bnd_r, ends_0, bnd_r, if_pos rfl, n2, grT (inb_nI (by omega) (by omega)), nI_clamp (by omega)] at g2
        by_cases w : U.1 5 (2 * t + e) = -4
        · rw [if_pos w, f_Yard_point_j66.eq_1, if_pos rfl, fgC, bndv_r, n2, f_Layout_addPoint.eq_1, st_row _ _ _ _ (by decide), st_row _ _ _ _ (by decide), d.s.cp, if_neg (show ¬ (40 : Int32) ≤ nI np from nI_ge (b := 40) c2 (by omega)), f_Layout_isEnd.eq_1, if_neg (nI_nn (by omega)), if_neg (show ¬ (48 : Int32) ≤ nI (2 * t + e) from nI_ge (b := 48) (by omega) (by omega)), bnd_r, if_neg (by decide), grT (inb_nI (by omega) (by omega)), st_row _ _ _ _ (by decide), st_row _ _ _ _ (by decide), d.s.cp, wr_r, nI_clamp (by omega), st_row _ _ _ _ (by decide), st_row _ _ _ _ (by decide), st_row _ _ _ _ (by decide), d.s.cp, grT (inb_nI (by omega) (by omega)), wr_r, nI_clamp (by omega), st_row _ _ _ _ (by decide), st_row _ _ _ _ (by decide), st_row _ _ _ _ (by decide), st_row _ _ _ _ (by decide), d.s.cp, c_setPt c2, bndv_r, wr_r, st_row _ 79 _ _ (by decide), st_row _ 79 _ _ (by decide), st_row _ 95 _ _ (by decide), st_row _ 94 _ _ (by decide), st_row _ 64 _ _ (by decide), st_row _ 64 _ _ (by decide), d.s.cp, nI_1, bnd_r, st_here, n_m1 (by omega) (by omega), Nat.add_sub_cancel] at g1
          rw [if_pos w, grT (inb_nI (by omega) (by omega)), d.s.mp, wr_r, st_row _ _ _ _ (by decide), d.s.mp, grT (inb_nI (by omega) (by omega)), wr_r, nI_clamp (n := np) (by omega), st_row _ _ _ _ (by decide), st_row _ _ _ _ (by decide), d.s.mp, grT (inb_nI (by omega) (by omega)), wr_r, nI_clamp (n := np) (by omega), st_row _ _ _ _ (by decide), st_row _ _ _ _ (by decide), st_row _ _ _ _ (by decide), d.s.mp, grT (inb_nI (by omega) (by omega)), wr_r, nI_clamp (n := np) (by omega), wr_r, st_row _ _ _ _ (by decide), st_row _ _ _ _ (by decide), st_row _ _ _ _ (by decide), st_row _ _ _ _ (by decide), d.s.mp, nI_1, fgM, bndv_r, st_no (by omega), st_no (by omega), st_here, n_m1 (by omega) (by omega), Nat.add_sub_cancel] at g2
          obtain ⟨rfl, x1⟩ := so_i g1
          obtain ⟨rfl, x2⟩ := so_i g2
          have C : ∀ a, a ≠ 64 → a ≠ 66 → a ≠ 79 → a ≠ 94 → a ≠ 95 → S1.1 a = T.1 a := fun a p q r s u => by rw [x1, st_row _ _ _ _ q, st_row _ _ _ _ r, st_row _ _ _ _ r, st_row _ _ _ _ u, st_row _ _ _ _ s, st_row _ _ _ _ p, st_row _ _ _ _ p]
          have M : ∀ a, a ≠ 0 → a ≠ 5 → a ≠ 9 → a ≠ 10 → a ≠ 11 → S2.1 a = U.1 a := fun a p q r s u => by rw [x2, st_row _ _ _ _ p, st_row _ _ _ _ p, st_row _ _ _ _ p, st_row _ _ _ _ u, st_row _ _ _ _ s, st_row _ _ _ _ r, st_row _ _ _ _ q]
          have F : ∀ i, i ≠ 15 → i ≠ 60 → i ≠ 61 → S2.1 0 i = U.1 0 i := fun i p q r => by rw [x2, st_no (by omega), st_no (by omega), st_no (by omega), st_row _ _ _ _ (by decide), st_row _ _ _ _ (by decide), st_row _ _ _ _ (by decide), st_row _ _ _ _ (by decide)]
          have m15 : S2.1 0 15 = nI (np + 1) := by rw [x2, st_no (by omega), st_no (by omega), st_here]
          have c66 : ∀ i, i ≠ 8 → S1.1 66 i = T.1 66 i := fun i p => by rw [x1, st_no (by omega), st_row _ _ _ _ (by decide), st_row _ _ _ _ (by decide), st_row _ _ _ _ (by decide), st_row _ _ _ _ (by decide), st_row _ _ _ _ (by decide), st_row _ _ _ _ (by decide)]
          have c668 : S1.1 66 8 = nI (np + 1) := by rw [x1, st_here]
          have M5 : ∀ i, S2.1 5 i = if i = 2 * t + e then nI np else U.1 5 i := fun i => by rw [x2, st_row _ 0 _ _ (by decide), st_row _ 0 _ _ (by decide), st_row _ 0 _ _ (by decide), st_row _ 11 _ _ (by decide), st_row _ 10 _ _ (by decide), st_row _ 9 _ _ (by decide), st_at, if_pos rfl]
          have M9 : ∀ i, S2.1 9 i = if i = np then nI (2 * t + e) else U.1 9 i := fun i => by rw [x2, st_row _ 0 _ _ (by decide), st_row _ 0 _ _ (by decide), st_row _ 0 _ _ (by decide), st_row _ 11 _ _ (by decide), st_row _ 10 _ _ (by decide), st_at, if_pos rfl, st_row _ 5 _ _ (by decide)]
          have C94 : ∀ i, S1.1 94 i = if i = 2 * t + e then nI np else T.1 94 i := fun i => by rw [x1, st_row _ 66 _ _ (by decide), st_row _ 79 _ _ (by decide), st_row _ 79 _ _ (by decide), st_row _ 95 _ _ (by decide), st_at, if_pos rfl, st_row _ 64 _ _ (by decide), st_row _ 64 _ _ (by decide)]
          have C95 : ∀ i, S1.1 95 i = if i = np then nI (2 * t + e) else T.1 95 i := fun i => by rw [x1, st_row _ 66 _ _ (by decide), st_row _ 79 _ _ (by decide), st_row _ 79 _ _ (by decide), st_at, if_pos rfl, st_row _ 94 _ _ (by decide), st_row _ 64 _ _ (by decide), st_row _ 64 _ _ (by decide)]
          have C79 : ∀ j, S1.1 79 j = if j = 74 + np then 0 else if j = 114 + np then -4 else T.1 79 j := fun j => by
            rw [x1, st_row _ 66 _ _ (by decide), st_at, if_pos rfl, st_at, if_pos rfl, st_row _ 95 _ _ (by decide), st_row _ 94 _ _ (by decide), st_row _ 64 _ _ (by decide), st_row _ 64 _ _ (by decide)]
            by_cases y : j = 74 + np
            · rw [if_neg (by omega), if_pos y, if_pos y]
            · rw [if_neg y, if_neg y]
          have Ksv : ∀ j, j < 1161 → sv S2 j = if j = 1080 + 2 * np then 0 else if j = 1080 + 2 * np + 1 then -4 else sv U j := fun j hj => by
            have a1 : sv S2 = sv (st (st (st (st U 5 (2 * t + e) (nI np)) 9 np (nI (2 * t + e))) 10 np 0) 11 np (-4)) := by
              rw [x2]
              exact sv_0i (fun k hk => by rw [st_row _ _ _ _ hk, st_row _ _ _ _ hk, st_row _ _ _ _ hk]) (by rw [st_no (by omega), st_no (by omega), st_no (by omega)])
            have a2 : sv (st (st U 5 (2 * t + e) (nI np)) 9 np (nI (2 * t + e))) = sv U := funext fun j => by
              unfold sv
              rw [st_row _ 9 _ _ (by decide), st_row _ 5 _ _ (by decide), st_row _ 9 _ _ (by decide), st_row _ 5 _ _ (by decide), st_row _ 9 _ _ (by decide), st_row _ 5 _ _ (by decide), st_row _ 9 _ _ (by decide), st_row _ 5 _ _ (by decide), st_row _ 9 _ _ (by decide), st_row _ 5 _ _ (by decide), st_row _ 9 _ _ (by decide), st_row _ 5 _ _ (by decide), st_row _ 9 _ _ (by decide), st_row _ 5 _ _ (by decide), st_row _ 9 _ _ (by decide), st_row _ 5 _ _ (by decide), st_row _ 9 _ _ (by decide), st_row _ 5 _ _ (by decide), st_row _ 9 _ _ (by decide), st_row _ 5 _ _ (by decide), st_row _ 9 _ _ (by decide), st_row _ 5 _ _ (by decide), st_row _ 9 _ _ (by decide), st_row _ 5 _ _ (by decide), st_row _ 9 _ _ (by decide), st_row _ 5 _ _ (by decide), st_row _ 9 _ _ (by decide), st_row _ 5 _ _ (by decide), st_row _ 9 _ _ (by decide), st_row _ 5 _ _ (by decide), st_row _ 9 _ _ (by decide), st_row _ 5 _ _ (by decide), st_row _ 9 _ _ (by decide), st_row _ 5 _ _ (by decide)]
            rw [a1, svw_l (by omega) j hj, svw_s (by omega) j hj, a2]
            by_cases y : j = 1080 + 2 * np
            · rw [if_neg (by omega), if_pos y, if_pos y]
            · rw [if_neg y, if_neg y]
          have h0 : Sta n np nt (rep (rep (rep S1 94 (T.1 94)) 95 (T.1 95)) 66 (T.1 66)) (rep (rep (rep S2 5 (U.1 5)) 9 (U.1 9)) 0 (U.1 0)) := d.s.fr (rep3_eq (P := sC) (fun a p q r s => C a (by unfold sC at s; omega) r (by unfold sC at s; omega) p q)) (rep3_eq (P := sM) (fun a p q r s => M a r p q (by unfold sM at s; omega) (by unfold sM at s; omega))) (fun i _ => rfl)
          have s' : Sta n (np + 1) nt S1 S2 := (Sta.mk_ (n72_ := h0.n72)
            (np40_ := by omega)
            (nt24_ := h0.nt24)
            (cn_ := h0.cn)
            (mn_ := by rw [F 29 (by decide) (by decide) (by decide)]; exact d.s.mn)
            (cp_ := c668)
            (mp_ := m15)
            (ct_ := by rw [c66 7 (by decide)]; exact d.s.ct)
            (mt_ := by rw [F 7 (by decide) (by decide) (by decide)]; exact d.s.mt)
            (pl_ := h0.pl)
            (e3_ := h0.e3)
            (e5_ := fun i => by rw [M5, C94, d.s.e5])
            (e9_ := fun i => by rw [M9, C95, d.s.e9])
            (e6_ := h0.e6)
            (e7_ := h0.e7)
            (e4_ := h0.e4)
            (pa_ := fun e' he' => by
              rw [M5]
              by_cases y : e' = 2 * t + e
              · rw [if_pos y]; exact Or.inr ⟨np, by omega, rfl⟩
              · rw [if_neg y]
                rcases d.s.pa e' he' with w | ⟨p, hp, ep⟩
                · exact Or.inl w
                · exact Or.inr ⟨p, by omega, ep⟩)
            (pe_ := fun p hp => by
              rw [M9]
              by_cases y : p = np
              · rw [if_pos y]; exact ⟨2 * t + e, by omega, rfl⟩
              · rw [if_neg y]; exact d.s.pe p (by omega))
            (lm_ := h0.lm)
            (lt_ := h0.lt)
            (li_ := h0.li)
            (ls_ := h0.ls)
            (ld_ := by rw [F 14 (by decide) (by decide) (by decide), M 6 (by decide) (by decide) (by decide) (by decide) (by decide), M 8 (by decide) (by decide) (by decide) (by decide) (by decide)]; exact d.s.ld)
            (er_ := by rw [F 19 (by decide) (by decide) (by decide), C 67 (by decide) (by decide) (by decide) (by decide) (by decide)]; exact d.s.er)
            (r19_ := by rw [F 19 (by decide) (by decide) (by decide), M 12 (by decide) (by decide) (by decide) (by decide) (by decide)]; exact d.s.r19)
            (e12_ := h0.e12)
            (e13_ := h0.e13)
            (e14_ := h0.e14)
            (e15_ := h0.e15)
            (en_ := h0.en)
            (ep_ := fun r k m hr hm m8 hk => by
              rw [M 12 (by decide) (by decide) (by decide) (by decide) (by decide)] at hm
              obtain ⟨⟨p, hp, ep⟩, y⟩ := d.s.ep r k m hr hm m8 hk
              rw [M 13 (by decide) (by decide) (by decide) (by decide) (by decide), M 14 (by decide) (by decide) (by decide) (by decide) (by decide)]
              exact ⟨⟨p, by omega, ep⟩, y⟩)
            (e16_ := h0.e16)
            (e17_ := h0.e17)
            (sk_ := fun x hx => (d.s.sk x hx).fr (C 91 (by decide) (by decide) (by decide) (by decide) (by decide)) (C 92 (by decide) (by decide) (by decide) (by decide) (by decide)) (fun k hk => M k (by omega) (by omega) (by omega) (by omega) (by omega)))
            (sz_ := h0.sz))
          refine ⟨rfl, n, np + 1, nt, d.upd s' ?_ (fun k hk => C k (by omega) (by omega) (by omega) (by omega) (by omega)) ?_ (fun i hi => ?_) (fun k hk => M k (by omega) (by omega) (by omega) (by omega) (by omega)) (fun i hi => F i (by omega) (by omega) (by omega)) ?_ ?_ ?_ ?_⟩
          · rw [M 3 (by decide) (by decide) (by decide) (by decide) (by decide), M 18 (by decide) (by decide) (by decide) (by decide) (by decide), F 47 (by decide) (by decide) (by decide)]
            exact d.w.addp h72 c2 Ksv C79
          · rw [C 68 (by decide) (by decide) (by decide) (by decide) (by decide), F 49 (by decide) (by decide) (by decide)]; exact d.sr
          · rw [x1, st_row _ 66 _ _ (by decide), st_row _ 79 _ _ (by decide), st_row _ 79 _ _ (by decide), st_row _ 95 _ _ (by decide), st_row _ 94 _ _ (by decide), st_no (by omega), st_no (by omega)]
          · rw [x1, st_row _ 66 _ _ (by decide), st_row _ 79 _ _ (by decide), st_row _ 79 _ _ (by decide), st_row _ 95 _ _ (by decide), st_row _ 94 _ _ (by decide), st_no (by omega), st_here]
          · rw [x1, st_row _ 66 _ _ (by decide), st_row _ 79 _ _ (by decide), st_row _ 79 _ _ (by decide), st_row _ 95 _ _ (by decide), st_row _ 94 _ _ (by decide), st_here]
          · rw [x2, st_no (by omega), st_here]
          · rw [x2, st_here]
        · rw [if_neg w, f_Yard_point_j66.eq_1, if_neg (by decide)] at g1
          rw [if_neg w] at g2
          exact fin (fnd2_al b g1 g2)
      · rw [c1, bnd_r, if_neg hr, f_Yard_point_j66.eq_1, if_neg hr] at g1
        rw [c2', bnd_r] at g2
        replace g1 := bnd_i g1
        obtain ⟨q, V, l, g1⟩ := g1
        replace g2 := bnd_i g2
        obtain ⟨q', W, m2, g2⟩ := g2
        exact fin (fnd_al b l hr m2 g1 g2)
    · have : np = 40 := by omega
      subst this
      rw [if_neg (by decide)] at e1
      rw [if_pos (by decide)] at e2
      exact ay_bad h e1 e2
  · rw [if_neg i0] at e1
    rw [is, bnd_r, if_pos rfl] at e2
    exact ay_bad h e1 e2
/-! ===== wagon, engine ===== -/
theorem Rw.add {n np nt t p q : Nat} {pl kf kf' : Nat → Int32} {B : Int} {K c K' c' : Nat → Int32} {sr : Int32} (h : Rw n np nt pl kf B K c) (hn : n < 72) (hnp : np ≤ 40) (ekf : ∀ x, x < n → kf' x = kf x) (hm : ∀ x s, x < n → s < 2 → ¬ K (15 * x + 4 + s) = nI n) (ht : t < nt) (hq : pl t = nI q) (hq2 : q ≤ 24) (hp : p < q) (kk : ∀ y d, y < 72 → d < 15 → y ≠ n → K' (15 * y + d) = K (15 * y + d)) (hi : ∀ j, 1080 ≤ j → j < 1161 → K' j = K j) (cc : ∀ j, j < 154 + 11 * n → c' j = c j)
    (n0 : K' (15 * n) = 1) (n1 : K' (15 * n + 1) = nI t) (n2 : K' (15 * n + 2) = nI p) (n3 : K' (15 * n + 3) = 1) (n4 : K' (15 * n + 4) = -4) (n5 : K' (15 * n + 5) = -4) (n6 : K' (15 * n + 6) = sr) (n7 : K' (15 * n + 7) = -4) (nz : ∀ d, (8 ≤ d ∧ d ≤ 12) ∨ d = 14 → K' (15 * n + d) = 0)
    (d0 : c' (154 + 11 * n) = nI (24 * t + p)) (d1 : c' (154 + 11 * n + 1) = 1) (d2 : c' (154 + 11 * n + 2) = -4) (d3 : c' (154 + 11 * n + 3) = -4) (d4 : c' (154 + 11 * n + 4) = sr) (d5 : c' (154 + 11 * n + 5) = -4) (dz : ∀ g, 6 ≤ g → g ≤ 10 → c' (154 + 11 * n + g) = 0) : Rw (n + 1) np nt pl kf' B K' c' := by
  have k0 : ∀ y, y < 72 → y ≠ n → K' (15 * y) = K (15 * y) := fun y hy ne => kk y 0 hy (by omega) ne
  refine ⟨fun x hx => ?_, fun p hp' => ?_, ?_, ?_, fun x s o hx hs ho e => ?_, fun y e hy h72 he => ?_⟩
  · by_cases e : x = n
    · subst e
      refine ⟨Or.inr ⟨n0, t, p, q, ht, hq, hq2, hp, n1, n2, d0⟩, by rw [d1, n3], by rw [d2, n4], by rw [d3, n5], by rw [d4, n6], by rw [d5, n7], by rw [dz 6 (by omega) (by omega), nz 8 (by omega)], by rw [dz 7 (by omega) (by omega), nz 9 (by omega)], by rw [dz 8 (by omega) (by omega), nz 10 (by omega)], by rw [dz 9 (by omega) (by omega), nz 12 (by omega)], by rw [dz 10 (by omega) (by omega), nz 14 (by omega)], Or.inl (nz 14 (by omega)), Or.inl ⟨nz 11 (by omega), nz 10 (by omega)⟩⟩
    · have t := h.th x (by omega)
      have K1 : ∀ j, j < 15 → K' (15 * x + j) = K (15 * x + j) := fun j hj => kk x j (by omega) hj e
      have C1 : ∀ j, j < 11 → c' (154 + 11 * x + j) = c (154 + 11 * x + j) := fun j hj => cc _ (by omega)
      have c0 : c' (154 + 11 * x) = c (154 + 11 * x) := C1 0 (by omega)
      refine ⟨?_, ?_, ?_, ?_, ?_, ?_, ?_, ?_, ?_, ?_, ?_, ?_, ?_⟩
      · rw [k0 x (by omega) e, c0, K1 1 (by omega), K1 2 (by omega)]; exact t.at_
      · rw [C1 1 (by omega), K1 3 (by omega)]; exact t.look
      · rw [C1 2 (by omega), K1 4 (by omega)]; exact t.m0
      · rw [C1 3 (by omega), K1 5 (by omega)]; exact t.m1
      · rw [C1 4 (by omega), K1 6 (by omega)]; exact t.ser
      · rw [C1 5 (by omega), K1 7 (by omega)]; exact t.flt
      · rw [C1 6 (by omega), K1 8 (by omega)]; exact t.jam
      · rw [C1 7 (by omega), K1 9 (by omega)]; exact t.dgr
      · rw [C1 8 (by omega), K1 10 (by omega)]; exact t.run
      · rw [C1 9 (by omega), K1 12 (by omega)]; exact t.rsd
      · rw [C1 10 (by omega), K1 14 (by omega)]; exact t.tst
      · rw [K1 14 (by omega)]; exact t.tb
      · rw [k0 x (by omega) e, K1 11 (by omega), K1 10 (by omega), K1 4 (by omega), K1 5 (by omega), K1 12 (by omega), ekf x (by omega)]; exact t.run0
  · rw [cc _ (by omega), cc _ (by omega), hi _ (by omega) (by omega), hi _ (by omega) (by omega)]; exact h.pt p hp'
  · rw [cc _ (by omega), hi _ (by omega) (by omega)]; exact h.dmp
  · obtain ⟨l, r⟩ := h.rns
    have hl := r.le
    have inl : ∀ y, y ∈ l → y < n := fun y hy => ((r.mem y).mp hy).1
    refine ⟨l, by rw [cc _ (by omega)]; exact r.len, fun i hi => by rw [cc _ (by omega)]; exact r.cell i hi, fun y => ?_, ?_, fun y hy => ?_⟩
    · by_cases e : y = n
      · subst e
        constructor
        · intro z; have := inl y z; omega
        · rintro ⟨-, z⟩
          rw [nz 11 (by omega)] at z
          exact absurd z (by decide)
      · by_cases hy : y < n
        · rw [kk y 11 (by omega) (by omega) e, r.mem y]
          exact ⟨fun q => ⟨by omega, q.2⟩, fun q => ⟨hy, q.2⟩⟩
        · exact ⟨fun z => by have := inl y z; omega, fun z => by omega⟩
    · refine r.srt.imp_of_mem (fun {a b} ha hb q => ?_)
      have := inl a ha
      have := inl b hb
      rw [kk a 13 (by omega) (by omega) (by omega), kk b 13 (by omega) (by omega) (by omega)]; exact q
    · have := inl y hy
      rw [kk y 13 (by omega) (by omega) (by omega)]; exact r.pos y hy
  · by_cases e' : x = n
    · subst e'
      rcases (show s = 0 ∨ s = 1 by omega) with rfl | rfl
      · rw [Nat.add_zero, n4] at e; exact absurd e.symm (nI_m4 (by omega))
      · rw [show 15 * x + 4 + 1 = 15 * x + 5 by omega, n5] at e; exact absurd e.symm (nI_m4 (by omega))
    · rw [Nat.add_assoc, kk x (4 + s) (by omega) (by omega) e', ← Nat.add_assoc] at e
      have ho' : o ≠ n := fun z => hm x s (by omega) hs (by rw [e, z])
      rw [k0 x (by omega) e', k0 o (by omega) ho']; exact h.mt x s o (by omega) hs (by omega) e
  · rw [kk y e h72 (by omega) (by omega)]; exact h.nw y e (by omega) h72 he
theorem rc_i {n a b : Int32} {S S1 : SS} (h : f_Arrays_rangeCheck_23922 n a b S = some S1) : S1 = S := by
  rw [f_Arrays_rangeCheck_23922.eq_1] at h
  split at h
  · split at h
    · split at h
      · injection h with h; exact h.symm
      · cases h
    · cases h
  · cases h
/-- the class's row gets a new THING -/
theorem fl_c : ∀ (N i e : Nat) (T V : SS), e ≤ 946 → i ≤ e → f_Arrays_fill_fda19_State_cells_L10 N (nI e) 0 (nI i) T = some V → (∀ j, V.1 79 j = if i ≤ j ∧ j < e then 0 else T.1 79 j) ∧ (∀ k, k ≠ 79 → V.1 k = T.1 k)
  | 0, i, e, T, V, _, _, h => by cases h
  | N + 1, i, e, T, V, he, hi, h => by
    rw [f_Arrays_fill_fda19_State_cells_L10.eq_2] at h
    by_cases c : i = e
    · subst c
      rw [if_pos (nI_le (by omega) (by omega))] at h
      injection h with h
      subst h
      exact ⟨fun j => by rw [if_neg (by omega)], fun k _ => rfl⟩
    · rw [if_neg (fun y => by have := (n_leJ (by omega) (by omega)).mp y; omega), grT (inb_nI (by omega) (by omega)), wr_r, nmR, nI_1, nI_clamp (by omega)] at h
      obtain ⟨g1, g2⟩ := fl_c N (i + 1) e _ V he (by omega) h
      refine ⟨fun j => ?_, fun k hk => by rw [g2 k hk, st_row _ _ _ _ hk]⟩
      rw [g1 j]
      by_cases a : i + 1 ≤ j ∧ j < e
      · rw [if_pos a, if_pos (by omega)]
      · rw [if_neg a]
        by_cases b : j = i
        · subst b; rw [st_here, if_pos (by omega)]
        · rw [st_no (by omega), if_neg (by omega)]
theorem at_c {n sp : Nat} {T V : SS} {r sr : Int32} (hn : T.1 63 1 = nI n) (h72 : n < 72) (h : f_State_addThing (nI sp) sr T = some (r, V)) : r = nI n ∧ V.1 63 1 = nI (n + 1) ∧ (∀ i, i ≠ 1 → V.1 63 i = T.1 63 i) ∧ (∀ k, k ≠ 63 → k ≠ 79 → V.1 k = T.1 k) ∧ (∀ j, j < 154 + 11 * n → V.1 79 j = T.1 79 j) ∧ V.1 79 (154 + 11 * n) = nI sp ∧ V.1 79 (154 + 11 * n + 1) = 1 ∧ V.1 79 (154 + 11 * n + 2) = -4 ∧ V.1 79 (154 + 11 * n + 3) = -4 ∧ V.1 79 (154 + 11 * n + 4) = sr ∧ V.1 79 (154 + 11 * n + 5) = -4 ∧ (∀ g, 6 ≤ g → g ≤ 10 → V.1 79 (154 + 11 * n + g) = 0) := by
  rw [f_State_addThing.eq_1, hn, if_pos (show nI n < (72 : Int32) from (nI_ltJ (b := 72) (by omega) (by omega)).mpr h72), nmR, wr_r, st_here, nI_1, show (11 : Int32) * nI n = nI (11 * n) from nI_mul 11 n, show (11 : Int32) * nI (n + 1) = nI (11 * (n + 1)) from nI_mul 11 (n + 1), show (154 : Int32) + nI (11 * n) = nI (154 + 11 * n) from nI_add 154 (11 * n), show (154 : Int32) + nI (11 * (n + 1)) = nI (154 + 11 * (n + 1)) from nI_add 154 (11 * (n + 1))] at h
  replace h := bndv_i h
  obtain ⟨T3, f, h⟩ := h
  rw [f_Arrays_fill_fda19_State_cells.eq_1] at f
  replace f := bndv_i f
  obtain ⟨T2, rc, f⟩ := f
  have e2 : T2 = st T 63 1 (nI (n + 1)) := rc_i rc
  rw [e2] at f
  obtain ⟨g1, g2⟩ := fl_c NF (154 + 11 * n) (154 + 11 * (n + 1)) _ T3 (by omega) (by omega) f
  have cn3 : T3.1 63 1 = nI (n + 1) := by rw [g2 63 (by decide), st_here]
  have S : ∀ (X : SS), X.1 63 1 = nI (n + 1) → ∀ (f : Nat) (a v : Int32), a = nI f → f < 11 → f_State_set (nI n) a v X = some (st X 79 (154 + 11 * n + f) v) := fun X hX f a v ha hf => sset a v ha hX (by omega) (by omega) hf
  have k63 : ∀ (X : SS) (j : Nat) (v : Int32), (st X 79 j v).1 63 1 = X.1 63 1 := fun X j v => by rw [st_row _ _ _ _ (by decide)]
  rw [S T3 cn3 0 0 _ rfl (by omega), bndv_r, S _ (by rw [k63]; exact cn3) 1 1 _ rfl (by omega), bndv_r, S _ (by rw [k63, k63]; exact cn3) 2 2 _ rfl (by omega), bndv_r, S _ (by rw [k63, k63, k63]; exact cn3) 3 3 _ rfl (by omega), bndv_r, S _ (by rw [k63, k63, k63, k63]; exact cn3) 4 4 _ rfl (by omega), bndv_r, S _ (by rw [k63, k63, k63, k63, k63]; exact cn3) 5 5 _ rfl (by omega), bndv_r] at h
  obtain ⟨rfl, rfl⟩ := so_i h
  have t79 : ∀ j, (st T 63 1 (nI (n + 1))).1 79 j = T.1 79 j := fun j => by rw [st_row _ _ _ _ (by decide)]
  refine ⟨rfl, ?_, fun i hi => ?_, fun k a b => ?_, fun j hj => ?_, ?_, ?_, ?_, ?_, ?_, ?_, fun g a b => ?_⟩
  · rw [k63, k63, k63, k63, k63, k63]; exact cn3
  · rw [st_row _ _ _ _ (by decide), st_row _ _ _ _ (by decide), st_row _ _ _ _ (by decide), st_row _ _ _ _ (by decide), st_row _ _ _ _ (by decide), st_row _ _ _ _ (by decide), g2 63 (by decide), st_no (by omega)]
  · rw [st_row _ _ _ _ b, st_row _ _ _ _ b, st_row _ _ _ _ b, st_row _ _ _ _ b, st_row _ _ _ _ b, st_row _ _ _ _ b, g2 k b, st_row _ _ _ _ a]
  · rw [st_no (by omega), st_no (by omega), st_no (by omega), st_no (by omega), st_no (by omega), st_no (by omega), g1, if_neg (by omega), t79]
  · rw [st_no (by omega), st_no (by omega), st_no (by omega), st_no (by omega), st_no (by omega)]; exact st_here _ _ _ _
  · rw [st_no (by omega), st_no (by omega), st_no (by omega), st_no (by omega), st_here]
  · rw [st_no (by omega), st_no (by omega), st_no (by omega), st_here]
  · rw [st_no (by omega), st_no (by omega), st_here]
  · rw [st_no (by omega), st_here]
  · rw [st_here]
  · rw [st_no (by omega), st_no (by omega), st_no (by omega), st_no (by omega), st_no (by omega), st_no (by omega), g1, if_pos (by omega)]
theorem sk_set {X : SS} {x f : Nat} (a v : Int32) (ha : a = nI f) (hx : x < 72) (hf : f < 6) : f_Stock_set (nI x) a v X = some (st X 91 (6 * x + f) v) := by
  subst ha
  rw [f_Stock_set.eq_1, if_neg (nI_nn (by omega)), if_neg (show ¬ (72 : Int32) ≤ nI x from nI_ge (b := 72) hx (by omega)), show (6 : Int32) * nI x = nI (6 * x) from nI_mul 6 x, nI_add, grT (inb_nI (by omega) (by omega)), wr_r, nI_clamp (by omega)]
/-! ===== wagon, engine ===== -/
def repB (S T : SS) (p : Nat → Bool) : SS := (fun a => bif p a then T.1 a else S.1 a, S.2)
theorem repB_eq {S T : SS} {p : Nat → Bool} {P : Nat → Prop} (h : ∀ a, p a = false → P a → S.1 a = T.1 a) : ∀ a, P a → (repB S T p).1 a = T.1 a := fun a ha => by
  show (bif p a then T.1 a else S.1 a) = T.1 a
  cases c : p a
  · exact h a c ha
  · rfl
theorem nbf (a k : Nat) : (Nat.beq a k = false) = (a ≠ k) := propext ⟨fun h => Nat.ne_of_beq_eq_false h, fun h => by
  cases c : Nat.beq a k
  · rfl
  · exact absurd (Nat.eq_of_beq_eq_true c) h⟩
theorem Stk.cel {T U V W : SS} {x : Nat} (h : Stk T U x) (c : ∀ f, f < 6 → V.1 91 (6 * x + f) = T.1 91 (6 * x + f)) (c2 : V.1 92 = T.1 92) (m18 : W.1 18 x = U.1 18 x) (m28 : W.1 28 x = U.1 28 x) (m29 : W.1 29 x = U.1 29 x) (m35 : W.1 35 x = U.1 35 x) (m36 : W.1 36 = U.1 36) (m37 : W.1 37 = U.1 37) : Stk V W x := by
  obtain ⟨h1, h2, h3, h4⟩ := h
  have c0 : V.1 91 (6 * x) = T.1 91 (6 * x) := c 0 (by omega)
  refine ⟨?_, ?_, ?_, ?_⟩
  · rw [c0, m18]; exact h1
  · rw [c 1 (by omega), m28]; exact h2
  · rw [c 2 (by omega), m29]; exact h3
  · rw [c 3 (by omega), c 4 (by omega), c 5 (by omega), c2, m35, m36, m37]; exact h4
theorem sv_oth {U : SS} {k i : Nat} {v : Int32} (hk : k = 18 ∨ k = 28 ∨ k = 29 ∨ k = 35) : sv (st U k i v) = sv U := funext fun j => by
  unfold sv
  rw [st_row (a := 19) _ _ _ _ (by omega), st_row (a := 20) _ _ _ _ (by omega), st_row (a := 21) _ _ _ _ (by omega), st_row (a := 22) _ _ _ _ (by omega), st_row (a := 23) _ _ _ _ (by omega), st_row (a := 24) _ _ _ _ (by omega), st_row (a := 25) _ _ _ _ (by omega), st_row (a := 26) _ _ _ _ (by omega), st_row (a := 27) _ _ _ _ (by omega), st_row (a := 30) _ _ _ _ (by omega), st_row (a := 31) _ _ _ _ (by omega), st_row (a := 32) _ _ _ _ (by omega), st_row (a := 33) _ _ _ _ (by omega), st_row (a := 34) _ _ _ _ (by omega), st_row (a := 10) _ _ _ _ (by omega), st_row (a := 11) _ _ _ _ (by omega), st_row (a := 0) _ _ _ _ (by omega)]
theorem sv_z {U : SS} {i : Nat} {v : Int32} (hi : i ≠ 48) : sv (st U 0 i v) = sv U := sv_0i (fun k hk => st_row _ _ _ _ hk) (st_no (by omega))
theorem put_al {n np nt L : Nat} {T U S1 S2 : SS} {t p q k ax sg : Nat} {r1 r2 : Int32} (b : Bo n np nt T U) (d : Dw n np nt L T U) (h72 : n < 72) (ht : t < nt) (hq : U.1 3 t = nI q) (hq2 : q ≤ 24) (hp : p < q) (hk : k ≤ 6) (ha : ax ≤ 8) (hs : sg ≤ 100) (g1 : f_Yard_standNew_j59 (nI t) (nI p) (nI k) (nI ax) (nI sg) 0 T = some (r1, S1)) (g2 : f_M_put (nI k) (nI t) (nI p) (nI ax) (nI sg) U = some (r2, S2)) : r1 = r2 ∧ Dw (n + 1) np nt L S1 S2 := by
  have hnt := b.s.nt24
  have hnp := b.s.np40
  rw [f_Yard_standNew_j59.eq_1, if_pos rfl, fgC, bndv_r, f_Layout_spot.eq_1, bnd_r, f_Trains_nextSerial.eq_1, wr_r, bnd_r, st_here, nM24, nI_add, st_row _ 64 _ _ (by decide), st_row _ 64 _ _ (by decide), d.sr] at g1
  replace g1 := bnd_i g1
  obtain ⟨r, V, a1, g1⟩ := g1
  obtain ⟨rfl, v1, v2, v3, v4, v5, v6, v7, v8, v9, v10, v11⟩ := at_c (n := n) (by rw [st_row _ _ _ _ (by decide), st_row _ _ _ _ (by decide), st_row _ _ _ _ (by decide)]; exact d.s.cn) h72 a1
  rw [f_Stock_describe.eq_1, sk_set (f := 0) 0 _ rfl h72 (by omega), bndv_r, sk_set (f := 1) 1 _ rfl h72 (by omega), bndv_r, sk_set (f := 2) 2 _ rfl h72 (by omega), bndv_r, sk_set (f := 3) 3 _ rfl h72 (by omega), bndv_r, bndv_r, Nat.add_zero] at g1
  obtain ⟨rfl, x1⟩ := so_i g1
  rw [f_M_put.eq_1, nmR, d.s.mn, grT (inb_nI (by omega) (by omega)), wr_r, grT (inb_nI (by omega) (by omega)), wr_r, grT (inb_nI (by omega) (by omega)), wr_r, grT (inb_nI (by omega) (by omega)), wr_r, grT (inb_nI (by omega) (by omega)), wr_r, nM2, grT (inb_nI (by omega) (by omega)), wr_r, nI_1, grT (inb_nI (by omega) (by omega)), wr_r, grT (inb_nI (by omega) (by omega)), wr_r, grT (inb_nI (by omega) (by omega)), wr_r, grT (inb_nI (by omega) (by omega)), wr_r, grT (inb_nI (by omega) (by omega)), wr_r, wr_r, grT (inb_nI (by omega) (by omega)), wr_r, wr_r, fgM, bndv_r, nI_clamp (n := n) (by omega), nI_clamp (n := 2 * n) (by omega), nI_clamp (n := 2 * n + 1) (by omega), show vp_nar .boolean (1 : Int32) = 1 from by decide] at g2
  obtain ⟨rfl, x2⟩ := so_i g2
  rw [st_row (a := 0) _ 24 _ _ (by decide), st_here] at x2
  generalize hX : st (st (st (st (st (st (st (st (st (st (st U 18 n (nI k)) 19 n 1) 20 n (nI t)) 21 n (nI p)) 22 n 1) 23 (2 * n) (-4)) 23 (2 * n + 1) (-4)) 25 n (-4)) 28 n (nI ax)) 29 n (nI sg)) 35 n (-4) = X at x2
  have X0 : X.1 0 = U.1 0 := by
    rw [← hX, st_row _ _ _ _ (by decide), st_row _ _ _ _ (by decide), st_row _ _ _ _ (by decide), st_row _ _ _ _ (by decide), st_row _ _ _ _ (by decide), st_row _ _ _ _ (by decide), st_row _ _ _ _ (by decide), st_row _ _ _ _ (by decide), st_row _ _ _ _ (by decide), st_row _ _ _ _ (by decide), st_row _ _ _ _ (by decide)]
  have XM : ∀ a, (a < 18 ∨ 25 < a) → a ≠ 28 → a ≠ 29 → a ≠ 35 → X.1 a = U.1 a := fun a p q r s => by
    rw [← hX, st_row _ _ _ _ (by omega), st_row _ _ _ _ (by omega), st_row _ _ _ _ (by omega), st_row _ _ _ _ (by omega), st_row _ _ _ _ (by omega), st_row _ _ _ _ (by omega), st_row _ _ _ _ (by omega), st_row _ _ _ _ (by omega), st_row _ _ _ _ (by omega), st_row _ _ _ _ (by omega), st_row _ _ _ _ (by omega)]
  have X18 : ∀ i, X.1 18 i = if i = n then nI k else U.1 18 i := fun i => by
    rw [← hX, st_row _ 35 _ _ (by decide), st_row _ 29 _ _ (by decide), st_row _ 28 _ _ (by decide), st_row _ 25 _ _ (by decide), st_row _ 23 _ _ (by decide), st_row _ 23 _ _ (by decide), st_row _ 22 _ _ (by decide), st_row _ 21 _ _ (by decide), st_row _ 20 _ _ (by decide), st_row _ 19 _ _ (by decide), st_at, if_pos rfl]
  have X28 : ∀ i, X.1 28 i = if i = n then nI ax else U.1 28 i := fun i => by
    rw [← hX, st_row _ 35 _ _ (by decide), st_row _ 29 _ _ (by decide), st_at, if_pos rfl, st_row _ 25 _ _ (by decide), st_row _ 23 _ _ (by decide), st_row _ 23 _ _ (by decide), st_row _ 22 _ _ (by decide), st_row _ 21 _ _ (by decide), st_row _ 20 _ _ (by decide), st_row _ 19 _ _ (by decide), st_row _ 18 _ _ (by decide)]
  have X29 : ∀ i, X.1 29 i = if i = n then nI sg else U.1 29 i := fun i => by
    rw [← hX, st_row _ 35 _ _ (by decide), st_at, if_pos rfl, st_row _ 28 _ _ (by decide), st_row _ 25 _ _ (by decide), st_row _ 23 _ _ (by decide), st_row _ 23 _ _ (by decide), st_row _ 22 _ _ (by decide), st_row _ 21 _ _ (by decide), st_row _ 20 _ _ (by decide), st_row _ 19 _ _ (by decide), st_row _ 18 _ _ (by decide)]
  have X35 : ∀ i, X.1 35 i = if i = n then -4 else U.1 35 i := fun i => by
    rw [← hX, st_at, if_pos rfl, st_row _ 29 _ _ (by decide), st_row _ 28 _ _ (by decide), st_row _ 25 _ _ (by decide), st_row _ 23 _ _ (by decide), st_row _ 23 _ _ (by decide), st_row _ 22 _ _ (by decide), st_row _ 21 _ _ (by decide), st_row _ 20 _ _ (by decide), st_row _ 19 _ _ (by decide), st_row _ 18 _ _ (by decide)]
  have Xs : ∀ j, j < 1161 → sv X j = if j = 15 * n + 7 then -4 else if j = 15 * n + 5 then -4 else if j = 15 * n + 4 then -4 else if j = 15 * n + 3 then 1 else if j = 15 * n + 2 then nI p else if j = 15 * n + 1 then nI t else if j = 15 * n + 0 then 1 else sv U j := fun j hj => by
    rw [← hX, sv_oth (by omega), sv_oth (by omega), sv_oth (by omega), svw_7 h72 j hj, svw_5 h72 j hj, svw_4 h72 j hj, svw_3 h72 j hj, svw_2 h72 j hj, svw_1 h72 j hj, svw_0 h72 j hj, sv_oth (by omega), if_neg (show ¬ (1 : Int32) = 0 by decide)]
  rw [X0] at x2
  have x2' : S2 = st (st (st (st (st X 0 49 (U.1 0 49 + 1)) 24 n (U.1 0 49 + 1)) 0 29 (nI (n + 1))) 0 60 0) 0 61 0 := by
    rw [x2, st_no (S := X) (by omega), X0, d.s.mn, nI_1]
  clear x2 hX g2
  have K : ∀ j, j < 1161 → sv S2 j = if j = 15 * n + 6 then U.1 0 49 + 1 else sv X j := fun j hj => by
    rw [x2', sv_z (by omega), sv_z (by omega), sv_z (by omega), svw_6 h72 j hj, sv_z (by omega)]
  have M : ∀ a, a ≠ 0 → a ≠ 24 → S2.1 a = X.1 a := fun a p q => by rw [x2', st_row _ _ _ _ p, st_row _ _ _ _ p, st_row _ _ _ _ p, st_row _ _ _ _ q, st_row _ _ _ _ p]
  have F : ∀ i, i ≠ 29 → i ≠ 49 → i ≠ 60 → i ≠ 61 → S2.1 0 i = U.1 0 i := fun i p q r s => by rw [x2', st_no (by omega), st_no (by omega), st_no (by omega), st_row _ _ _ _ (by decide), st_no (by omega), X0]
  have m29 : S2.1 0 29 = nI (n + 1) := by rw [x2', st_no (by omega), st_no (by omega), st_here]
  have m49 : S2.1 0 49 = U.1 0 49 + 1 := by rw [x2', st_no (by omega), st_no (by omega), st_no (by omega), st_row _ _ _ _ (by decide), st_here]
  have C : ∀ a, a ≠ 63 → a ≠ 64 → a ≠ 68 → a ≠ 79 → a ≠ 91 → S1.1 a = T.1 a := fun a p q r s u => by rw [x1, st_row _ _ _ _ u, st_row _ _ _ _ u, st_row _ _ _ _ u, st_row _ _ _ _ u, v3 a p s, st_row _ _ _ _ r, st_row _ _ _ _ q, st_row _ _ _ _ q]
  have C64 : ∀ i, i ≠ 6 → i ≠ 7 → S1.1 64 i = T.1 64 i := fun i p q => by rw [x1, st_row _ _ _ _ (by decide), st_row _ _ _ _ (by decide), st_row _ _ _ _ (by decide), st_row _ _ _ _ (by decide), v3 64 (by decide) (by decide), st_row _ _ _ _ (by decide), st_no (by omega), st_no (by omega)]
  have z6 : S1.1 64 6 = 0 := by rw [x1, st_row _ _ _ _ (by decide), st_row _ _ _ _ (by decide), st_row _ _ _ _ (by decide), st_row _ _ _ _ (by decide), v3 64 (by decide) (by decide), st_row _ _ _ _ (by decide), st_no (by omega), st_here]
  have z7 : S1.1 64 7 = 0 := by rw [x1, st_row _ _ _ _ (by decide), st_row _ _ _ _ (by decide), st_row _ _ _ _ (by decide), st_row _ _ _ _ (by decide), v3 64 (by decide) (by decide), st_row _ _ _ _ (by decide), st_here]
  have c79 : S1.1 79 = V.1 79 := by rw [x1, st_row _ _ _ _ (by decide), st_row _ _ _ _ (by decide), st_row _ _ _ _ (by decide), st_row _ _ _ _ (by decide)]
  have c68 : S1.1 68 5 = U.1 0 49 + 1 := by rw [x1, st_row _ _ _ _ (by decide), st_row _ _ _ _ (by decide), st_row _ _ _ _ (by decide), st_row _ _ _ _ (by decide), v3 68 (by decide) (by decide), st_here]
  have c63 : S1.1 63 1 = nI (n + 1) := by rw [x1, st_row _ _ _ _ (by decide), st_row _ _ _ _ (by decide), st_row _ _ _ _ (by decide), st_row _ _ _ _ (by decide), v1]
  have c91o : V.1 91 = T.1 91 := by rw [v3 91 (by decide) (by decide), st_row _ _ _ _ (by decide), st_row _ _ _ _ (by decide), st_row _ _ _ _ (by decide)]
  have c91 : ∀ i, S1.1 91 i = if i = 6 * n + 3 then -4 else if i = 6 * n + 2 then nI sg else if i = 6 * n + 1 then nI ax else if i = 6 * n then nI k else T.1 91 i := fun i => by rw [x1, st_at, if_pos rfl, st_at, if_pos rfl, st_at, if_pos rfl, st_at, if_pos rfl, c91o]
  have t79 : ∀ j, j < 154 + 11 * n → S1.1 79 j = T.1 79 j := fun j hj => by rw [c79, v4 j hj, st_row _ _ _ _ (by decide), st_row _ _ _ _ (by decide), st_row _ _ _ _ (by decide)]
  have h0 : Sta n np nt (repB S1 T (fun a => Nat.beq a 63 || Nat.beq a 91)) (repB S2 U (fun a => Nat.beq a 0 || Nat.beq a 18 || Nat.beq a 28 || Nat.beq a 29 || Nat.beq a 35)) := d.s.fr (repB_eq (P := sC) (fun a p q => by
      simp only [Bool.or_eq_false_iff, nbf] at p
      unfold sC at q
      exact C a (by omega) (by omega) (by omega) (by omega) (by omega))) (repB_eq (P := sM) (fun a p q => by
      simp only [Bool.or_eq_false_iff, nbf] at p
      unfold sM at q
      rw [M a (by omega) (by omega), XM a (by omega) (by omega) (by omega) (by omega)])) (fun i _ => rfl)
  have s' : Sta (n + 1) np nt S1 S2 := (Sta.mk_ (n72_ := by omega)
    (np40_ := h0.np40)
    (nt24_ := h0.nt24)
    (cn_ := c63)
    (mn_ := m29)
    (cp_ := h0.cp)
    (mp_ := by rw [F 15 (by decide) (by decide) (by decide) (by decide)]; exact d.s.mp)
    (ct_ := h0.ct)
    (mt_ := by rw [F 7 (by decide) (by decide) (by decide) (by decide)]; exact d.s.mt)
    (pl_ := h0.pl)
    (e3_ := h0.e3)
    (e5_ := h0.e5)
    (e9_ := h0.e9)
    (e6_ := h0.e6)
    (e7_ := h0.e7)
    (e4_ := h0.e4)
    (pa_ := h0.pa)
    (pe_ := h0.pe)
    (lm_ := h0.lm)
    (lt_ := h0.lt)
    (li_ := h0.li)
    (ls_ := h0.ls)
    (ld_ := by rw [F 14 (by decide) (by decide) (by decide) (by decide), M 6 (by decide) (by decide), XM 6 (by decide) (by decide) (by decide) (by decide), M 8 (by decide) (by decide), XM 8 (by decide) (by decide) (by decide) (by decide)]; exact d.s.ld)
    (er_ := by rw [F 19 (by decide) (by decide) (by decide) (by decide), C 67 (by decide) (by decide) (by decide) (by decide) (by decide)]; exact d.s.er)
    (r19_ := by rw [F 19 (by decide) (by decide) (by decide) (by decide), M 12 (by decide) (by decide), XM 12 (by decide) (by decide) (by decide) (by decide)]; exact d.s.r19)
    (e12_ := h0.e12)
    (e13_ := h0.e13)
    (e14_ := h0.e14)
    (e15_ := h0.e15)
    (en_ := h0.en)
    (ep_ := h0.ep)
    (e16_ := h0.e16)
    (e17_ := h0.e17)
    (sk_ := fun x hx => by
      by_cases e : x = n
      · subst e
        obtain ⟨s4, s5⟩ := d.s.sz x (Nat.le_refl _) h72
        refine ⟨⟨k, hk, ?_, ?_⟩, ⟨ax, ha, ?_, ?_⟩, ⟨sg, hs, ?_, ?_⟩, Or.inl ⟨?_, ?_, ?_, ?_⟩⟩
        · rw [c91, if_neg (by omega), if_neg (by omega), if_neg (by omega), if_pos rfl]
        · rw [M 18 (by decide) (by decide), X18, if_pos rfl]
        · rw [c91, if_neg (by omega), if_neg (by omega), if_pos rfl]
        · rw [M 28 (by decide) (by decide), X28, if_pos rfl]
        · rw [c91, if_neg (by omega), if_pos rfl]
        · rw [M 29 (by decide) (by decide), X29, if_pos rfl]
        · rw [c91, if_pos rfl]
        · rw [M 35 (by decide) (by decide), X35, if_pos rfl]
        · rw [c91, if_neg (by omega), if_neg (by omega), if_neg (by omega), if_neg (by omega)]; exact s4
        · rw [c91, if_neg (by omega), if_neg (by omega), if_neg (by omega), if_neg (by omega)]; exact s5
      · refine (d.s.sk x (by omega)).cel (fun f hf => by rw [c91, if_neg (by omega), if_neg (by omega), if_neg (by omega), if_neg (by omega)]) (C 92 (by decide) (by decide) (by decide) (by decide) (by decide)) ?_ ?_ ?_ ?_ ?_ ?_
        · rw [M 18 (by decide) (by decide), X18, if_neg e]
        · rw [M 28 (by decide) (by decide), X28, if_neg e]
        · rw [M 29 (by decide) (by decide), X29, if_neg e]
        · rw [M 35 (by decide) (by decide), X35, if_neg e]
        · rw [M 36 (by decide) (by decide), XM 36 (by decide) (by decide) (by decide) (by decide)]
        · rw [M 37 (by decide) (by decide), XM 37 (by decide) (by decide) (by decide) (by decide)])
    (sz_ := fun x hx h => by
      rw [c91, if_neg (by omega), if_neg (by omega), if_neg (by omega), if_neg (by omega), c91, if_neg (by omega), if_neg (by omega), if_neg (by omega), if_neg (by omega)]
      exact d.s.sz x (by omega) h))
  have hn15 : ∀ e, e < 15 → 15 * n + e < 1161 := fun e he => by omega
  refine ⟨rfl, d.upd s' ?_ (fun a ha => C a (by omega) (by omega) (by omega) (by omega) (by omega)) (by rw [c68, m49]) (fun i hi => C64 i (by omega) (by omega)) (fun a ha => by rw [M a (by omega) (by omega), XM a (by omega) (by omega) (by omega) (by omega)]) (fun i hi => F i (by omega) (by omega) (by omega) (by omega)) z6 z7 (by rw [x2', st_no (by omega), st_here]) (by rw [x2', st_here])⟩
  rw [M 3 (by decide) (by decide), XM 3 (by decide) (by decide) (by decide) (by decide), F 47 (by decide) (by decide) (by decide) (by decide)]
  refine d.w.add (sr := U.1 0 49 + 1) h72 hnp (fun x hx => ?_) (fun x s hx hs => ?_) ht hq hq2 hp (fun y e hy he ne => ?_) (fun j h1 h2 => ?_) t79 ?_ ?_ ?_ ?_ ?_ ?_ ?_ ?_ (fun e he => ?_) (by rw [c79, v5]) (by rw [c79, v6]) (by rw [c79, v7]) (by rw [c79, v8]) (by rw [c79, v9]) (by rw [c79, v10]) (fun g a c => by rw [c79, v11 g a c])
  · rw [M 18 (by decide) (by decide), X18, if_neg (by omega)]
  · have e : sv U (15 * x + 4 + s) = U.1 23 (2 * x + s) := by
      rcases (show s = 0 ∨ s = 1 by omega) with rfl | rfl
      · exact sv_4 U (by omega)
      · exact sv_5 U (by omega)
    rw [e]
    rcases ac_mate b.ac hx hs with c | ⟨o, ho, c⟩
    · rw [c]; exact fun y => nI_m4 (by omega) y.symm
    · rw [c]; exact fun y => by have := nI_inj (by omega) (by omega) y; omega
  · rw [K _ (by omega), if_neg (by omega), Xs _ (by omega), if_neg (by omega), if_neg (by omega), if_neg (by omega), if_neg (by omega), if_neg (by omega), if_neg (by omega), if_neg (by omega)]
  · rw [K _ (by omega), if_neg (by omega), Xs _ (by omega), if_neg (by omega), if_neg (by omega), if_neg (by omega), if_neg (by omega), if_neg (by omega), if_neg (by omega), if_neg (by omega)]
  · rw [K _ (by omega), if_neg (by omega), Xs _ (by omega), if_neg (by omega), if_neg (by omega), if_neg (by omega), if_neg (by omega), if_neg (by omega), if_neg (by omega), if_pos (by omega)]
  · rw [K _ (by omega), if_neg (by omega), Xs _ (by omega), if_neg (by omega), if_neg (by omega), if_neg (by omega), if_neg (by omega), if_neg (by omega), if_pos rfl]
  · rw [K _ (by omega), if_neg (by omega), Xs _ (by omega), if_neg (by omega), if_neg (by omega), if_neg (by omega), if_neg (by omega), if_pos rfl]
  · rw [K _ (by omega), if_neg (by omega), Xs _ (by omega), if_neg (by omega), if_neg (by omega), if_neg (by omega), if_pos rfl]
  · rw [K _ (by omega), if_neg (by omega), Xs _ (by omega), if_neg (by omega), if_neg (by omega), if_pos rfl]
  · rw [K _ (by omega), if_neg (by omega), Xs _ (by omega), if_neg (by omega), if_pos rfl]
  · rw [K _ (by omega), if_pos rfl]
  · rw [K _ (by omega), if_neg (by omega), Xs _ (by omega), if_pos rfl]
  · rw [K _ (by omega), if_neg (by omega), Xs _ (by omega), if_neg (by omega), if_neg (by omega), if_neg (by omega), if_neg (by omega), if_neg (by omega), if_neg (by omega), if_neg (by omega)]
    exact d.w.nw n e (Nat.le_refl _) h72 (by omega)
theorem stn_al {n np nt L k ax sg : Nat} {S S1 S2 : SS} {a2 a3 r1 r2 : Int32} (h : Dz n np nt L S) (hW1 : WR S1) (z : Fg S S1 S2) (hk : k ≤ 6) (ha : ax ≤ 8) (hs : sg ≤ 100) (e1 : f_Yard_standNew a2 a3 (nI k) (nI ax) (nI sg) S = some (r1, S1))
    (e2 : (if S1.1 0 29 = (72 : Int32) then some ((-3 : Int32), S1) else bndv (f_M_begin S1) (fun S1 => bnd (f_M_missFree a2 a3 S1) (fun r3 S2 => bnd (f_M_ends r3 S2) (fun r5 S4 => if r5 = 0 then bnd (f_M_put (nI k) a2 a3 (nI ax) (nI sg) S4) (fun r7 S6 => some (r7, S6)) else some ((-2 : Int32), S4))))) = some (r2, S2)) : Ay L r1 r2 S2 := by
  have d0 := h.dw1 z
  have h72 := d0.s.n72
  rw [f_Yard_standNew.eq_1, d0.s.cn] at e1
  rw [d0.s.mn] at e2
  by_cases c2 : n < 72
  · rw [if_pos (show nI n < (72 : Int32) from (nI_ltJ (b := 72) (by omega) (by omega)).mpr c2)] at e1
    rw [if_neg (show ¬ nI n = (72 : Int32) from fun y => by have := nI_inj (b := 72) (by omega) (by omega) y; omega)] at e2
    refine beg_al h hW1 z (fun T U b d _ g1 g2 => ?_) e1 e2
    have fin : r1 = r2 ∧ Qz T U S1 S2 → r1 = r2 ∧ ∃ n' np' nt', Dw n' np' nt' L S1 S2 := fun q => ⟨q.1, n, np, nt, d.qz q.2⟩
    rw [f_M_missFree.eq_1] at g2
    rcases plf_al b a2 a3 with ⟨t, p, q, ht, rfl, rfl, hq, q2, hp, p1, p2⟩ | ⟨r, hr, p1, p2⟩
    · have hnt := b.s.nt24
      rw [p1, bnd_r, if_pos rfl, f_Layout_spot.eq_1, bnd_r, nM24, nI_add] at g1
      rw [p2, bnd_r, if_pos rfl] at g2
      replace g1 := bnd_i g1
      obtain ⟨o1, T1, s1, g1⟩ := g1
      replace g2 := bnd_i g2
      obtain ⟨o2, U1, s2, g2⟩ := g2
      replace s2 := bnd_i s2
      obtain ⟨o3, U2, s2, s3⟩ := s2
      obtain ⟨rfl, rfl, rfl, -⟩ := stand_al b ht hp q2 s1 s2
      by_cases w : o3 = -4
      · rw [if_pos w] at g1 s3
        obtain ⟨rfl, rfl⟩ := so_i s3
        rw [ends_0, bnd_r, if_pos rfl] at g2
        replace g2 := bnd_i g2
        obtain ⟨o4, U4, s4, g2⟩ := g2
        obtain ⟨rfl, rfl⟩ := so_i g2
        obtain ⟨y1, y2⟩ := put_al b d c2 ht hq q2 hp hk ha hs g1 s4
        exact ⟨y1, n + 1, np, nt, y2⟩
      · rw [if_neg w, f_Yard_standNew_j59.eq_1, if_neg (by decide)] at g1
        rw [if_neg w] at s3
        obtain ⟨rfl, rfl⟩ := so_i s3
        replace g1 := bnd_i g1
        obtain ⟨q, V, l, g1⟩ := g1
        replace g2 := bnd_i g2
        obtain ⟨q', W, m2, g2⟩ := g2
        exact fin (fnd_al b l (by decide) m2 g1 g2)
    · rw [p1, bnd_r, if_neg hr, f_Yard_standNew_j59.eq_1, if_neg hr] at g1
      rw [p2, bnd_r, if_neg hr, bnd_r] at g2
      replace g1 := bnd_i g1
      obtain ⟨q, V, l, g1⟩ := g1
      replace g2 := bnd_i g2
      obtain ⟨q', W, m2, g2⟩ := g2
      exact fin (fnd_al b l hr m2 g1 g2)
  · have : n = 72 := by omega
    subst this
    rw [if_neg (by decide)] at e1
    rw [if_pos (by decide)] at e2
    exact ay_bad h e1 e2
theorem bnd_id (x : Option (Int32 × SS)) : bnd x (fun r S => some (r, S)) = x := by
  cases x with
  | none => rfl
  | some p => rfl
theorem wagon_st {n np nt L : Nat} {S S1 S2 : SS} {a1 a2 a3 a4 a5 r1 r2 : Int32} (h : Dz n np nt L S) (hW1 : WR S1) (z : Fg S S1 S2) (e1 : f_Yard_wagon a1 a2 a3 a4 a5 S = some (r1, S1)) (e2 : f_M_wagon a1 a2 a3 a4 a5 S1 = some (r2, S2)) : Ay L r1 r2 S2 := by
  rw [f_Yard_wagon.eq_1, in_v, bnd_r] at e1
  rw [f_M_wagon.eq_1] at e2
  have bad : ∀ {a lo hi : Int32} {α : Type} {x y : α}, ¬ inV a lo hi = 0 → (if a < lo then x else if hi < a then x else y) = x := fun {a lo hi α x y} q => by
    by_cases c : a < lo
    · rw [if_pos c]
    · rw [if_neg c]
      by_cases c' : hi < a
      · rw [if_pos c']
      · exact absurd (by unfold inV; rw [if_neg c, if_pos (Int32.not_lt.mp c')]) q
  have good : ∀ {a lo hi : Int32} {α : Type} {x y : α}, inV a lo hi = 0 → (if a < lo then x else if hi < a then x else y) = y := fun {a lo hi α x y} q => by
    unfold inV at q
    by_cases c : a < lo
    · rw [if_pos c] at q; exact absurd q (by decide)
    · rw [if_neg c] at q ⊢
      by_cases c' : a ≤ hi
      · rw [if_neg (Int32.not_lt.mpr c')]
      · rw [if_neg c'] at q; exact absurd q (by decide)
  by_cases q1 : inV a1 0 4 = 0
  · rw [if_pos q1, in_v, bnd_r] at e1
    rw [good q1] at e2
    by_cases q4 : inV a4 0 8 = 0
    · rw [if_pos q4, in_v, bnd_r] at e1
      rw [good q4] at e2
      by_cases q5 : inV a5 1 100 = 0
      · rw [if_pos q5, bnd_id] at e1
        rw [if_neg (inV0.mp q5).1, if_pos (inV0.mp q5).2] at e2
        obtain ⟨k, -, hk, rfl⟩ := in_n (l := 0) (h := 4) rfl rfl (by omega) (by omega) q1
        obtain ⟨ax, -, ha, rfl⟩ := in_n (l := 0) (h := 8) rfl rfl (by omega) (by omega) q4
        obtain ⟨sg, -, hs, rfl⟩ := in_n (l := 1) (h := 100) rfl rfl (by omega) (by omega) q5
        exact stn_al h hW1 z (by omega) ha hs e1 e2
      · rw [if_neg q5] at e1
        have : (if a5 < (1 : Int32) then some ((-1 : Int32), S1) else if a5 ≤ (100 : Int32) then (if S1.1 0 29 = (72 : Int32) then some ((-3 : Int32), S1) else bndv (f_M_begin S1) (fun S1 => bnd (f_M_missFree a2 a3 S1) (fun r3 S2 => bnd (f_M_ends r3 S2) (fun r5 S4 => if r5 = 0 then bnd (f_M_put a1 a2 a3 a4 a5 S4) (fun r7 S6 => some (r7, S6)) else some ((-2 : Int32), S4))))) else some ((-1 : Int32), S1)) = some ((-1 : Int32), S1) := by
          by_cases c : a5 < 1
          · rw [if_pos c]
          · rw [if_neg c]
            by_cases c' : a5 ≤ 100
            · exact absurd (by unfold inV; rw [if_neg c, if_pos c']) q5
            · rw [if_neg c']
        rw [this] at e2
        exact ay_bad h e1 e2
    · rw [if_neg q4] at e1
      rw [bad q4] at e2
      exact ay_bad h e1 e2
  · rw [if_neg q1] at e1
    rw [bad q1] at e2
    exact ay_bad h e1 e2
theorem engine_st {n np nt L : Nat} {S S1 S2 : SS} {a1 a2 a3 a4 r1 r2 : Int32} (h : Dz n np nt L S) (hW1 : WR S1) (z : Fg S S1 S2) (e1 : f_Yard_engine a1 a2 a3 a4 S = some (r1, S1)) (e2 : f_M_engine a1 a2 a3 a4 S1 = some (r2, S2)) : Ay L r1 r2 S2 := by
  rw [f_Yard_engine.eq_1, in_v, bnd_r] at e1
  rw [f_M_engine.eq_1] at e2
  by_cases q : inV a4 0 100 = 0
  · rw [if_pos q] at e1
    rw [if_neg (in_lo q).1, if_pos (in_lo q).2] at e2
    obtain ⟨sg, -, hs, rfl⟩ := in_n (l := 0) (h := 100) rfl rfl (by omega) (by omega) q
    by_cases c : a1 = 0
    · rw [if_pos c, f_Yard_engine_j26.eq_1, if_pos c, bnd_id] at e1
      simp only [if_pos c, f_M_engine_j59.eq_1] at e2
      exact stn_al (k := 5) (ax := 6) h hW1 z (by omega) (by omega) hs e1 e2
    · rw [if_neg c, f_Yard_engine_j26.eq_1, if_neg c, bnd_id] at e1
      simp only [if_neg c, f_M_engine_j59.eq_1] at e2
      exact stn_al (k := 6) (ax := 4) h hW1 z (by omega) (by omega) hs e1 e2
  · rw [if_neg q] at e1
    rw [in_no q] at e2
    exact ay_bad h e1 e2
/-! ===== load, piece ===== -/
theorem sumP_c {r r' : Nat → Int32} {x : Nat} : ∀ m, (∀ i, i < m → r' (20 * x + i) = r (20 * x + i)) → sumP r' x m = sumP r x m
  | 0, _ => rfl
  | m + 1, h => by
    unfold sumP
    rw [sumP_c m (fun i hi => h i (by omega)), h m (by omega)]
theorem sumP_0 {r : Nat → Int32} {x : Nat} : ∀ m, (∀ i, i < m → r (20 * x + i) = 0) → sumP r x m = 0
  | 0, _ => rfl
  | m + 1, h => by
    unfold sumP
    rw [sumP_0 m (fun i hi => h i (by omega)), h m (by omega)]; rfl
theorem sumP_w {r r' : Nat → Int32} {x i v o : Nat} (ho : r (20 * x + i) = nI o) (ho2 : o < 2 ^ 31) (hv : r' (20 * x + i) = nI v) (hv2 : v < 2 ^ 31) (h : ∀ j, j ≠ i → r' (20 * x + j) = r (20 * x + j)) : ∀ m, i < m → sumP r' x m + o = sumP r x m + v
  | 0, hm => by omega
  | m + 1, hm => by
    unfold sumP
    by_cases c : i = m
    · subst c
      rw [sumP_c i (fun j hj => h j (by omega)), hv, ho, nI_clamp (by omega), nI_clamp (by omega)]
      omega
    · have := sumP_w ho ho2 hv hv2 h m (by omega)
      rw [h m (by omega)]
      omega
theorem Dw.ldx {n np nt L x : Nat} {T U V W : SS} (d : Dw n np nt L T U) (hx : x < n) (c : ∀ k, k ≠ 91 → k ≠ 92 → V.1 k = T.1 k) (m : ∀ k, k ≠ 35 → k ≠ 36 → k ≠ 37 → W.1 k = U.1 k) (c1 : ∀ y f, y < 72 → f < 6 → (y ≠ x ∨ f < 3) → V.1 91 (6 * y + f) = T.1 91 (6 * y + f)) (c2 : ∀ y i, y ≠ x → i < 20 → V.1 92 (20 * y + i) = T.1 92 (20 * y + i)) (m5 : ∀ y, y ≠ x → W.1 35 y = U.1 35 y) (m6 : ∀ y, y ≠ x → W.1 36 y = U.1 36 y) (m7 : ∀ y i, y ≠ x → i < 20 → W.1 37 (20 * y + i) = U.1 37 (20 * y + i))
    (k : ∃ m s, m ≤ 20 ∧ s ≤ 1 ∧ W.1 35 x = nI m ∧ V.1 91 (6 * x + 4) = nI m ∧ V.1 91 (6 * x + 3) = nI s ∧ W.1 36 x = nI s ∧ V.1 91 (6 * x + 5) = nI (sumP (W.1 37) x m) ∧ ∀ i, i < m → ∃ v, v ≤ 120 ∧ V.1 92 (20 * x + i) = nI v ∧ W.1 37 (20 * x + i) = nI v) : Dw n np nt L V W := by
  have h72 := d.s.n72
  have h0 : Sta n np nt (repB V T (fun a => Nat.beq a 91 || Nat.beq a 92)) (repB W U (fun a => Nat.beq a 35 || Nat.beq a 36 || Nat.beq a 37)) := d.s.fr (repB_eq (P := sC) (fun a p q => by
      simp only [Bool.or_eq_false_iff, nbf] at p
      exact c a (by omega) (by omega))) (repB_eq (P := sM) (fun a p q => by
      simp only [Bool.or_eq_false_iff, nbf] at p
      exact m a (by omega) (by omega) (by omega))) (fun i _ => by show W.1 0 i = U.1 0 i; rw [m 0 (by decide) (by decide) (by decide)])
  refine d.sta0 (show Sta n np nt V W from Sta.mk_ (n72_ := h0.n72)
    (np40_ := h0.np40)
    (nt24_ := h0.nt24)
    (cn_ := h0.cn)
    (mn_ := h0.mn)
    (cp_ := h0.cp)
    (mp_ := h0.mp)
    (ct_ := h0.ct)
    (mt_ := h0.mt)
    (pl_ := h0.pl)
    (e3_ := h0.e3)
    (e5_ := h0.e5)
    (e9_ := h0.e9)
    (e6_ := h0.e6)
    (e7_ := h0.e7)
    (e4_ := h0.e4)
    (pa_ := h0.pa)
    (pe_ := h0.pe)
    (lm_ := h0.lm)
    (lt_ := h0.lt)
    (li_ := h0.li)
    (ls_ := h0.ls)
    (ld_ := h0.ld)
    (er_ := h0.er)
    (r19_ := h0.r19)
    (e12_ := h0.e12)
    (e13_ := h0.e13)
    (e14_ := h0.e14)
    (e15_ := h0.e15)
    (en_ := h0.en)
    (ep_ := h0.ep)
    (e16_ := h0.e16)
    (e17_ := h0.e17)
    (sk_ := fun y hy => ?_)
    (sz_ := fun y hy h => by
      rw [c1 y 4 h (by omega) (by omega), c1 y 5 h (by omega) (by omega)]
      exact d.s.sz y hy h)) (fun a q => c a (by omega) (by omega)) (fun a q => m a (by omega) (by omega) (by omega)) (fun i _ => by rw [m 0 (by decide) (by decide) (by decide)])
  obtain ⟨s1, s2, s3, s4⟩ := d.s.sk y hy
  have c0 : y < 72 := by omega
  have e0 : V.1 91 (6 * y) = T.1 91 (6 * y) := c1 y 0 c0 (by omega) (by omega)
  refine ⟨?_, ?_, ?_, ?_⟩
  · rw [e0, m 18 (by decide) (by decide) (by decide)]; exact s1
  · rw [c1 y 1 c0 (by omega) (by omega), m 28 (by decide) (by decide) (by decide)]; exact s2
  · rw [c1 y 2 c0 (by omega) (by omega), m 29 (by decide) (by decide) (by decide)]; exact s3
  · by_cases e : y = x
    · subst e; exact Or.inr k
    · rw [c1 y 3 c0 (by omega) (by omega), c1 y 4 c0 (by omega) (by omega), c1 y 5 c0 (by omega) (by omega), m5 y e, m6 y e]
      rcases s4 with q | ⟨j, s, j1, j2, j3, j4, j5, j6, j7, j8⟩
      · exact Or.inl q
      · refine Or.inr ⟨j, s, j1, j2, j3, j4, j5, j6, ?_, fun i hi => ?_⟩
        · rw [sumP_c j (fun i hi => m7 y i e (by omega))]; exact j7
        · rw [c2 y i e (by omega), m7 y i e (by omega)]; exact j8 i hi
theorem sk_put {X : SS} {x i : Nat} (v : Int32) (hx : x < 72) (hi : i < 20) : f_Stock_putPiece (nI x) (nI i) v X = some (X.1 92 (20 * x + i), st X 92 (20 * x + i) v) := by
  rw [f_Stock_putPiece.eq_1, if_neg (nI_nn (by omega)), if_neg (show ¬ (72 : Int32) ≤ nI x from nI_ge (b := 72) hx (by omega)), if_neg (nI_nn (by omega)), if_pos (show nI i < (20 : Int32) from (nI_ltJ (b := 20) (by omega) (by omega)).mpr hi), show (20 : Int32) * nI x = nI (20 * x) from nI_mul 20 x, nI_add, grT (inb_nI (by omega) (by omega)), nmR, grT (inb_nI (by omega) (by omega)), wr_r, nI_clamp (by omega)]
theorem nl_c {x m : Nat} (hx : x < 72) (hm : m ≤ 20) : ∀ (N i : Nat) (T V : SS), i ≤ m → f_Stock_newLoad_L24 N (nI x) (nI m) (nI i) T = some V → (∀ k, k ≠ 92 → V.1 k = T.1 k) ∧ (∀ j, V.1 92 j = if 20 * x + i ≤ j ∧ j < 20 * x + m then 0 else T.1 92 j)
  | 0, i, T, V, _, h => by cases h
  | N + 1, i, T, V, hi, h => by
    rw [f_Stock_newLoad_L24.eq_2] at h
    by_cases c : i = m
    · subst c
      rw [if_pos (nI_le (by omega) (by omega))] at h
      injection h with h
      subst h
      exact ⟨fun k _ => rfl, fun j => by rw [if_neg (by omega)]⟩
    · rw [if_neg (nI_ge (by omega) (by omega)), sk_put _ hx (by omega), bnd_r, nmR, nI_1] at h
      obtain ⟨g1, g2⟩ := nl_c hx hm N (i + 1) _ V (by omega) h
      refine ⟨fun k hk => by rw [g1 k hk, st_row _ _ _ _ hk], fun j => ?_⟩
      rw [g2 j, st_at, if_pos rfl]
      by_cases a : 20 * x + (i + 1) ≤ j ∧ j < 20 * x + m
      · rw [if_pos a, if_pos (by omega)]
      · rw [if_neg a]
        by_cases e : j = 20 * x + i
        · rw [if_pos e, if_pos (by omega)]
        · rw [if_neg e, if_neg (by omega)]
theorem nl_m {x : Nat} {v : Int32} (hx : x < 72) : ∀ (N i : Nat) (T V : SS) (r : Int32), i ≤ 20 → f_M_load_L64 N (nI x) v (nI i) T = some (r, V) → r = v ∧ (∀ k, k ≠ 37 → V.1 k = T.1 k) ∧ (∀ j, V.1 37 j = if 20 * x + i ≤ j ∧ j < 20 * x + 20 then 0 else T.1 37 j)
  | 0, i, T, V, r, _, h => by cases h
  | N + 1, i, T, V, r, hi, h => by
    rw [f_M_load_L64.eq_2] at h
    by_cases c : i = 20
    · subst c
      rw [if_pos (by decide)] at h
      obtain ⟨rfl, rfl⟩ := so_i h
      exact ⟨rfl, fun k _ => rfl, fun j => by rw [if_neg (by omega)]⟩
    · rw [if_neg (show ¬ (20 : Int32) ≤ nI i from nI_ge (b := 20) (by omega) (by omega)), show (20 : Int32) * nI x = nI (20 * x) from nI_mul 20 x, nI_add, grT (inb_nI (by omega) (by omega)), wr_r, nmR, nI_1, nI_clamp (by omega)] at h
      obtain ⟨g0, g1, g2⟩ := nl_m hx N (i + 1) _ V r (by omega) h
      refine ⟨g0, fun k hk => by rw [g1 k hk, st_row _ _ _ _ hk], fun j => ?_⟩
      rw [g2 j, st_at, if_pos rfl]
      by_cases a : 20 * x + (i + 1) ≤ j ∧ j < 20 * x + 20
      · rw [if_pos a, if_pos (by omega)]
      · rw [if_neg a]
        by_cases e : j = 20 * x + i
        · rw [if_pos e, if_pos (by omega)]
        · rw [if_neg e, if_neg (by omega)]
theorem bad2 {a lo hi : Int32} {α : Type} {x y : α} (q : ¬ inV a lo hi = 0) : (if a < lo then x else if hi < a then x else y) = x := by
  by_cases c : a < lo
  · rw [if_pos c]
  · rw [if_neg c]
    by_cases c' : hi < a
    · rw [if_pos c']
    · exact absurd (by unfold inV; rw [if_neg c, if_pos (Int32.not_lt.mp c')]) q
theorem good2 {a lo hi : Int32} {α : Type} {x y : α} (q : inV a lo hi = 0) : (if a < lo then x else if hi < a then x else y) = y := by
  obtain ⟨c, c'⟩ := inV0.mp q
  rw [if_neg c, if_neg (Int32.not_lt.mpr c')]
theorem load_st {n np nt L : Nat} {S S1 S2 : SS} {a1 a2 a3 r1 r2 : Int32} (h : Dz n np nt L S) (hW1 : WR S1) (z : Fg S S1 S2) (e1 : f_Yard_load a1 a2 a3 S = some (r1, S1)) (e2 : f_M_load a1 a2 a3 S1 = some (r2, S2)) : Ay L r1 r2 S2 := by
  rw [f_Yard_load.eq_1, in_v, bnd_r] at e1
  rw [f_M_load.eq_1] at e2
  by_cases q2 : inV a2 0 1 = 0
  · rw [if_pos q2] at e1
    rw [good2 q2] at e2
    obtain ⟨s, -, hs, rfl⟩ := in_n (l := 0) (h := 1) rfl rfl (by omega) (by omega) q2
    by_cases q3 : a3 ≤ 20
    · rw [if_pos q3] at e1 e2
      refine beg_al h hW1 z (fun T U b d _ g1 g2 => ?_) e1 e2
      have h72 := b.s.n72
      have fin : r1 = r2 ∧ Qz T U S1 S2 → r1 = r2 ∧ ∃ n' np' nt', Dw n' np' nt' L S1 S2 := fun q => ⟨q.1, n, np, nt, d.qz q.2⟩
      rcases named_al b a1 (w := 31) (v := 1) (by decide) with ⟨x, hx, rfl, p1, p2, c1, c2⟩ | ⟨r, r', n1, nn2, c1, c2⟩
      · rw [c1, bnd_r, if_pos rfl] at g1
        rw [c2, bnd_r, ends_0, bnd_r, if_pos rfl] at g2
        by_cases q4 : 0 ≤ a3
        · have q0 : ¬ a3 < 0 := fun y => by rw [Int32.le_iff_toInt_le] at q4; rw [Int32.lt_iff_toInt_lt] at y; omega
          obtain ⟨m, -, hm, rfl⟩ := in_n (l := 0) (h := 20) rfl rfl (by omega) (by omega) (inV0.mpr ⟨q0, q3⟩)
          rw [if_pos q4, f_Yard_load_j45.eq_1, if_pos rfl, f_Stock_newLoad.eq_1, sk_set (f := 3) 3 _ rfl (by omega) (by omega), bndv_r, sk_set (f := 4) 4 _ rfl (by omega) (by omega), bndv_r, sk_set (f := 5) 5 _ rfl (by omega) (by omega), bndv_r] at g1
          rw [if_pos q4, grT (inb_nI (by omega) (by omega)), wr_r, grT (inb_nI (by omega) (by omega)), wr_r, nI_clamp (by omega)] at g2
          replace g1 := bndv_i g1
          obtain ⟨V, l1, g1⟩ := g1
          obtain ⟨rfl, rfl⟩ := so_i g1
          obtain ⟨k1, k2⟩ := nl_c (by omega) hm NF 0 _ S1 (by omega) l1
          obtain ⟨rfl, w1, w2⟩ := nl_m (by omega) NF 0 _ S2 _ (by omega) g2
          refine ⟨rfl, n, np, nt, d.ldx (x := x) hx (fun k a c => ?_) (fun k a c e => ?_) (fun y f hy hf e => ?_) (fun y i e hi => ?_) (fun y e => ?_) (fun y e => ?_) (fun y i e hi => ?_) ⟨m, s, hm, hs, ?_, ?_, ?_, ?_, ?_, fun i hi => ⟨0, by omega, ?_, ?_⟩⟩⟩
          · rw [k1 k c, st_row _ _ _ _ a, st_row _ _ _ _ a, st_row _ _ _ _ a]
          · rw [w1 k e, st_row _ _ _ _ c, st_row _ _ _ _ a]
          · rw [k1 91 (by decide), st_no (by omega), st_no (by omega), st_no (by omega)]
          · rw [k2, if_neg (by omega), st_row _ _ _ _ (by decide), st_row _ _ _ _ (by decide), st_row _ _ _ _ (by decide)]
          · rw [w1 35 (by decide), st_row _ _ _ _ (by decide), st_no (by omega)]
          · rw [w1 36 (by decide), st_no (by omega), st_row _ _ _ _ (by decide)]
          · rw [w2, if_neg (by omega), st_row _ _ _ _ (by decide), st_row _ _ _ _ (by decide)]
          · rw [w1 35 (by decide), st_row _ _ _ _ (by decide), st_here]
          · rw [k1 91 (by decide), st_no (by omega), st_here]
          · rw [k1 91 (by decide), st_no (by omega), st_no (by omega), st_here]
          · rw [w1 36 (by decide), st_here]
          · rw [k1 91 (by decide), st_here, sumP_0 m (fun i hi => by rw [w2, if_pos (by omega)])]; rfl
          · rw [k2, if_pos (by omega)]; rfl
          · rw [w2, if_pos (by omega)]; rfl
        · rw [if_neg q4, f_Yard_load_j45.eq_1, if_neg (by decide)] at g1
          rw [if_neg q4] at g2
          exact fin (fnd2_al b g1 g2)
      · rw [c1, bnd_r, if_neg n1, f_Yard_load_j45.eq_1, if_neg n1] at g1
        rw [c2, bnd_r] at g2
        exact fin (nf_al' b nn2 g1 g2)
    · rw [if_neg q3] at e1 e2; exact ay_bad h e1 e2
  · rw [if_neg q2] at e1
    rw [bad2 q2] at e2
    exact ay_bad h e1 e2
theorem sk_get {X : SS} {x f : Nat} (a : Int32) (ha : a = nI f) (hx : x < 72) (hf : f < 6) : f_Stock_get (nI x) a X = some (X.1 91 (6 * x + f), X) := by
  subst ha
  rw [f_Stock_get.eq_1, if_neg (nI_nn (by omega)), if_neg (show ¬ (72 : Int32) ≤ nI x from nI_ge (b := 72) hx (by omega)), show (6 : Int32) * nI x = nI (6 * x) from nI_mul 6 x, nI_add, grT (inb_nI (by omega) (by omega)), nI_clamp (by omega)]
theorem nI_sw {a o s v : Nat} (h : a + o = s + v) : (nI s - nI o) + nI v = nI a := by
  have e : nI a + nI o = nI s + nI v := by rw [nI_add, nI_add, h]
  have f : nI a = nI s + nI v - nI o := by rw [← e, Int32.add_sub_cancel]
  rw [f, Int32.sub_eq_add_neg, Int32.sub_eq_add_neg, Int32.add_assoc, Int32.add_comm (-nI o), ← Int32.add_assoc]
theorem piece_st {n np nt L : Nat} {S S1 S2 : SS} {a1 a2 a3 a4 r1 r2 : Int32} (h : Dz n np nt L S) (hW1 : WR S1) (z : Fg S S1 S2) (e1 : f_Yard_piece a1 a2 a3 a4 S = some (r1, S1)) (e2 : f_M_piece a1 a2 a3 a4 S1 = some (r2, S2)) : Ay L r1 r2 S2 := by
  rw [f_Yard_piece.eq_1, in_v, bnd_r] at e1
  rw [f_M_piece.eq_1] at e2
  by_cases q2 : inV a3 0 1 = 0
  · rw [if_pos q2, in_v, bnd_r] at e1
    rw [good2 q2] at e2
    obtain ⟨s0, -, hs0, rfl⟩ := in_n (l := 0) (h := 1) rfl rfl (by omega) (by omega) q2
    by_cases q3 : inV a4 0 120 = 0
    · rw [if_pos q3] at e1
      rw [if_neg (in_lo q3).1, if_pos (in_lo q3).2] at e2
      obtain ⟨v, -, hv, rfl⟩ := in_n (l := 0) (h := 120) rfl rfl (by omega) (by omega) q3
      refine beg_al h hW1 z (fun T U b d _ g1 g2 => ?_) e1 e2
      have h72 := b.s.n72
      have fin : r1 = r2 ∧ Qz T U S1 S2 → r1 = r2 ∧ ∃ n' np' nt', Dw n' np' nt' L S1 S2 := fun q => ⟨q.1, n, np, nt, d.qz q.2⟩
      rcases named_al b a1 (w := 31) (v := 1) (by decide) with ⟨x, hx, rfl, p1, p2, c1, c2⟩ | ⟨r, r', n1, nn2, c1, c2⟩
      · rw [c1, bnd_r, if_pos rfl, f_Stock_pieceFinding.eq_1, sk_get (f := 3) 3 rfl (by omega) (by omega), bnd_r] at g1
        rw [c2, bnd_r, ends_0, bnd_r, if_pos rfl, grT (inb_nI (by omega) (by omega)), nI_clamp (by omega)] at g2
        rcases (b.s.sk x hx).ld with ⟨k1, k2, k3, k4⟩ | ⟨m, s, j1, j2, j3, j4, j5, j6, j7, j8⟩
        · rw [k1, if_pos rfl, bnd_r, f_Yard_piece_j55.eq_1, if_neg (by decide)] at g1
          rw [k2, if_pos rfl, f_M_piece_j70.eq_1, grT (inb_nI (by omega) (by omega)), nI_clamp (by omega), k2, if_pos rfl] at g2
          exact fin (fnd2_al b g1 g2)
        · rw [j5, if_neg (nI_m4 (by omega))] at g1
          rw [j3, if_neg (nI_m4 (by omega)), grT (inb_nI (by omega) (by omega)), j6] at g2
          by_cases w : nI s = nI s0
          · rw [if_pos w] at g1
            rw [if_pos w, f_M_piece_j70.eq_1, grT (inb_nI (by omega) (by omega)), nI_clamp (n := x) (by omega), j3, if_neg (nI_m4 (by omega))] at g2
            by_cases w2 : a2 < 0
            · rw [if_pos w2, bnd_r, f_Yard_piece_j55.eq_1, if_neg (by decide)] at g1
              rw [if_pos w2, f_M_piece_j101.eq_1] at g2
              exact fin (fnd2_al b g1 g2)
            · rw [if_neg w2, sk_get (f := 4) 4 rfl (by omega) (by omega), bnd_r, j4] at g1
              rw [if_neg w2, grT (inb_nI (by omega) (by omega))] at g2
              by_cases w3 : a2 < nI m
              · obtain ⟨i, hi, rfl⟩ := lt_e (by omega) w2 w3
                obtain ⟨o, o1, o2, o3⟩ := j8 i hi
                rw [if_pos w3, bnd_r, f_Yard_piece_j55.eq_1, if_pos rfl, f_Stock_setPiece.eq_1, sk_put _ (by omega) (by omega), bnd_r, sk_get (f := 5) 5 rfl (by omega) (by omega), bnd_r, sk_set (f := 5) 5 _ rfl (by omega) (by omega), bndv_r, bndv_r, st_row _ _ _ _ (by decide), j7, o2] at g1
                rw [if_pos w3, show (20 : Int32) * nI x = nI (20 * x) from nI_mul 20 x, nI_add, grT (inb_nI (by omega) (by omega)), wr_r, nI_clamp (by omega)] at g2
                obtain ⟨rfl, x1⟩ := so_i g1
                obtain ⟨rfl, x2⟩ := so_i g2
                have sw := sumP_w (r := U.1 37) (r' := S2.1 37) (x := x) (i := i) (v := v) o3 (by omega) (by rw [x2, st_here]) (by omega) (fun j hj => by rw [x2, st_no (by omega)]) m hi
                rw [nI_sw sw] at x1
                refine ⟨rfl, n, np, nt, d.ldx (x := x) hx (fun k a c => ?_) (fun k a c e => ?_) (fun y f hy hf e => ?_) (fun y i e hi => ?_) (fun y e => ?_) (fun y e => ?_) (fun y i e hi => ?_) ⟨m, s, j1, j2, ?_, ?_, ?_, ?_, ?_, fun k hk => ?_⟩⟩
                · rw [x1, st_row _ _ _ _ a, st_row _ _ _ _ c]
                · rw [x2, st_row _ _ _ _ e]
                · rw [x1, st_no (by omega), st_row _ _ _ _ (by decide)]
                · rw [x1, st_row _ _ _ _ (by decide), st_no (by omega)]
                · rw [x2, st_row _ _ _ _ (by decide)]
                · rw [x2, st_row _ _ _ _ (by decide)]
                · rw [x2, st_no (by omega)]
                · rw [x2, st_row _ _ _ _ (by decide), j3]
                · rw [x1, st_no (by omega), st_row _ _ _ _ (by decide), j4]
                · rw [x1, st_no (by omega), st_row _ _ _ _ (by decide), j5]
                · rw [x2, st_row _ _ _ _ (by decide), j6]
                · rw [x1, st_here]
                · rw [x1, x2, st_row _ _ _ _ (by decide)]
                  by_cases e : k = i
                  · subst e; exact ⟨v, hv, by rw [st_here], by rw [st_here]⟩
                  · rw [st_no (by omega), st_no (by omega)]; exact j8 k hk
              · rw [if_neg w3, bnd_r, f_Yard_piece_j55.eq_1, if_neg (by decide)] at g1
                rw [if_neg w3, f_M_piece_j101.eq_1] at g2
                exact fin (fnd2_al b g1 g2)
          · rw [if_neg w, bnd_r, f_Yard_piece_j55.eq_1, if_neg (by decide)] at g1
            rw [if_neg w] at g2
            exact fin (fnd2_al b g1 g2)
      · rw [c1, bnd_r, if_neg n1, f_Yard_piece_j55.eq_1, if_neg n1] at g1
        rw [c2, bnd_r] at g2
        exact fin (nf_al' b nn2 g1 g2)
    · rw [if_neg q3] at e1
      rw [in_no q3] at e2
      exact ay_bad h e1 e2
  · rw [if_neg q2] at e1
    rw [bad2 q2] at e2
    exact ay_bad h e1 e2
end
section
/-! ===== via ===== -/
theorem mr_tr {S U : SS} {a r : Int32} (e : S.1 0 19 = U.1 0 19) (h : f_M_missRoute a U = some (r, U)) : f_M_missRoute a S = some (r, S) := by
  rw [f_M_missRoute.eq_1] at h ⊢
  rw [e]
  by_cases c0 : a < 0
  · rw [if_pos c0] at h ⊢; rw [(so_i h).1]
  · rw [if_neg c0] at h ⊢
    by_cases c1 : a < (12 : Int32)
    · rw [if_pos c1] at h ⊢
      by_cases c2 : a < U.1 0 19
      · rw [if_pos c2] at h ⊢; rw [(so_i h).1]
      · rw [if_neg c2] at h ⊢; rw [(so_i h).1]
    · rw [if_neg c1] at h ⊢; rw [(so_i h).1]
theorem mp_tr {S U : SS} {a r : Int32} (e : S.1 0 15 = U.1 0 15) (h : f_M_missPoint a U = some (r, U)) : f_M_missPoint a S = some (r, S) := by
  rw [f_M_missPoint.eq_1] at h ⊢
  rw [e]
  by_cases c0 : a < 0
  · rw [if_pos c0] at h ⊢; rw [(so_i h).1]
  · rw [if_neg c0] at h ⊢
    by_cases c1 : a < (40 : Int32)
    · rw [if_pos c1] at h ⊢
      by_cases c2 : a < U.1 0 15
      · rw [if_pos c2] at h ⊢; rw [(so_i h).1]
      · rw [if_neg c2] at h ⊢; rw [(so_i h).1]
    · rw [if_neg c1] at h ⊢; rw [(so_i h).1]
theorem m_lkg_L {np : Nat} {U : SS} (hnp : U.1 0 15 = nI np) (h40 : np ≤ 40) (a : Int32) : ∀ (N p : Nat) (x r : Int32) (V : SS), p ≤ np → f_M_isLocking_L4 N a x (nI p) U = some (r, V) → V = U ∧ (r = 0 ↔ (x = 0 ∧ cnF (U.1 11) a (np - p) p = 0))
  | 0, p, x, r, V, _, h => by cases h
  | N + 1, p, x, r, V, hp, h => by
    rw [f_M_isLocking_L4.eq_2, hnp] at h
    by_cases c : p = np
    · subst c
      rw [if_pos (nI_le (by omega) (by omega))] at h
      replace h := (grd_i h).2
      obtain ⟨rfl, rfl⟩ := so_i h
      rw [Nat.sub_self]
      exact ⟨rfl, fun e => ⟨e, rfl⟩, fun e => e.1⟩
    · rw [if_neg (nI_ge (by omega) (by omega))] at h
      rw [show np - p = (np - (p + 1)) + 1 by omega]
      show V = U ∧ (r = 0 ↔ (x = 0 ∧ (if U.1 11 p = a then 1 else 0) + cnF (U.1 11) a (np - (p + 1)) (p + 1) = 0))
      by_cases d : x = 0
      · rw [if_pos d, grT (inb_nI (by omega) (by omega)), nI_clamp (by omega)] at h
        by_cases f : U.1 11 p = a
        · rw [if_pos f, f_M_isLocking_j26.eq_1, f_M_isLocking_j31.eq_1, nmR, nI_1] at h
          obtain ⟨g1, g2⟩ := m_lkg_L hnp h40 a N (p + 1) 1 r V (by omega) h
          refine ⟨g1, fun e => absurd (g2.mp e).1 (by decide), fun e => ?_⟩
          rw [if_pos f] at e; omega
        · rw [if_neg f, f_M_isLocking_j31.eq_1, nmR, nI_1] at h
          obtain ⟨g1, g2⟩ := m_lkg_L hnp h40 a N (p + 1) 0 r V (by omega) h
          refine ⟨g1, fun e => ⟨d, by rw [if_neg f, (g2.mp e).2]⟩, fun e => g2.mpr ⟨rfl, ?_⟩⟩
          have := e.2
          rw [if_neg f] at this; omega
      · rw [if_neg d, f_M_isLocking_j26.eq_1, f_M_isLocking_j31.eq_1, nmR, nI_1] at h
        obtain ⟨g1, g2⟩ := m_lkg_L hnp h40 a N (p + 1) 1 r V (by omega) h
        exact ⟨g1, fun e => absurd (g2.mp e).1 (by decide), fun e => absurd e.1 d⟩
theorem n8 (r c : Nat) : (8 : Int32) * nI r + nI c = nI (8 * r + c) := by rw [show (8 : Int32) * nI r = nI (8 * r) from nI_mul 8 r, nI_add]
/-- whether the POINT stands in the ROUTE already: the other side -/
theorem vl_m {S S2 : SS} {r m : Nat} {a2 a3 a4 r2 : Int32} (hr : r < 12) (hm : S.1 12 r = nI m) (h8 : m ≤ 8) : ∀ (N i : Nat) (x : Int32), i ≤ m → f_M_via_L52 N (nI r) a2 a3 a4 0 x (nI i) S = some (r2, S2) → ∃ y, (y = 0 ↔ (x = 0 ∧ ∀ k, i ≤ k → k < m → ¬ S.1 13 (8 * r + k) = a2)) ∧ f_M_via_j102 (nI r) a2 a3 a4 0 y S = some (r2, S2)
  | 0, i, x, _, h => by cases h
  | N + 1, i, x, hi, h => by
    rw [f_M_via_L52.eq_2, if_pos rfl, grT (inb_nI (by omega) (by omega)), nI_clamp (by omega), hm] at h
    by_cases c : i = m
    · subst c
      rw [if_pos (nI_le (by omega) (by omega))] at h
      exact ⟨x, ⟨fun e => ⟨e, fun k a b => by omega⟩, fun e => e.1⟩, h⟩
    · rw [if_neg (nI_ge (by omega) (by omega))] at h
      by_cases d : x = 0
      · rw [if_pos d, n8, grT (inb_nI (by omega) (by omega)), nI_clamp (by omega)] at h
        by_cases f : S.1 13 (8 * r + i) = a2
        · rw [if_pos f, f_M_via_j89.eq_1, f_M_via_j94.eq_1, nmR, nI_1] at h
          obtain ⟨y, g1, g2⟩ := vl_m hr hm h8 N (i + 1) 1 (by omega) h
          exact ⟨y, ⟨fun e => absurd (g1.mp e).1 (by decide), fun e => absurd f (e.2 i (Nat.le_refl _) (by omega))⟩, g2⟩
        · rw [if_neg f, f_M_via_j94.eq_1, nmR, nI_1] at h
          obtain ⟨y, g1, g2⟩ := vl_m hr hm h8 N (i + 1) 0 (by omega) h
          refine ⟨y, ⟨fun e => ⟨d, fun k a b => ?_⟩, fun e => g1.mpr ⟨rfl, fun k a b => e.2 k (by omega) b⟩⟩, g2⟩
          by_cases e' : k = i
          · rw [e']; exact f
          · exact (g1.mp e).2 k (by omega) b
      · rw [if_neg d, f_M_via_j89.eq_1, f_M_via_j94.eq_1, nmR, nI_1] at h
        obtain ⟨y, g1, g2⟩ := vl_m hr hm h8 N (i + 1) 1 (by omega) h
        exact ⟨y, ⟨fun e => absurd (g1.mp e).1 (by decide), fun e => absurd e.1 d⟩, g2⟩
theorem ve_c {T V : SS} {r m : Nat} {a2 q : Int32} (hr : r < 12) (h8 : m ≤ 8) : ∀ (N i : Nat), i ≤ m → f_Routes_entryFinding_L15 N (nI r) a2 (nI (8 * r)) (nI m) (nI (8 * r + i)) T = some (q, V) → (¬ q = 0 ∧ V = T ∧ ∃ k, i ≤ k ∧ k < m ∧ T.1 100 (8 * r + k) = a2) ∨ ((∀ k, i ≤ k → k < m → ¬ T.1 100 (8 * r + k) = a2) ∧ (if nI m < (8 : Int32) then bnd (f_Routes_lockedBy (nI r) T) (fun r5 S4 => if r5 = 0 then some ((0 : Int32), S4) else bnd (f_Routes_lockedFinding (nI r) S4) (fun r7 S6 => some (r7, S6))) else some ((9 : Int32), T)) = some (q, V))
  | 0, i, _, h => by cases h
  | N + 1, i, hi, h => by
    rw [f_Routes_entryFinding_L15.eq_2, nI_add] at h
    by_cases c : i = m
    · subst c
      rw [if_pos (nI_le (by omega) (by omega))] at h
      exact Or.inr ⟨fun k a b => by omega, h⟩
    · rw [if_neg (nI_ge (by omega) (by omega)), grT (inb_nI (by omega) (by omega)), nI_clamp (by omega)] at h
      by_cases f : T.1 100 (8 * r + i) = a2
      · rw [if_pos f] at h
        obtain ⟨rfl, rfl⟩ := so_i h
        exact Or.inl ⟨by decide, rfl, i, Nat.le_refl _, by omega, f⟩
      · rw [if_neg f, nmR, nI_1] at h
        rcases ve_c hr h8 N (i + 1) (by omega) h with ⟨g1, g2, k, g3, g4⟩ | ⟨g1, g2⟩
        · exact Or.inl ⟨g1, g2, k, by omega, g4⟩
        · refine Or.inr ⟨fun k a b => ?_, g2⟩
          by_cases e' : k = i
          · rw [e']; exact f
          · exact g1 k (by omega) b
/-- while an ENTRY is put -/
def Ve (np r m c : Nat) (T0 U0 T U : SS) : Prop := (∀ k, ¬ (100 ≤ k ∧ k ≤ 102) → T.1 k = T0.1 k) ∧ (∀ k, ¬ (13 ≤ k ∧ k ≤ 15) → U.1 k = U0.1 k) ∧ (∀ i, T.1 100 i = U.1 13 i) ∧ (∀ i, T.1 101 i = U.1 14 i) ∧ (∀ i, T.1 102 i = U.1 15 i) ∧ (∀ i, i < 8 * r ∨ 8 * r + 8 ≤ i → U.1 13 i = U0.1 13 i) ∧ (∀ i, i < 8 * r ∨ 8 * r + 8 ≤ i → U.1 14 i = U0.1 14 i) ∧ (∀ k, k ≤ m → k ≠ c → (∃ p, p < np ∧ U.1 13 (8 * r + k) = nI p) ∧ ∃ l, l ≤ 2 ∧ U.1 14 (8 * r + k) = nI l)
theorem Ve.cc {np r m c : Nat} {T0 U0 T U : SS} (h_ : Ve np r m c T0 U0 T U) : ∀ k, ¬ (100 ≤ k ∧ k ≤ 102) → T.1 k = T0.1 k := h_.1
theorem Ve.mm {np r m c : Nat} {T0 U0 T U : SS} (h_ : Ve np r m c T0 U0 T U) : ∀ k, ¬ (13 ≤ k ∧ k ≤ 15) → U.1 k = U0.1 k := h_.2.1
theorem Ve.e13 {np r m c : Nat} {T0 U0 T U : SS} (h_ : Ve np r m c T0 U0 T U) : ∀ i, T.1 100 i = U.1 13 i := h_.2.2.1
theorem Ve.e14 {np r m c : Nat} {T0 U0 T U : SS} (h_ : Ve np r m c T0 U0 T U) : ∀ i, T.1 101 i = U.1 14 i := h_.2.2.2.1
theorem Ve.e15 {np r m c : Nat} {T0 U0 T U : SS} (h_ : Ve np r m c T0 U0 T U) : ∀ i, T.1 102 i = U.1 15 i := h_.2.2.2.2.1
theorem Ve.o13 {np r m c : Nat} {T0 U0 T U : SS} (h_ : Ve np r m c T0 U0 T U) : ∀ i, i < 8 * r ∨ 8 * r + 8 ≤ i → U.1 13 i = U0.1 13 i := h_.2.2.2.2.2.1
theorem Ve.o14 {np r m c : Nat} {T0 U0 T U : SS} (h_ : Ve np r m c T0 U0 T U) : ∀ i, i < 8 * r ∨ 8 * r + 8 ≤ i → U.1 14 i = U0.1 14 i := h_.2.2.2.2.2.2.1
theorem Ve.v {np r m c : Nat} {T0 U0 T U : SS} (h_ : Ve np r m c T0 U0 T U) : ∀ k, k ≤ m → k ≠ c → (∃ p, p < np ∧ U.1 13 (8 * r + k) = nI p) ∧ ∃ l, l ≤ 2 ∧ U.1 14 (8 * r + k) = nI l := h_.2.2.2.2.2.2.2
theorem Ve.mk_ {np r m c : Nat} {T0 U0 T U : SS} (cc_ : ∀ k, ¬ (100 ≤ k ∧ k ≤ 102) → T.1 k = T0.1 k) (mm_ : ∀ k, ¬ (13 ≤ k ∧ k ≤ 15) → U.1 k = U0.1 k) (e13_ : ∀ i, T.1 100 i = U.1 13 i) (e14_ : ∀ i, T.1 101 i = U.1 14 i) (e15_ : ∀ i, T.1 102 i = U.1 15 i) (o13_ : ∀ i, i < 8 * r ∨ 8 * r + 8 ≤ i → U.1 13 i = U0.1 13 i) (o14_ : ∀ i, i < 8 * r ∨ 8 * r + 8 ≤ i → U.1 14 i = U0.1 14 i) (v_ : ∀ k, k ≤ m → k ≠ c → (∃ p, p < np ∧ U.1 13 (8 * r + k) = nI p) ∧ ∃ l, l ≤ 2 ∧ U.1 14 (8 * r + k) = nI l) : Ve np r m c T0 U0 T U := ⟨cc_, mm_, e13_, e14_, e15_, o13_, o14_, v_⟩
theorem Ve.put {np r m c p l : Nat} {a4 : Int32} {T0 U0 T U : SS} (h : Ve np r m c T0 U0 T U) (hc : c ≤ m) (hm : m < 8) (hp : p < np) (hl : l ≤ 2) : Ve np r m 9 T0 U0 (st (st (st T 100 (8 * r + c) (nI p)) 101 (8 * r + c) (nI l)) 102 (8 * r + c) a4) (st (st (st U 13 (8 * r + c) (nI p)) 14 (8 * r + c) (nI l)) 15 (8 * r + c) a4) := by
  have U13 : ∀ i, (st (st (st U 13 (8 * r + c) (nI p)) 14 (8 * r + c) (nI l)) 15 (8 * r + c) a4).1 13 i = if i = 8 * r + c then nI p else U.1 13 i := fun i => by rw [st_row _ _ _ _ (by decide), st_row _ _ _ _ (by decide), st_at, if_pos rfl]
  have U14 : ∀ i, (st (st (st U 13 (8 * r + c) (nI p)) 14 (8 * r + c) (nI l)) 15 (8 * r + c) a4).1 14 i = if i = 8 * r + c then nI l else U.1 14 i := fun i => by rw [st_row _ _ _ _ (by decide), st_at, if_pos rfl, st_row _ _ _ _ (by decide)]
  refine ⟨fun k hk => ?_, fun k hk => ?_, fun i => ?_, fun i => ?_, fun i => ?_, fun i hi => ?_, fun i hi => ?_, fun k hk _ => ?_⟩
  · rw [st_row _ _ _ _ (by omega), st_row _ _ _ _ (by omega), st_row _ _ _ _ (by omega)]; exact h.cc k hk
  · rw [st_row _ _ _ _ (by omega), st_row _ _ _ _ (by omega), st_row _ _ _ _ (by omega)]; exact h.mm k hk
  · rw [U13, st_row _ _ _ _ (by decide), st_row _ _ _ _ (by decide), st_at, if_pos rfl, h.e13]
  · rw [U14, st_row _ _ _ _ (by decide), st_at, if_pos rfl, st_row _ _ _ _ (by decide), h.e14]
  · rw [st_at, if_pos rfl, st_row _ _ _ _ (by decide), st_row _ _ _ _ (by decide), st_at, if_pos rfl, st_row _ _ _ _ (by decide), st_row _ _ _ _ (by decide), h.e15]
  · rw [U13, if_neg (by omega)]; exact h.o13 i hi
  · rw [U14, if_neg (by omega)]; exact h.o14 i hi
  · rw [U13, U14]
    by_cases e : k = c
    · subst e
      rw [if_pos rfl, if_pos rfl]; exact ⟨⟨p, hp, rfl⟩, l, hl, rfl⟩
    · rw [if_neg (by omega), if_neg (by omega)]; exact h.v k hk e
theorem Ve.mov {np r m c : Nat} {T0 U0 T U : SS} (h : Ve np r m (c + 1) T0 U0 T U) (hc : c < m) (hm : m < 8) : Ve np r m c T0 U0 (st (st (st T 100 (8 * r + (c + 1)) (U.1 13 (8 * r + c))) 101 (8 * r + (c + 1)) (U.1 14 (8 * r + c))) 102 (8 * r + (c + 1)) (U.1 15 (8 * r + c))) (st (st (st U 13 (8 * r + (c + 1)) (U.1 13 (8 * r + c))) 14 (8 * r + (c + 1)) (U.1 14 (8 * r + c))) 15 (8 * r + (c + 1)) (U.1 15 (8 * r + c))) := by
  obtain ⟨⟨p, hp, ep⟩, l, hl, el⟩ := h.v c (by omega) (by omega)
  rw [ep, el]
  obtain ⟨g1, g2, g3, g4, g5, g6, g7, g8⟩ := h.put (a4 := U.1 15 (8 * r + c)) (by omega) hm hp hl
  exact ⟨g1, g2, g3, g4, g5, g6, g7, fun k hk _ => g8 k hk (by omega)⟩
theorem c_pe {T : SS} {j : Nat} {a b c : Int32} (hj : j < 96) : f_Routes_putEntry (nI j) a b c T = some (st (st (st T 100 j a) 101 j b) 102 j c) := by
  rw [f_Routes_putEntry.eq_1, grT (inb_nI (by omega) (by omega)), wr_r, grT (inb_nI (by omega) (by omega)), wr_r, grT (inb_nI (by omega) (by omega)), wr_r, nI_clamp (by omega)]
/-- the end of both loops -/
theorem va_end {np r m c p l : Nat} {a4 r1 r2 : Int32} {T0 U0 T U S1 S2 : SS} (h : Ve np r m c T0 U0 T U) (hr : r < 12) (hc : c ≤ m) (hm : m < 8) (hp : p < np) (hl : l ≤ 2) (e12 : U0.1 12 r = nI m) (e99 : T0.1 99 r = nI m) (h1 : f_Routes_addEntry_j102 (nI r) (nI p) (nI l) a4 (nI (8 * r + c)) T = some (r1, S1)) (h2 : f_M_via_j278 (nI r) (nI p) (nI l) a4 (nI (8 * r + c)) U = some (r2, S2)) : r1 = nI (m + 1) ∧ r2 = nI (m + 1) ∧ ∃ V W, Ve np r m 9 T0 U0 V W ∧ S1 = st V 99 r (nI (m + 1)) ∧ S2 = st (st (st W 12 r (nI (m + 1))) 0 60 0) 0 61 0 := by
  have g := h.put (a4 := a4) hc hm hp hl
  rw [f_Routes_addEntry_j102.eq_1, c_pe (by omega), bndv_r, grT (inb_nI (by omega) (by omega)), grT (inb_nI (by omega) (by omega)), wr_r, grT (inb_nI (by omega) (by omega)), nI_clamp (by omega), g.cc 99 (by omega), e99, nI_1, st_here] at h1
  rw [f_M_via_j278.eq_1, grT (inb_nI (by omega) (by omega)), wr_r, grT (inb_nI (by omega) (by omega)), wr_r, grT (inb_nI (by omega) (by omega)), wr_r, grT (inb_nI (by omega) (by omega)), grT (inb_nI (by omega) (by omega)), wr_r, nI_clamp (n := 8 * r + c) (by omega), nI_clamp (n := r) (by omega), g.mm 12 (by omega), e12, nI_1, fgM, bndv_r, grT (inb_nI (by omega) (by omega)), st_row _ 0 _ _ (by decide), st_row _ 0 _ _ (by decide), st_here] at h2
  obtain ⟨rfl, x1⟩ := so_i h1
  obtain ⟨rfl, x2⟩ := so_i h2
  exact ⟨rfl, rfl, _, _, g, x1, x2⟩
theorem va_al {np r m p l : Nat} {a4 r1 r2 : Int32} {T0 U0 S1 S2 : SS} (hr : r < 12) (hm : m < 8) (hp : p < np) (hl : l ≤ 2) (e12 : U0.1 12 r = nI m) (e99 : T0.1 99 r = nI m) : ∀ (N M c : Nat) (T U : SS), Ve np r m c T0 U0 T U → c ≤ m → f_Routes_addEntry_L42 N (nI r) (nI p) (nI l) a4 (nI (8 * r)) (nI (8 * r + c)) T = some (r1, S1) → f_M_via_L174 M (nI r) (nI p) (nI l) a4 (nI (8 * r + c)) U = some (r2, S2) → r1 = nI (m + 1) ∧ r2 = nI (m + 1) ∧ ∃ V W, Ve np r m 9 T0 U0 V W ∧ S1 = st V 99 r (nI (m + 1)) ∧ S2 = st (st (st W 12 r (nI (m + 1))) 0 60 0) 0 61 0
  | 0, M, c, T, U, _, _, h1, h2 => by cases h1
  | N + 1, 0, c, T, U, _, _, h1, h2 => by cases h2
  | N + 1, M + 1, c, T, U, v, hc, h1, h2 => by
    rw [f_Routes_addEntry_L42.eq_2] at h1
    rw [f_M_via_L174.eq_2, show (8 : Int32) * nI r = nI (8 * r) from nI_mul 8 r] at h2
    rcases Nat.eq_zero_or_pos c with rfl | c0
    · rw [if_pos (nI_le (by omega) (by omega))] at h1 h2
      exact va_end v hr hc hm hp hl e12 e99 h1 h2
    · obtain ⟨d, rfl⟩ : ∃ d, c = d + 1 := ⟨c - 1, by omega⟩
      rw [if_neg (nI_ge (by omega) (by omega)), n_m1 (by omega) (by omega), show 8 * r + (d + 1) - 1 = 8 * r + d by omega, f_Routes_isBehind.eq_1, grT (inb_nI (by omega) (by omega)), nI_clamp (by omega), v.e15, v.e13] at h1
      rw [if_neg (nI_ge (by omega) (by omega)), n_m1 (by omega) (by omega), show 8 * r + (d + 1) - 1 = 8 * r + d by omega, grT (inb_nI (by omega) (by omega)), nI_clamp (by omega)] at h2
      have go : ∀ (T' : SS), T' = T → grd (inb (nI (8 * r + d)) 96) (grd (inb (nI (8 * r + d)) 96) (grd (inb (nI (8 * r + d)) 96) (bndv (f_Routes_putEntry (nI (8 * r + (d + 1))) (T'.1 100 (8 * r + d)) (T'.1 101 (8 * r + d)) (T'.1 102 (8 * r + d)) T') (fun S9 => nm (nI (8 * r + (d + 1)) + (-1 : Int32)) (fun z10 => f_Routes_addEntry_L42 N (nI r) (nI p) (nI l) a4 (nI (8 * r)) z10 S9))))) = some (r1, S1) → f_M_via_j224 (fun v0 v1 v2 v3 v4 S => f_M_via_L174 M v0 v1 v2 v3 v4 S) (nI r) (nI p) (nI l) a4 (nI (8 * r + (d + 1))) U = some (r2, S2) → r1 = nI (m + 1) ∧ r2 = nI (m + 1) ∧ ∃ V W, Ve np r m 9 T0 U0 V W ∧ S1 = st V 99 r (nI (m + 1)) ∧ S2 = st (st (st W 12 r (nI (m + 1))) 0 60 0) 0 61 0 := fun T' eT k1 k2 => by
        subst eT
        have dn : nI (8 * r + (d + 1)) + (-1 : Int32) = nI (8 * r + d) := by
          have := n_m1 (a := 8 * r + (d + 1)) (by omega) (by omega)
          rw [show 8 * r + (d + 1) - 1 = 8 * r + d by omega] at this
          rw [← this, Int32.sub_eq_add_neg]
        rw [grT (inb_nI (by omega) (by omega)), grT (inb_nI (by omega) (by omega)), grT (inb_nI (by omega) (by omega)), c_pe (by omega), bndv_r, nmR, dn, v.e13, v.e14, v.e15] at k1
        rw [f_M_via_j224.eq_1, n_m1 (by omega) (by omega), show 8 * r + (d + 1) - 1 = 8 * r + d by omega, grT (inb_nI (by omega) (by omega)), grT (inb_nI (by omega) (by omega)), wr_r, grT (inb_nI (by omega) (by omega)), grT (inb_nI (by omega) (by omega)), wr_r, grT (inb_nI (by omega) (by omega)), grT (inb_nI (by omega) (by omega)), wr_r, nmR, dn, nI_clamp (n := 8 * r + (d + 1)) (by omega), nI_clamp (n := 8 * r + d) (by omega), st_row (a := 14) _ _ _ _ (by decide), st_row (a := 15) _ _ _ _ (by decide), st_row (a := 15) _ _ _ _ (by decide)] at k2
        exact va_al hr hm hp hl e12 e99 N M d _ _ (v.mov (by omega) hm) (by omega) k1 k2
      by_cases f1 : a4 < U.1 15 (8 * r + d)
      · rw [if_pos f1, bnd_r, if_neg (by decide)] at h1
        rw [if_pos f1] at h2
        exact go T rfl h1 h2
      · rw [if_neg f1, grT (inb_nI (by omega) (by omega))] at h1
        rw [if_neg f1, grT (inb_nI (by omega) (by omega))] at h2
        by_cases f2 : U.1 15 (8 * r + d) = a4
        · rw [if_pos f2, grT (inb_nI (by omega) (by omega))] at h1
          rw [if_pos f2, grT (inb_nI (by omega) (by omega))] at h2
          by_cases f3 : U.1 13 (8 * r + d) ≤ nI p
          · rw [if_pos f3, bnd_r, if_pos rfl] at h1
            rw [if_pos f3] at h2
            exact va_end v hr hc hm hp hl e12 e99 h1 h2
          · rw [if_neg f3, bnd_r, if_neg (by decide)] at h1
            rw [if_neg f3] at h2
            exact go T rfl h1 h2
        · rw [if_neg f2, bnd_r, if_pos rfl] at h1
          rw [if_neg f2] at h2
          exact va_end v hr hc hm hp hl e12 e99 h1 h2
theorem via_st {n np nt L : Nat} {S S1 S2 : SS} {a1 a2 a3 a4 r1 r2 : Int32} (h : Dz n np nt L S) (hW1 : WR S1) (z : Fg S S1 S2) (e1 : f_Yard_via a1 a2 a3 a4 S = some (r1, S1)) (e2 : f_M_via a1 a2 a3 a4 S1 = some (r2, S2)) : Ay L r1 r2 S2 := by
  rw [f_Yard_via.eq_1, in_v, bnd_r] at e1
  rw [f_M_via.eq_1] at e2
  by_cases q3 : inV a3 0 2 = 0
  · rw [if_pos q3, in_v, bnd_r] at e1
    rw [good2 q3] at e2
    obtain ⟨l, -, hl, rfl⟩ := in_n (l := 0) (h := 2) rfl rfl (by omega) (by omega) q3
    by_cases q4 : inV a4 0 99 = 0
    · rw [if_pos q4] at e1
      rw [if_neg (in_lo q4).1, if_pos (in_lo q4).2] at e2
      obtain ⟨T, U, eT, eU, d, -, u1, u2⟩ := (h.dw1 z).begin
      rw [eT, bndv_r] at e1
      obtain ⟨U', eU', wU, -⟩ := t_M_begin hW1
      rw [eU] at eU'
      injection eU' with eU'
      subst eU'
      have b := d.bo wU
      have hnp := b.s.np40
      suffices g : r1 = r2 ∧ ∃ n' np' nt', Dw n' np' nt' L S1 S2 by
        obtain ⟨y1, n', np', nt', y2⟩ := g
        exact ⟨y1, n', np', nt', L, by omega, y2.dz2 z⟩
      have fin : r1 = r2 ∧ Qz T U S1 S2 → r1 = r2 ∧ ∃ n' np' nt', Dw n' np' nt' L S1 S2 := fun q => ⟨q.1, n, np, nt, d.qz q.2⟩
      have f19 : S1.1 0 19 = U.1 0 19 := (u2 19 (by omega)).symm
      have f15 : S1.1 0 15 = U.1 0 15 := (u2 15 (by omega)).symm
      have bad : ∀ q x : Int32, ¬ q = 0 → f_Yard_via_j54 a1 a2 (nI l) a4 q T = some (r1, S1) → f_M_via_j44 a1 a2 (nI l) a4 q S1 = some (r2, S2) → r1 = r2 ∧ Qz T U S1 S2 := fun q x hq k1 k2 => by
        rw [f_Yard_via_j54.eq_1, if_neg hq, f_Yard_via_j70.eq_1, if_neg hq] at k1
        rw [f_M_via_j44.eq_1, show NF = (NF - 1) + 1 from rfl, f_M_via_L52.eq_2, if_neg hq, f_M_via_j102.eq_1, eU, bndv_r] at k2
        exact nf_al' b hq k1 k2
      rcases rt_al b a1 with ⟨r, m, hr, rfl, hm, em, n1, n2', n3⟩ | ⟨q, hq, n2', n3⟩
      · rw [n2', bnd_r, if_pos rfl] at e1
        rw [mr_tr f19 n3, bnd_r, if_pos rfl] at e2
        rcases pt_al b a2 with ⟨p, hp, rfl, m1, m2⟩ | ⟨q, hq, m1, m2⟩
        · rw [m1, bnd_r, f_Yard_via_j54.eq_1, if_pos rfl, f_Routes_entryFinding.eq_1, nmR, n1, bnd_r, show (8 : Int32) * nI r = nI (8 * r) from nI_mul 8 r] at e1
          rw [mp_tr f15 m2, bnd_r, f_M_via_j44.eq_1] at e2
          have s12 : S1.1 12 r = nI m := by rw [← u1 12 (by decide)]; exact em
          obtain ⟨y, y1, y2⟩ := vl_m hr s12 hm NF 0 0 (by omega) e2
          rw [← u1 13 (by decide)] at y1
          rw [f_M_via_j102.eq_1, eU, bndv_r, ends_0, bnd_r, if_pos rfl] at y2
          replace e1 := bnd_i e1
          obtain ⟨q, V, l1, e1⟩ := e1
          rcases ve_c (i := 0) hr hm NF (by omega) l1 with ⟨c1, rfl, k, -, hk, ek⟩ | ⟨c1, c2⟩
          · rw [f_Yard_via_j70.eq_1, if_neg c1] at e1
            have hy : ¬ y = 0 := fun e => (y1.mp e).2 k (by omega) hk (by rw [← b.s.e13]; exact ek)
            rw [if_neg hy, f_M_via_j134.eq_1] at y2
            exact fin (fnd2_al b e1 y2)
          · have hy : y = 0 := y1.mpr ⟨rfl, fun k a c => by rw [← b.s.e13]; exact c1 k a c⟩
            rw [if_pos hy, grT (inb_nI (by omega) (by omega)), nI_clamp (by omega), em] at y2
            by_cases m8 : m < 8
            · rw [if_pos (show nI m < (8 : Int32) from (nI_ltJ (b := 8) (by omega) (by omega)).mpr m8)] at c2
              rw [if_neg (show ¬ nI m = (8 : Int32) from fun e => by have := nI_inj (b := 8) (by omega) (by omega) e; omega)] at y2
              replace c2 := bnd_i c2
              obtain ⟨w5, V5, l5, c2⟩ := c2
              rw [f_Routes_lockedBy.eq_1] at l5
              obtain ⟨eV, ew⟩ := c_lockedBy_L b (nI r) NF 0 0 w5 V5 (by omega) l5
              rw [eV, ew, Nat.zero_add, Nat.sub_zero] at c2
              have cle := cnF_le (U.1 11) (nI r) np 0
              replace y2 := bnd_i y2
              obtain ⟨w6, V6, l6, y2⟩ := y2
              rw [f_M_isLocking.eq_1] at l6
              obtain ⟨eV6, kk⟩ := m_lkg_L b.s.mp hnp (nI r) NF 0 0 w6 V6 (by omega) l6
              rw [Nat.sub_zero] at kk
              rw [eV6] at y2
              by_cases cz : cnF (U.1 11) (nI r) np 0 = 0
              · rw [cz, if_pos (by decide)] at c2
                rw [(so_i c2).1, (so_i c2).2] at e1
                rw [if_pos (kk.mpr ⟨rfl, cz⟩), grT (inb_nI (by omega) (by omega)), nmR, em, n8] at y2
                obtain ⟨R, hR, eR, r0⟩ := b.s.r19
                have hrR : r < R := by
                  by_cases c : r < R
                  · exact c
                  · exfalso
                    rw [f_Routes_routeFinding.eq_1, if_neg (nI_nn (by omega)), if_pos (show nI r < (12 : Int32) from (nI_ltJ (b := 12) (by omega) (by omega)).mpr hr), b.s.er, eR, if_pos (nI_le (by omega) (by omega))] at n2'
                    exact absurd (so_i n2').1 (by decide)
                rw [f_Yard_via_j70.eq_1, if_pos rfl, fgC, bndv_r, bnd_id] at e1
                generalize hT0 : st (st T 64 6 0) 64 7 0 = T0 at e1
                have t0 : ∀ a, a ≠ 64 → T0.1 a = T.1 a := fun a p => by rw [← hT0, st_row _ _ _ _ p, st_row _ _ _ _ p]
                have cR : T0.1 67 8 = nI R := by rw [t0 67 (by decide), b.s.er, eR]
                have e99 : T0.1 99 r = nI m := by rw [t0 99 (by decide), b.s.e12, em]
                rw [f_Routes_addEntry.eq_1, f_Routes_entriesOf.eq_1, if_neg (nI_nn (by omega)), cR, if_neg (nI_ge hrR (by omega)), grT (inb_nI (by omega) (by omega)), bnd_r, if_neg (nI_nn (by omega)), cR, if_neg (nI_ge hrR (by omega)), nI_clamp (n := r) (by omega), e99, if_pos (show nI m < (8 : Int32) from (nI_ltJ (b := 8) (by omega) (by omega)).mpr m8), nmR, nmR, show (8 : Int32) * nI r = nI (8 * r) from nI_mul 8 r, nI_add] at e1
                obtain ⟨rfl, rfl, V', W, v, x1, x2⟩ := va_al hr m8 hp hl em e99 NF NF m T0 U ⟨fun _ _ => rfl, fun _ _ => rfl, fun i => by rw [t0 100 (by decide)]; exact b.s.e13 i, fun i => by rw [t0 101 (by decide)]; exact b.s.e14 i, fun i => by rw [t0 102 (by decide)]; exact b.s.e15 i, fun _ _ => rfl, fun _ _ => rfl, fun k hk ne => b.s.ep r k m hr em hm (by omega)⟩ (Nat.le_refl _) e1 y2
                have C : ∀ a, a ≠ 64 → ¬ (99 ≤ a ∧ a ≤ 102) → S1.1 a = T.1 a := fun a p q => by rw [x1, st_row _ _ _ _ (by omega), v.cc a (by omega), t0 a p]
                have M : ∀ a, a ≠ 0 → ¬ (12 ≤ a ∧ a ≤ 15) → S2.1 a = U.1 a := fun a p q => by rw [x2, st_row _ _ _ _ p, st_row _ _ _ _ p, st_row _ _ _ _ (by omega), v.mm a (by omega)]
                have F : ∀ i, i ≠ 60 → i ≠ 61 → S2.1 0 i = U.1 0 i := fun i p q => by rw [x2, st_no (by omega), st_no (by omega), st_row _ _ _ _ (by decide), v.mm 0 (by omega)]
                have C64 : S1.1 64 = T0.1 64 := by rw [x1, st_row _ _ _ _ (by decide), v.cc 64 (by omega)]
                have M1 : ∀ a, 13 ≤ a → S2.1 a = W.1 a := fun a p => by rw [x2, st_row _ _ _ _ (by omega), st_row _ _ _ _ (by omega), st_row _ _ _ _ (by omega)]
                have M12 : ∀ i, S2.1 12 i = if i = r then nI (m + 1) else U.1 12 i := fun i => by rw [x2, st_row _ 0 _ _ (by decide), st_row _ 0 _ _ (by decide), st_at, if_pos rfl, v.mm 12 (by omega)]
                have C99 : ∀ i, S1.1 99 i = if i = r then nI (m + 1) else T.1 99 i := fun i => by rw [x1, st_at, if_pos rfl, v.cc 99 (by omega), t0 99 (by decide)]
                have C1 : ∀ a, 100 ≤ a → S1.1 a = V'.1 a := fun a p => by rw [x1, st_row _ _ _ _ (by omega)]
                have h0 : Sta n np nt (repB S1 T (fun a => Nat.beq a 99 || Nat.beq a 100 || Nat.beq a 101 || Nat.beq a 102)) (repB S2 U (fun a => Nat.beq a 12 || Nat.beq a 13 || Nat.beq a 14 || Nat.beq a 15)) := d.s.fr (repB_eq (P := sC) (fun a p q => by
                    simp only [Bool.or_eq_false_iff, nbf] at p
                    unfold sC at q
                    exact C a (by omega) (by omega))) (repB_eq (P := sM) (fun a p q => by
                    simp only [Bool.or_eq_false_iff, nbf] at p
                    unfold sM at q
                    exact M a (by omega) (by omega))) (fun i hi => F i (by omega) (by omega))
                have s' : Sta n np nt S1 S2 := (Sta.mk_ (n72_ := h0.n72)
                  (np40_ := h0.np40)
                  (nt24_ := h0.nt24)
                  (cn_ := h0.cn)
                  (mn_ := h0.mn)
                  (cp_ := h0.cp)
                  (mp_ := h0.mp)
                  (ct_ := h0.ct)
                  (mt_ := h0.mt)
                  (pl_ := h0.pl)
                  (e3_ := h0.e3)
                  (e5_ := h0.e5)
                  (e9_ := h0.e9)
                  (e6_ := h0.e6)
                  (e7_ := h0.e7)
                  (e4_ := h0.e4)
                  (pa_ := h0.pa)
                  (pe_ := h0.pe)
                  (lm_ := h0.lm)
                  (lt_ := h0.lt)
                  (li_ := h0.li)
                  (ls_ := h0.ls)
                  (ld_ := h0.ld)
                  (er_ := h0.er)
                  (r19_ := ⟨R, hR, by rw [F 19 (by decide) (by decide)]; exact eR, fun i p q => by rw [M12, if_neg (by omega)]; exact r0 i p q⟩)
                  (e12_ := fun i => by rw [M12, C99, b.s.e12])
                  (e13_ := fun i => by rw [C1 100 (by decide), M1 13 (by decide)]; exact v.e13 i)
                  (e14_ := fun i => by rw [C1 101 (by decide), M1 14 (by decide)]; exact v.e14 i)
                  (e15_ := fun i => by rw [C1 102 (by decide), M1 15 (by decide)]; exact v.e15 i)
                  (en_ := fun i hi => by
                    rw [M12]
                    by_cases e : i = r
                    · rw [if_pos e]; exact ⟨m + 1, by omega, rfl⟩
                    · rw [if_neg e]; exact b.s.en i hi)
                  (ep_ := fun i k j hi hj j8 hk => by
                    rw [M12] at hj
                    rw [M1 13 (by decide), M1 14 (by decide)]
                    by_cases e : i = r
                    · rw [if_pos e] at hj
                      have := nI_inj (by omega) (by omega) hj
                      rw [e]
                      exact v.v k (by omega) (by omega)
                    · rw [if_neg e] at hj
                      rw [v.o13 _ (by omega), v.o14 _ (by omega)]
                      exact b.s.ep i k j hi hj j8 hk)
                  (e16_ := h0.e16)
                  (e17_ := h0.e17)
                  (sk_ := fun x hx => (d.s.sk x hx).fr (C 91 (by decide) (by decide)) (C 92 (by decide) (by decide)) (fun k hk => M k (by omega) (by omega)))
                  (sz_ := h0.sz))
                refine ⟨rfl, n, np, nt, d.upd1 s' (fun k hk => C k (by omega) (by omega)) (fun i hi => ?_) (fun k hk => M k (by omega) (by omega)) (fun i hi => F i (by omega) (by omega)) ?_ ?_ ?_ ?_⟩
                · rw [C64, ← hT0, st_no (by omega), st_no (by omega)]
                · rw [C64, ← hT0, st_no (by omega), st_here]
                · rw [C64, ← hT0, st_here]
                · rw [x2, st_no (by omega), st_here]
                · rw [x2, st_here]
              · rw [if_neg (fun e => cz (nI_inj (b := 0) (by omega) (by omega) e) : ¬ nI (cnF (U.1 11) (nI r) np 0) = (0 : Int32)), f_Routes_lockedFinding.eq_1, wr_r, bnd_r] at c2
                rw [(so_i c2).1, (so_i c2).2] at e1
                rw [f_Yard_via_j70.eq_1, if_neg (by decide)] at e1
                rw [if_neg (fun e => cz (kk.mp e).2), wr_r] at y2
                replace e1 := bnd_i e1
                obtain ⟨t1, T1, s1, e1⟩ := e1
                obtain ⟨rfl, rfl⟩ := so_i e1
                replace y2 := bnd_i y2
                obtain ⟨t2, U1, s2, y2⟩ := y2
                obtain ⟨rfl, rfl⟩ := so_i y2
                obtain ⟨rfl, f1⟩ := fnd_c s1
                obtain ⟨rfl, f2⟩ := fnd_m s2
                exact fin ⟨rfl, Qz.of b.te ((Qc.rf.w (Or.inl ⟨rfl, by decide⟩)).tr f1) ((Qm.rf.wf (Or.inl (by decide))).tr f2)⟩
            · have : m = 8 := by omega
              subst this
              rw [if_neg (by decide)] at c2
              obtain ⟨rfl, rfl⟩ := so_i c2
              rw [f_Yard_via_j70.eq_1, if_neg (by decide)] at e1
              rw [if_pos (by decide), f_M_via_j134.eq_1] at y2
              exact fin (fnd2_al b e1 y2)
        · rw [m1, bnd_r] at e1
          rw [mp_tr f15 m2, bnd_r] at e2
          exact fin (bad q 0 hq e1 e2)
      · rw [n2', bnd_r, if_neg hq] at e1
        rw [mr_tr f19 n3, bnd_r, if_neg hq, mr_tr f19 n3, bnd_r] at e2
        exact fin (bad q 0 hq e1 e2)
    · rw [if_neg q4] at e1
      rw [in_no q4] at e2
      exact ay_bad h e1 e2
  · rw [if_neg q3] at e1
    rw [bad2 q3] at e2
    exact ay_bad h e1 e2
/-! ===== link ===== -/
def Lk (nt N : Nat) (A B D : Nat → Int32) : Prop := (∀ e, e < 48 → ∃ m, m ≤ 3 ∧ A e = nI m) ∧ (∀ e k m, e < 48 → A e = nI m → m ≤ 3 → k < m → ∃ f, f < 2 * nt ∧ f ≠ e ∧ B (3 * e + k) = nI f) ∧ (∀ e k m f k' m', e < 48 → A e = nI m → m ≤ 3 → k < m → f < 48 → A f = nI m' → m' ≤ 3 → k' < m' → B (3 * e + k) = nI f → (D (3 * f + k') = D (3 * e + k) ↔ B (3 * f + k') = nI e)) ∧ (∀ e k m f, e < 48 → A e = nI m → m ≤ 3 → k < m → f < 48 → B (3 * e + k) = nI f → ∃ k' m', A f = nI m' ∧ m' ≤ 3 ∧ k' < m' ∧ B (3 * f + k') = nI e) ∧ (2 * N = sumL A 48) ∧ (∀ e k m, e < 48 → A e = nI m → m ≤ 3 → k < m → ∃ i, i < N ∧ D (3 * e + k) = nI i)
theorem Lk.lm {nt N : Nat} {A B D : Nat → Int32} (h_ : Lk nt N A B D) : ∀ e, e < 48 → ∃ m, m ≤ 3 ∧ A e = nI m := h_.1
theorem Lk.lt {nt N : Nat} {A B D : Nat → Int32} (h_ : Lk nt N A B D) : ∀ e k m, e < 48 → A e = nI m → m ≤ 3 → k < m → ∃ f, f < 2 * nt ∧ f ≠ e ∧ B (3 * e + k) = nI f := h_.2.1
theorem Lk.li {nt N : Nat} {A B D : Nat → Int32} (h_ : Lk nt N A B D) : ∀ e k m f k' m', e < 48 → A e = nI m → m ≤ 3 → k < m → f < 48 → A f = nI m' → m' ≤ 3 → k' < m' → B (3 * e + k) = nI f → (D (3 * f + k') = D (3 * e + k) ↔ B (3 * f + k') = nI e) := h_.2.2.1
theorem Lk.ls {nt N : Nat} {A B D : Nat → Int32} (h_ : Lk nt N A B D) : ∀ e k m f, e < 48 → A e = nI m → m ≤ 3 → k < m → f < 48 → B (3 * e + k) = nI f → ∃ k' m', A f = nI m' ∧ m' ≤ 3 ∧ k' < m' ∧ B (3 * f + k') = nI e := h_.2.2.2.1
theorem Lk.sm {nt N : Nat} {A B D : Nat → Int32} (h_ : Lk nt N A B D) : 2 * N = sumL A 48 := h_.2.2.2.2.1
theorem Lk.id {nt N : Nat} {A B D : Nat → Int32} (h_ : Lk nt N A B D) : ∀ e k m, e < 48 → A e = nI m → m ≤ 3 → k < m → ∃ i, i < N ∧ D (3 * e + k) = nI i := h_.2.2.2.2.2
theorem Lk.mk_ {nt N : Nat} {A B D : Nat → Int32} (lm_ : ∀ e, e < 48 → ∃ m, m ≤ 3 ∧ A e = nI m) (lt_ : ∀ e k m, e < 48 → A e = nI m → m ≤ 3 → k < m → ∃ f, f < 2 * nt ∧ f ≠ e ∧ B (3 * e + k) = nI f) (li_ : ∀ e k m f k' m', e < 48 → A e = nI m → m ≤ 3 → k < m → f < 48 → A f = nI m' → m' ≤ 3 → k' < m' → B (3 * e + k) = nI f → (D (3 * f + k') = D (3 * e + k) ↔ B (3 * f + k') = nI e)) (ls_ : ∀ e k m f, e < 48 → A e = nI m → m ≤ 3 → k < m → f < 48 → B (3 * e + k) = nI f → ∃ k' m', A f = nI m' ∧ m' ≤ 3 ∧ k' < m' ∧ B (3 * f + k') = nI e) (sm_ : 2 * N = sumL A 48) (id_ : ∀ e k m, e < 48 → A e = nI m → m ≤ 3 → k < m → ∃ i, i < N ∧ D (3 * e + k) = nI i) : Lk nt N A B D := ⟨lm_, lt_, li_, ls_, sm_, id_⟩
theorem sumL_le {r : Nat → Int32} : ∀ K, (∀ e, e < K → ∃ m, m ≤ 3 ∧ r e = nI m) → sumL r K ≤ 3 * K
  | 0, _ => by unfold sumL; omega
  | K + 1, h => by
    have := sumL_le K (fun e he => h e (by omega))
    obtain ⟨m, hm, e⟩ := h K (by omega)
    unfold sumL
    rw [e, nI_clamp (by omega)]
    omega
theorem sumL_w {r r' : Nat → Int32} {e m : Nat} (hm : r e = nI m) (h3 : m < 2 ^ 30) (h : ∀ i, r' i = if i = e then nI (m + 1) else r i) : ∀ K, sumL r' K = sumL r K + (if e < K then 1 else 0)
  | 0 => by unfold sumL; rw [if_neg (by omega)]
  | K + 1 => by
    unfold sumL
    rw [sumL_w hm h3 h K, h K]
    by_cases c : K = e
    · subst c
      rw [if_pos rfl, hm, nI_clamp (by omega), nI_clamp (by omega), if_neg (by omega), if_pos (by omega)]
      omega
    · rw [if_neg c]
      by_cases d : e < K
      · rw [if_pos d, if_pos (by omega)]; omega
      · rw [if_neg d, if_neg (by omega)]; omega
theorem Lk.add {nt N e f m mf : Nat} {A B D A' B' D' : Nat → Int32} (h : Lk nt N A B D) (hnt : nt ≤ 24) (he : e < 2 * nt) (hf : f < 2 * nt) (ne : e ≠ f) (hm : A e = nI m) (hmf : A f = nI mf) (m3 : m < 3) (mf3 : mf < 3) (nj : ∀ k, k < m → ¬ B (3 * e + k) = nI f) (eA : ∀ i, A' i = if i = f then nI (mf + 1) else if i = e then nI (m + 1) else A i) (eB : ∀ i, B' i = if i = 3 * f + mf then nI e else if i = 3 * e + m then nI f else B i) (eD : ∀ i, D' i = if i = 3 * f + mf then nI N else if i = 3 * e + m then nI N else D i) : Lk nt (N + 1) A' B' D' := by
  have nj' : ∀ k, k < mf → ¬ B (3 * f + k) = nI e := fun k hk q => by
    obtain ⟨k', m', g1, g2, g3, g4⟩ := h.ls f k mf e (by omega) hmf (by omega) hk (by omega) q
    have : m = m' := nI_inj (by omega) (by omega) (hm.symm.trans g1)
    exact nj k' (by omega) g4
  have hN : N ≤ 72 := by
    have := sumL_le 48 h.lm
    have := h.sm
    omega
  have cls : ∀ x k q, A' x = nI q → q ≤ 3 → k < q → (x = e ∧ k = m) ∨ (x = f ∧ k = mf) ∨ ∃ q', A x = nI q' ∧ q' ≤ 3 ∧ k < q' := fun x k q hq q3 hk => by
    rw [eA] at hq
    by_cases c : x = f
    · rw [if_pos c] at hq
      have := nI_inj (by omega) (by omega) hq
      by_cases d : k = mf
      · exact Or.inr (Or.inl ⟨c, d⟩)
      · exact Or.inr (Or.inr ⟨mf, by rw [c]; exact hmf, by omega, by omega⟩)
    · rw [if_neg c] at hq
      by_cases c' : x = e
      · rw [if_pos c'] at hq
        have := nI_inj (by omega) (by omega) hq
        by_cases d : k = m
        · exact Or.inl ⟨c', d⟩
        · exact Or.inr (Or.inr ⟨m, by rw [c']; exact hm, by omega, by omega⟩)
      · rw [if_neg c'] at hq
        exact Or.inr (Or.inr ⟨q, hq, q3, hk⟩)
  have old : ∀ x k q, A x = nI q → q ≤ 3 → k < q → B' (3 * x + k) = B (3 * x + k) ∧ D' (3 * x + k) = D (3 * x + k) := fun x k q hq q3 hk => by
    have n1 : ¬ 3 * x + k = 3 * f + mf := fun z => by
      have : x = f := by omega
      rw [this, hmf] at hq
      have := nI_inj (by omega) (by omega) hq
      omega
    have n2 : ¬ 3 * x + k = 3 * e + m := fun z => by
      have : x = e := by omega
      rw [this, hm] at hq
      have := nI_inj (by omega) (by omega) hq
      omega
    rw [eB, eD, if_neg n1, if_neg n2, if_neg n1, if_neg n2]
    exact ⟨rfl, rfl⟩
  have be : B' (3 * e + m) = nI f := by rw [eB, if_neg (by omega), if_pos rfl]
  have bf : B' (3 * f + mf) = nI e := by rw [eB, if_pos rfl]
  have de : D' (3 * e + m) = nI N := by rw [eD, if_neg (by omega), if_pos rfl]
  have df : D' (3 * f + mf) = nI N := by rw [eD, if_pos rfl]
  have ae : A' e = nI (m + 1) := by rw [eA, if_neg ne, if_pos rfl]
  have af : A' f = nI (mf + 1) := by rw [eA, if_pos rfl]
  have up : ∀ x q, A x = nI q → q ≤ 3 → ∃ q', A' x = nI q' ∧ q' ≤ 3 ∧ q ≤ q' := fun x q hq q3 => by
    by_cases c : x = f
    · rw [c, hmf] at hq
      have := nI_inj (by omega) (by omega) hq
      exact ⟨mf + 1, by rw [c]; exact af, by omega, by omega⟩
    · by_cases c' : x = e
      · rw [c', hm] at hq
        have := nI_inj (by omega) (by omega) hq
        exact ⟨m + 1, by rw [c']; exact ae, by omega, by omega⟩
      · exact ⟨q, by rw [eA, if_neg c, if_neg c']; exact hq, q3, Nat.le_refl _⟩
  have oid : ∀ x k q, x < 48 → A x = nI q → q ≤ 3 → k < q → ¬ D (3 * x + k) = nI N := fun x k q hx hq q3 hk z => by
    obtain ⟨i, hi, ei⟩ := h.id x k q hx hq q3 hk
    rw [ei] at z
    have := nI_inj (by omega) (by omega) z
    omega
  refine ⟨fun x hx => ?_, fun x k q hx hq q3 hk => ?_, fun x k q y k' q' hx hq q3 hk hy hq' q3' hk' hb => ?_, fun x k q y hx hq q3 hk hy hb => ?_, ?_, fun x k q hx hq q3 hk => ?_⟩
  · obtain ⟨q, q3, hq⟩ := h.lm x hx
    obtain ⟨q', a1, a2, -⟩ := up x q hq q3
    exact ⟨q', a2, a1⟩
  · rcases cls x k q hq q3 hk with ⟨rfl, rfl⟩ | ⟨rfl, rfl⟩ | ⟨q', a1, a2, a3⟩
    · exact ⟨f, hf, Ne.symm ne, be⟩
    · exact ⟨e, he, ne, bf⟩
    · obtain ⟨g, g1, g2, g3⟩ := h.lt x k q' hx a1 a2 a3
      exact ⟨g, g1, g2, by rw [(old x k q' a1 a2 a3).1]; exact g3⟩
  · rcases cls x k q hq q3 hk with ⟨rfl, rfl⟩ | ⟨rfl, rfl⟩ | ⟨p, a1, a2, a3⟩
    · rw [be] at hb
      have : f = y := nI_inj (by omega) (by omega) hb
      subst this
      rw [de]
      rcases cls f k' q' hq' q3' hk' with ⟨z, -⟩ | ⟨-, rfl⟩ | ⟨p', b1, b2, b3⟩
      · exact absurd z.symm ne
      · exact ⟨fun _ => bf, fun _ => df⟩
      · obtain ⟨o1, o2⟩ := old f k' p' b1 b2 b3
        have : mf = p' := nI_inj (by omega) (by omega) (hmf.symm.trans b1)
        rw [o1, o2]
        exact ⟨fun z => absurd z (oid f k' p' (by omega) b1 b2 b3), fun z => absurd z (nj' k' (by omega))⟩
    · rw [bf] at hb
      have : e = y := nI_inj (by omega) (by omega) hb
      subst this
      rw [df]
      rcases cls e k' q' hq' q3' hk' with ⟨-, rfl⟩ | ⟨z, -⟩ | ⟨p', b1, b2, b3⟩
      · exact ⟨fun _ => be, fun _ => de⟩
      · exact absurd z ne
      · obtain ⟨o1, o2⟩ := old e k' p' b1 b2 b3
        have : m = p' := nI_inj (by omega) (by omega) (hm.symm.trans b1)
        rw [o1, o2]
        exact ⟨fun z => absurd z (oid e k' p' (by omega) b1 b2 b3), fun z => absurd z (nj k' (by omega))⟩
    · obtain ⟨o1, o2⟩ := old x k p a1 a2 a3
      rw [o1] at hb
      rw [o2]
      rcases cls y k' q' hq' q3' hk' with ⟨rfl, rfl⟩ | ⟨rfl, rfl⟩ | ⟨p', b1, b2, b3⟩
      · rw [be, de]
        refine ⟨fun z => absurd z.symm (oid x k p hx a1 a2 a3), fun z => ?_⟩
        have : f = x := nI_inj (by omega) (by omega) z
        subst this
        have : mf = p := nI_inj (by omega) (by omega) (hmf.symm.trans a1)
        exact absurd hb (nj' k (by omega))
      · rw [bf, df]
        refine ⟨fun z => absurd z.symm (oid x k p hx a1 a2 a3), fun z => ?_⟩
        have : e = x := nI_inj (by omega) (by omega) z
        subst this
        have : m = p := nI_inj (by omega) (by omega) (hm.symm.trans a1)
        exact absurd hb (nj k (by omega))
      · obtain ⟨o3, o4⟩ := old y k' p' b1 b2 b3
        rw [o3, o4]
        exact h.li x k p y k' p' hx a1 a2 a3 hy b1 b2 b3 hb
  · rcases cls x k q hq q3 hk with ⟨rfl, rfl⟩ | ⟨rfl, rfl⟩ | ⟨p, a1, a2, a3⟩
    · rw [be] at hb
      have : f = y := nI_inj (by omega) (by omega) hb
      subst this
      exact ⟨mf, mf + 1, af, by omega, by omega, bf⟩
    · rw [bf] at hb
      have : e = y := nI_inj (by omega) (by omega) hb
      subst this
      exact ⟨m, m + 1, ae, by omega, by omega, be⟩
    · rw [(old x k p a1 a2 a3).1] at hb
      obtain ⟨k', p', b1, b2, b3, b4⟩ := h.ls x k p y hx a1 a2 a3 hy hb
      obtain ⟨p2, c1, c2, c3⟩ := up y p' b1 b2
      exact ⟨k', p2, c1, c2, by omega, by rw [(old y k' p' b1 b2 b3).1]; exact b4⟩
  · have s1 := sumL_w (r := A) (r' := fun i => if i = e then nI (m + 1) else A i) hm (by omega) (fun i => rfl) 48
    have s2 := sumL_w (r := fun i => if i = e then nI (m + 1) else A i) (r' := A') (e := f) (m := mf) (by show (if f = e then _ else A f) = _; rw [if_neg (Ne.symm ne)]; exact hmf) (by omega) (fun i => eA i) 48
    rw [if_pos (by omega)] at s1 s2
    have := h.sm
    omega
  · rcases cls x k q hq q3 hk with ⟨rfl, rfl⟩ | ⟨rfl, rfl⟩ | ⟨p, a1, a2, a3⟩
    · exact ⟨N, by omega, de⟩
    · exact ⟨N, by omega, df⟩
    · obtain ⟨i, hi, ei⟩ := h.id x k p hx a1 a2 a3
      exact ⟨i, by omega, by rw [(old x k p a1 a2 a3).2]; exact ei⟩
theorem n3k (r c : Nat) : (3 : Int32) * nI r + nI c = nI (3 * r + c) := by rw [show (3 : Int32) * nI r = nI (3 * r) from nI_mul 3 r, nI_add]
theorem m_l80 {U S2 : SS} {e m : Nat} {w r2 : Int32} (he : e < 48) (hm : U.1 6 e = nI m) (h3 : m ≤ 3) : ∀ (N i : Nat) (x : Int32), i ≤ m → f_M_link_L80 N (nI e) w x (nI i) U = some (r2, S2) → ∃ y N', (y = 0 ↔ (x = 0 ∧ ∀ k, i ≤ k → k < m → ¬ U.1 7 (3 * e + k) = w)) ∧ f_M_link_L80 (N' + 1) (nI e) w y (nI m) U = some (r2, S2)
  | 0, i, x, _, h => by cases h
  | N + 1, i, x, hi, h => by
    by_cases c : i = m
    · subst c
      exact ⟨x, N, ⟨fun e => ⟨e, fun k a b => by omega⟩, fun e => e.1⟩, h⟩
    · rw [f_M_link_L80.eq_2, grT (inb_nI (by omega) (by omega)), nI_clamp (by omega), hm, if_neg (nI_ge (by omega) (by omega))] at h
      by_cases d : x = 0
      · rw [if_pos d, n3k, grT (inb_nI (by omega) (by omega)), nI_clamp (by omega)] at h
        by_cases f : U.1 7 (3 * e + i) = w
        · rw [if_pos f, f_M_link_j114.eq_1, f_M_link_j119.eq_1, nmR, nI_1] at h
          obtain ⟨y, N', g1, g2⟩ := m_l80 he hm h3 N (i + 1) 1 (by omega) h
          exact ⟨y, N', ⟨fun e => absurd (g1.mp e).1 (by decide), fun e => absurd f (e.2 i (Nat.le_refl _) (by omega))⟩, g2⟩
        · rw [if_neg f, f_M_link_j119.eq_1, nmR, nI_1] at h
          obtain ⟨y, N', g1, g2⟩ := m_l80 he hm h3 N (i + 1) 0 (by omega) h
          refine ⟨y, N', ⟨fun e => ⟨d, fun k a b => ?_⟩, fun e => g1.mpr ⟨rfl, fun k a b => e.2 k (by omega) b⟩⟩, g2⟩
          by_cases e' : k = i
          · rw [e']; exact f
          · exact (g1.mp e).2 k (by omega) b
      · rw [if_neg d, f_M_link_j114.eq_1, f_M_link_j119.eq_1, nmR, nI_1] at h
        obtain ⟨y, N', g1, g2⟩ := m_l80 he hm h3 N (i + 1) 1 (by omega) h
        exact ⟨y, N', ⟨fun e => absurd (g1.mp e).1 (by decide), fun e => absurd e.1 d⟩, g2⟩
theorem c_lka {T : SS} {e : Nat} (he : e < 48) : f_Layout_linksAt (nI e) T = some (T.1 96 e, T) := by
  rw [f_Layout_linksAt.eq_1, if_neg (nI_nn (by omega)), if_neg (show ¬ (48 : Int32) ≤ nI e from nI_ge (b := 48) he (by omega)), grT (inb_nI (by omega) (by omega)), nI_clamp (by omega)]
theorem c_arj {T V : SS} {e m : Nat} {w r : Int32} (he : e < 48) (hm : T.1 96 e = nI m) (h3 : m ≤ 3) : ∀ (N i : Nat), i ≤ m → f_Layout_areJoined_L2 N (nI e) w (nI i) T = some (r, V) → V = T ∧ (r = 0 ↔ ∀ k, i ≤ k → k < m → ¬ T.1 97 (3 * e + k) = w)
  | 0, i, _, h => by cases h
  | N + 1, i, hi, h => by
    rw [f_Layout_areJoined_L2.eq_2, c_lka he, bnd_r, hm] at h
    by_cases c : i = m
    · subst c
      rw [if_pos (nI_le (by omega) (by omega))] at h
      obtain ⟨rfl, rfl⟩ := so_i h
      exact ⟨rfl, fun _ k a b => by omega, fun _ => rfl⟩
    · rw [if_neg (nI_ge (by omega) (by omega)), n3k, grT (inb_nI (by omega) (by omega)), nI_clamp (by omega)] at h
      by_cases f : T.1 97 (3 * e + i) = w
      · rw [if_pos f] at h
        obtain ⟨rfl, rfl⟩ := so_i h
        exact ⟨rfl, fun z => absurd z (by decide), fun z => absurd f (z i (Nat.le_refl _) (by omega))⟩
      · rw [if_neg f, nmR, nI_1] at h
        obtain ⟨g1, g2⟩ := c_arj he hm h3 N (i + 1) (by omega) h
        refine ⟨g1, fun z k a b => ?_, fun z => g2.mpr (fun k a b => z k (by omega) b)⟩
        by_cases e' : k = i
        · rw [e']; exact f
        · exact g2.mp z k (by omega) b
def mst (U : SS) (e : Nat) : Int32 := if U.1 5 e = -4 then 1 else 3
theorem c_mgl {T U : SS} {e : Nat} (he : e < 48) (e5 : T.1 94 e = U.1 5 e) : f_Layout_mayGetLink (nI e) T = some (if mst U e ≤ T.1 96 e then 0 else 1, T) := by
  rw [f_Layout_mayGetLink.eq_1, c_lka he, bnd_r, f_Layout_pointAt.eq_1, if_neg (nI_nn (by omega)), if_neg (show ¬ (48 : Int32) ≤ nI e from nI_ge (b := 48) he (by omega)), grT (inb_nI (by omega) (by omega)), nI_clamp (by omega), bnd_r, e5]
  unfold mst
  by_cases c : U.1 5 e = -4
  · rw [if_pos c, if_pos c, f_Layout_mayGetLink_j20.eq_1]
    split <;> rfl
  · rw [if_neg c, if_neg c, f_Layout_mayGetLink_j20.eq_1]
    split <;> rfl
theorem m_mgl {U : SS} {e : Nat} (he : e < 48) : f_M_mostLinks (nI e) U = some (mst U e, U) := by
  rw [f_M_mostLinks.eq_1, grT (inb_nI (by omega) (by omega)), nI_clamp (by omega)]
  unfold mst
  split <;> rfl
theorem mst_3 {U : SS} {e m : Nat} (h : ¬ mst U e ≤ nI m) (hm : m ≤ 3) : m < 3 := by
  rcases Nat.lt_or_ge m 3 with c | c
  · exact c
  · have : m = 3 := by omega
    subst this
    exfalso
    apply h
    unfold mst
    split <;> decide
theorem c_adl {T : SS} {e m : Nat} {w : Int32} (he : e < 48) (hm : T.1 96 e = nI m) (h3 : m < 3) : f_Layout_addLink (nI e) w T = some (st (st T 97 (3 * e + m) w) 96 e (nI (m + 1))) := by
  rw [f_Layout_addLink.eq_1, f_Layout_isEnd.eq_1, if_neg (nI_nn (by omega)), if_neg (show ¬ (48 : Int32) ≤ nI e from nI_ge (b := 48) he (by omega)), bnd_r, if_neg (by decide), grT (inb_nI (by omega) (by omega)), nI_clamp (n := e) (by omega), hm, if_neg (show ¬ (3 : Int32) ≤ nI m from nI_ge (b := 3) h3 (by omega)), grT (inb_nI (by omega) (by omega)), n3k, grT (inb_nI (by omega) (by omega)), wr_r, grT (inb_nI (by omega) (by omega)), grT (inb_nI (by omega) (by omega)), wr_r, nI_clamp (n := 3 * e + m) (by omega), st_row _ 97 _ _ (by decide), hm, nI_1]
theorem lk_of {n np nt : Nat} {T U : SS} (s : Sta n np nt T U) : ∃ N, U.1 0 14 = nI N ∧ Lk nt N (U.1 6) (U.1 7) (U.1 8) := by
  obtain ⟨N, h1, h2, h3⟩ := s.ld
  exact ⟨N, h1, s.lm, s.lt, s.li, s.ls, h2, h3⟩
theorem jn_al {n np nt L e f m mf N : Nat} {T U S1 S2 : SS} {r1 r2 : Int32} (b : Bo n np nt T U) (d : Dw n np nt L T U) (lk : Lk nt N (U.1 6) (U.1 7) (U.1 8)) (h14 : U.1 0 14 = nI N) (he : e < 2 * nt) (hf : f < 2 * nt) (ne : e ≠ f) (hm : U.1 6 e = nI m) (hmf : U.1 6 f = nI mf) (m3 : m < 3) (mf3 : mf < 3) (nj : ∀ k, k < m → ¬ U.1 7 (3 * e + k) = nI f)
    (g1 : bndv (f_History_forget T) (fun S8 => bndv (f_Layout_join (nI e) (nI f) S8) (fun S9 => some ((1 : Int32), S9))) = some (r1, S1))
    (g2 : some ((1 : Int32), st (st (st (st (st (st (st (st (st U 7 (3 * e + m) (nI f)) 8 (3 * e + m) (nI N)) 6 e (nI (m + 1))) 7 (3 * f + mf) (nI e)) 8 (3 * f + mf) (nI N)) 6 f (nI (mf + 1))) 0 14 (nI (N + 1))) 0 60 0) 0 61 0) = some (r2, S2)) : r1 = r2 ∧ ∃ n' np' nt', Dw n' np' nt' L S1 S2 := by
  have hnt := b.s.nt24
  rw [fgC, bndv_r, f_Layout_join.eq_1, c_adl (by omega) (by rw [st_row _ _ _ _ (by decide), st_row _ _ _ _ (by decide), b.s.e6]; exact hm) m3, bndv_r, c_adl (by omega) (by rw [st_no (by omega), st_row _ _ _ _ (by decide), st_row _ _ _ _ (by decide), st_row _ _ _ _ (by decide), b.s.e6]; exact hmf) mf3, bndv_r, bndv_r] at g1
  obtain ⟨rfl, x1⟩ := so_i g1
  obtain ⟨rfl, x2⟩ := so_i g2
  have C : ∀ a, a ≠ 64 → a ≠ 96 → a ≠ 97 → S1.1 a = T.1 a := fun a p q r => by rw [x1, st_row _ _ _ _ q, st_row _ _ _ _ r, st_row _ _ _ _ q, st_row _ _ _ _ r, st_row _ _ _ _ p, st_row _ _ _ _ p]
  have M : ∀ a, a ≠ 0 → a ≠ 6 → a ≠ 7 → a ≠ 8 → S2.1 a = U.1 a := fun a p q r s => by rw [x2, st_row _ _ _ _ p, st_row _ _ _ _ p, st_row _ _ _ _ p, st_row _ _ _ _ q, st_row _ _ _ _ s, st_row _ _ _ _ r, st_row _ _ _ _ q, st_row _ _ _ _ s, st_row _ _ _ _ r]
  have F : ∀ i, i ≠ 14 → i ≠ 60 → i ≠ 61 → S2.1 0 i = U.1 0 i := fun i p q r => by rw [x2, st_no (by omega), st_no (by omega), st_no (by omega), st_row _ _ _ _ (by decide), st_row _ _ _ _ (by decide), st_row _ _ _ _ (by decide), st_row _ _ _ _ (by decide), st_row _ _ _ _ (by decide), st_row _ _ _ _ (by decide)]
  have m14 : S2.1 0 14 = nI (N + 1) := by rw [x2, st_no (by omega), st_no (by omega), st_here]
  have A' : ∀ i, S2.1 6 i = if i = f then nI (mf + 1) else if i = e then nI (m + 1) else U.1 6 i := fun i => by
    rw [x2, st_row _ 0 _ _ (by decide), st_row _ 0 _ _ (by decide), st_row _ 0 _ _ (by decide), st_at, if_pos rfl, st_row _ 8 _ _ (by decide), st_row _ 7 _ _ (by decide), st_at, if_pos rfl, st_row _ 8 _ _ (by decide), st_row _ 7 _ _ (by decide)]
  have B' : ∀ i, S2.1 7 i = if i = 3 * f + mf then nI e else if i = 3 * e + m then nI f else U.1 7 i := fun i => by
    rw [x2, st_row _ 0 _ _ (by decide), st_row _ 0 _ _ (by decide), st_row _ 0 _ _ (by decide), st_row _ 6 _ _ (by decide), st_row _ 8 _ _ (by decide), st_at, if_pos rfl, st_row _ 6 _ _ (by decide), st_row _ 8 _ _ (by decide), st_at, if_pos rfl]
  have D' : ∀ i, S2.1 8 i = if i = 3 * f + mf then nI N else if i = 3 * e + m then nI N else U.1 8 i := fun i => by
    rw [x2, st_row _ 0 _ _ (by decide), st_row _ 0 _ _ (by decide), st_row _ 0 _ _ (by decide), st_row _ 6 _ _ (by decide), st_at, if_pos rfl, st_row _ 7 _ _ (by decide), st_row _ 6 _ _ (by decide), st_at, if_pos rfl, st_row _ 7 _ _ (by decide)]
  have C6 : ∀ i, S1.1 96 i = if i = f then nI (mf + 1) else if i = e then nI (m + 1) else U.1 6 i := fun i => by
    rw [x1, st_at, if_pos rfl, st_row _ 97 _ _ (by decide), st_at, if_pos rfl, st_row _ 97 _ _ (by decide), st_row _ 64 _ _ (by decide), st_row _ 64 _ _ (by decide), b.s.e6]
  have C7 : ∀ i, S1.1 97 i = if i = 3 * f + mf then nI e else if i = 3 * e + m then nI f else U.1 7 i := fun i => by
    rw [x1, st_row _ 96 _ _ (by decide), st_at, if_pos rfl, st_row _ 96 _ _ (by decide), st_at, if_pos rfl, st_row _ 64 _ _ (by decide), st_row _ 64 _ _ (by decide), b.s.e7]
  have lk' := lk.add (A' := S2.1 6) (B' := S2.1 7) (D' := S2.1 8) hnt he hf ne hm hmf m3 mf3 nj A' B' D'
  have h0 : Sta n np nt (repB S1 T (fun a => Nat.beq a 96 || Nat.beq a 97)) (repB S2 U (fun a => Nat.beq a 0 || Nat.beq a 6 || Nat.beq a 7 || Nat.beq a 8)) := d.s.fr (repB_eq (P := sC) (fun a p q => by
      simp only [Bool.or_eq_false_iff, nbf] at p
      unfold sC at q
      exact C a (by omega) (by omega) (by omega))) (repB_eq (P := sM) (fun a p q => by
      simp only [Bool.or_eq_false_iff, nbf] at p
      exact M a (by omega) (by omega) (by omega) (by omega))) (fun i hi => rfl)
  have s' : Sta n np nt S1 S2 := (Sta.mk_ (n72_ := h0.n72)
    (np40_ := h0.np40)
    (nt24_ := h0.nt24)
    (cn_ := h0.cn)
    (mn_ := by rw [F 29 (by decide) (by decide) (by decide)]; exact d.s.mn)
    (cp_ := h0.cp)
    (mp_ := by rw [F 15 (by decide) (by decide) (by decide)]; exact d.s.mp)
    (ct_ := h0.ct)
    (mt_ := by rw [F 7 (by decide) (by decide) (by decide)]; exact d.s.mt)
    (pl_ := h0.pl)
    (e3_ := h0.e3)
    (e5_ := h0.e5)
    (e9_ := h0.e9)
    (e6_ := fun i => by rw [C6, A'])
    (e7_ := fun i => by rw [C7, B'])
    (e4_ := h0.e4)
    (pa_ := h0.pa)
    (pe_ := h0.pe)
    (lm_ := lk'.lm)
    (lt_ := lk'.lt)
    (li_ := lk'.li)
    (ls_ := lk'.ls)
    (ld_ := ⟨N + 1, m14, lk'.sm, lk'.id⟩)
    (er_ := by rw [F 19 (by decide) (by decide) (by decide), C 67 (by decide) (by decide) (by decide)]; exact d.s.er)
    (r19_ := by rw [F 19 (by decide) (by decide) (by decide), M 12 (by decide) (by decide) (by decide) (by decide)]; exact d.s.r19)
    (e12_ := h0.e12)
    (e13_ := h0.e13)
    (e14_ := h0.e14)
    (e15_ := h0.e15)
    (en_ := h0.en)
    (ep_ := h0.ep)
    (e16_ := h0.e16)
    (e17_ := h0.e17)
    (sk_ := fun x hx => (d.s.sk x hx).fr (C 91 (by decide) (by decide) (by decide)) (C 92 (by decide) (by decide) (by decide)) (fun k hk => M k (by omega) (by omega) (by omega) (by omega)))
    (sz_ := h0.sz))
  refine ⟨rfl, n, np, nt, d.upd1 s' (fun k hk => C k (by omega) (by omega) (by omega)) (fun i hi => ?_) (fun k hk => M k (by omega) (by omega) (by omega) (by omega)) (fun i hi => F i (by omega) (by omega) (by omega)) ?_ ?_ ?_ ?_⟩
  · rw [x1, st_row _ _ _ _ (by decide), st_row _ _ _ _ (by decide), st_row _ _ _ _ (by decide), st_row _ _ _ _ (by decide), st_no (by omega), st_no (by omega)]
  · rw [x1, st_row _ _ _ _ (by decide), st_row _ _ _ _ (by decide), st_row _ _ _ _ (by decide), st_row _ _ _ _ (by decide), st_no (by omega), st_here]
  · rw [x1, st_row _ _ _ _ (by decide), st_row _ _ _ _ (by decide), st_row _ _ _ _ (by decide), st_row _ _ _ _ (by decide), st_here]
  · rw [x2, st_no (by omega), st_here]
  · rw [x2, st_here]
theorem link_st {n np nt L : Nat} {S S1 S2 : SS} {a1 a2 a3 a4 r1 r2 : Int32} (h : Dz n np nt L S) (hW1 : WR S1) (z : Fg S S1 S2) (e1 : f_Yard_link a1 a2 a3 a4 S = some (r1, S1)) (e2 : f_M_link a1 a2 a3 a4 S1 = some (r2, S2)) : Ay L r1 r2 S2 := by
  rw [f_Yard_link.eq_1, in_v, bnd_r] at e1
  rw [f_M_link.eq_1] at e2
  rcases sd_al a2 with ⟨s, hs, rfl, i0, is⟩ | ⟨i0, is⟩
  · rw [if_pos i0, in_v, bnd_r] at e1
    rw [is, bnd_r, if_neg (by decide)] at e2
    rcases sd_al a4 with ⟨s', hs', rfl, j0, js⟩ | ⟨j0, js⟩
    · rw [if_pos j0] at e1
      rw [js, bnd_r, if_neg (by decide)] at e2
      refine beg_al h hW1 z (fun T U b d _ g1 g2 => ?_) e1 e2
      have hnt := b.s.nt24
      have fin : r1 = r2 ∧ Qz T U S1 S2 → r1 = r2 ∧ ∃ n' np' nt', Dw n' np' nt' L S1 S2 := fun q => ⟨q.1, n, np, nt, d.qz q.2⟩
      rcases tf_al b a1 with ⟨t, q, ht, rfl, hq, q1, q2, c1, c2⟩ | ⟨r, hr, c1, c2⟩
      · rw [c1, bnd_r, if_pos rfl] at g1
        rw [c2, bnd_r, ends_0, bnd_r, if_pos rfl] at g2
        rcases tf_al b a3 with ⟨t', q', ht', rfl, hq', q1', q2', d1, d2⟩ | ⟨r, hr, d1, d2⟩
        · rw [d1, bnd_r, f_Yard_link_j53.eq_1, if_pos rfl, n2, n2, f_Layout_mayJoin.eq_1] at g1
          rw [d2, bnd_r, ends_0, bnd_r, if_pos rfl, nmR, nmR, n2, n2] at g2
          obtain ⟨e, he⟩ : ∃ e, e = 2 * t + s := ⟨_, rfl⟩
          obtain ⟨f, hf⟩ : ∃ f, f = 2 * t' + s' := ⟨_, rfl⟩
          rw [← he, ← hf] at g1 g2
          obtain ⟨m, m3, hm⟩ := b.s.lm e (by omega)
          obtain ⟨mf, mf3, hmf⟩ := b.s.lm f (by omega)
          have bad : ∀ (V : SS), V = T → f_Yard_link_j83 (nI t) (nI s) (nI t') (nI s') 9 V = some (r1, S1) → ∀ (W : SS), W = U → f_M_link_j164 W = some (r2, S2) → r1 = r2 ∧ ∃ n' np' nt', Dw n' np' nt' L S1 S2 := fun V eV k1 W eW k2 => by
            subst eV eW
            rw [f_Yard_link_j83.eq_1, if_neg (by decide)] at k1
            rw [f_M_link_j164.eq_1] at k2
            exact fin (fnd2_al b k1 k2)
          by_cases ef : nI e = nI f
          · rw [if_pos ef, bnd_r, if_pos rfl] at g1
            rw [if_pos ef, f_M_link_j75.eq_1] at g2
            obtain ⟨y, N', y1, y2⟩ := m_l80 (by omega) hm m3 NF 0 1 (by omega) g2
            rw [f_M_link_L80.eq_2, grT (inb_nI (by omega) (by omega)), nI_clamp (by omega), hm, if_pos (nI_le (by omega) (by omega)), if_neg (fun c => absurd (y1.mp c).1 (by decide))] at y2
            exact bad T rfl g1 U rfl y2
          · have ne : e ≠ f := fun c => ef (by rw [c])
            rw [if_neg ef] at g1
            rw [if_neg ef, f_M_link_j75.eq_1] at g2
            obtain ⟨y, N', y1, y2⟩ := m_l80 (by omega) hm m3 NF 0 0 (by omega) g2
            rw [f_M_link_L80.eq_2, grT (inb_nI (by omega) (by omega)), nI_clamp (by omega), hm, if_pos (nI_le (by omega) (by omega))] at y2
            replace g1 := bnd_i g1
            obtain ⟨o, V, l, g1⟩ := g1
            replace l := bnd_i l
            obtain ⟨o1, V1, l1, l⟩ := l
            rw [f_Layout_areJoined.eq_1] at l1
            have t96 : T.1 96 e = nI m := by rw [b.s.e6]; exact hm
            obtain ⟨eV1, w1⟩ := c_arj (by omega) t96 m3 NF 0 (by omega) l1
            rw [eV1] at l
            by_cases jo : o1 = 0
            · have nj := w1.mp jo
              have y0 : y = 0 := y1.mpr ⟨rfl, fun k a c => by rw [← b.s.e7]; exact nj k a c⟩
              rw [if_pos jo, c_mgl (U := U) (by omega) (b.s.e5 e), bnd_r, t96] at l
              rw [if_pos y0, grT (inb_nI (by omega) (by omega)), m_mgl (by omega), bnd_r] at y2
              by_cases me : mst U e ≤ nI m
              · rw [if_pos me, if_pos rfl] at l
                rw [(so_i l).1, (so_i l).2, if_pos rfl] at g1
                rw [if_pos me] at y2
                exact bad T rfl g1 U rfl y2
              · have m3' := mst_3 me m3
                rw [if_neg me, if_neg (by decide), c_mgl (U := U) (by omega) (b.s.e5 f), bnd_r, b.s.e6, hmf] at l
                rw [if_neg me, grT (inb_nI (by omega) (by omega)), m_mgl (by omega), bnd_r, nI_clamp (n := f) (by omega), hmf] at y2
                by_cases mf' : mst U f ≤ nI mf
                · rw [if_pos mf', if_pos rfl] at l
                  rw [(so_i l).1, (so_i l).2, if_pos rfl] at g1
                  rw [if_neg (Int32.not_lt.mpr mf')] at y2
                  exact bad T rfl g1 U rfl y2
                · have mf3' := mst_3 mf' mf3
                  rw [if_neg mf', if_neg (by decide)] at l
                  rw [(so_i l).1, (so_i l).2, if_neg (by decide), f_Yard_link_j83.eq_1, if_pos rfl, n2, n2, ← he, ← hf] at g1
                  obtain ⟨N, h14, lk⟩ := lk_of b.s
                  rw [if_pos (Int32.not_le.mp mf'), grT (inb_nI (by omega) (by omega)), hm, n3k, grT (inb_nI (by omega) (by omega)), wr_r, grT (inb_nI (by omega) (by omega)), st_row (a := 6) _ 7 _ _ (by decide), hm, n3k, grT (inb_nI (by omega) (by omega)), wr_r, grT (inb_nI (by omega) (by omega)), grT (inb_nI (by omega) (by omega)), wr_r, st_row (a := 6) _ 8 _ _ (by decide), st_row (a := 6) _ 7 _ _ (by decide), hm, nI_1, grT (inb_nI (by omega) (by omega)), st_no (a := 6) (b := f) (by omega), st_row (a := 6) _ 8 _ _ (by decide), st_row (a := 6) _ 7 _ _ (by decide), hmf, n3k, grT (inb_nI (by omega) (by omega)), wr_r] at y2
                  rw [nI_clamp (n := 3 * e + m) (by omega), nI_clamp (n := 3 * f + mf) (by omega), st_row (a := 0) _ 7 _ _ (by decide), h14] at y2
                  generalize hX : st (st (st (st U 7 (3 * e + m) (nI f)) 8 (3 * e + m) (nI N)) 6 e (nI (m + 1))) 7 (3 * f + mf) (nI e) = X at y2
                  have x6 : X.1 6 f = nI mf := by rw [← hX, st_row _ _ _ _ (by decide), st_no (by omega), st_row _ _ _ _ (by decide), st_row _ _ _ _ (by decide), hmf]
                  have x0 : X.1 0 14 = nI N := by rw [← hX, st_row _ _ _ _ (by decide), st_row _ _ _ _ (by decide), st_row _ _ _ _ (by decide), st_row _ _ _ _ (by decide), h14]
                  rw [grT (inb_nI (by omega) (by omega)), x6, n3k, grT (inb_nI (by omega) (by omega)), wr_r, x0, nI_clamp (n := 3 * f + mf) (by omega), grT (inb_nI (by omega) (by omega)), grT (inb_nI (by omega) (by omega)), wr_r, st_row (a := 6) _ 8 _ _ (by decide), x6, nI_1, wr_r, st_row (a := 0) _ 6 _ _ (by decide), st_row (a := 0) _ 8 _ _ (by decide), x0, nI_1, fgM, bndv_r, ← hX] at y2
                  exact jn_al b d lk h14 (by omega) (by omega) ne hm hmf m3' mf3' (fun k hk => by rw [← b.s.e7]; exact nj k (by omega) hk) g1 y2
            · rw [if_neg jo] at l
              rw [(so_i l).1, (so_i l).2, if_pos rfl] at g1
              have y0 : ¬ y = 0 := fun c => jo (w1.mpr (fun k p q => by rw [b.s.e7]; exact (y1.mp c).2 k p q))
              rw [if_neg y0] at y2
              exact bad T rfl g1 U rfl y2
        · rw [d1, bnd_r, f_Yard_link_j53.eq_1, if_neg hr, f_Yard_link_j83.eq_1, if_neg hr] at g1
          rw [d2, bnd_r] at g2
          exact fin (nf_al' b hr g1 g2)
      · rw [c1, bnd_r, if_neg hr, f_Yard_link_j53.eq_1, if_neg hr, f_Yard_link_j83.eq_1, if_neg hr] at g1
        rw [c2, bnd_r] at g2
        exact fin (nf_al' b hr g1 g2)
    · rw [if_neg j0] at e1
      rw [js, bnd_r, if_pos rfl] at e2
      exact ay_bad h e1 e2
  · rw [if_neg i0] at e1
    rw [is, bnd_r, if_pos rfl] at e2
    exact ay_bad h e1 e2
/-! ===== frames of calls, the first world ===== -/
def loB (L : List Nat) (F : List (Nat × Nat)) : Bool := L.all (fun j => Nat.ble 61 j) && F.all (fun p => Nat.ble 61 p.1)
def hiB (L : List Nat) (F : List (Nat × Nat)) : Bool := L.all (fun j => Nat.ble j 60) && F.all (fun p => Nat.ble p.1 60)
theorem lo_wm {L : List Nat} {F : List (Nat × Nat)} (h : loB L F = true) {k i : Nat} (hk : k ≤ 60) : wm L F k i = false := by
  simp only [loB, Bool.and_eq_true, List.all_eq_true] at h
  simp only [wm, Bool.or_eq_false_iff, List.any_eq_false, Bool.and_eq_true]
  refine ⟨fun x hx e => ?_, fun x hx e => ?_⟩
  · have := Nat.le_of_ble_eq_true (h.1 x hx)
    have := Nat.eq_of_beq_eq_true e
    omega
  · have := Nat.le_of_ble_eq_true (h.2 x hx)
    have := Nat.eq_of_beq_eq_true e.1
    omega
theorem hi_wm {L : List Nat} {F : List (Nat × Nat)} (h : hiB L F = true) {k i : Nat} (hk : 61 ≤ k) : wm L F k i = false := by
  simp only [hiB, Bool.and_eq_true, List.all_eq_true] at h
  simp only [wm, Bool.or_eq_false_iff, List.any_eq_false, Bool.and_eq_true]
  refine ⟨fun x hx e => ?_, fun x hx e => ?_⟩
  · have := Nat.le_of_ble_eq_true (h.1 x hx)
    have := Nat.eq_of_beq_eq_true e
    omega
  · have := Nat.le_of_ble_eq_true (h.2 x hx)
    have := Nat.eq_of_beq_eq_true e.1
    omega
theorem fg_of {L L' : List Nat} {F F' : List (Nat × Nat)} {S S1 S2 : SS} (f1 : F1 L F S S1) (f2 : F1 L' F' S1 S2) (e : (loB L F && hiB L' F') = true) : Fg S S1 S2 := by
  rw [Bool.and_eq_true] at e
  exact ⟨fun k i hk => f1 k i (lo_wm e.1 hk), fun k i hk => f2 k i (hi_wm e.2 hk)⟩
def fzB (L L' : List Nat) (F F' : List (Nat × Nat)) : Bool := loB L F && hiB L' F' && nF L F 63 1 && nF L F 66 8 && nF L F 66 7 && nF L' F' 0 29 && nF L' F' 0 15 && nF L' F' 0 7 && nR L' F' 3 && nR L' F' 18
theorem fz_of {L L' : List Nat} {F F' : List (Nat × Nat)} {S S1 S2 : SS} (f1 : F1 L F S S1) (f2 : F1 L' F' S1 S2) (e : fzB L L' F F' = true) : Fz S S1 S2 := by
  simp only [fzB, Bool.and_eq_true] at e
  obtain ⟨⟨⟨⟨⟨⟨⟨⟨⟨e1, e2⟩, e3⟩, e4⟩, e5⟩, e6⟩, e7⟩, e8⟩, e9⟩, eA⟩ := e
  exact ⟨fun k i hk => f1 k i (lo_wm e1 hk), fun k i hk => f2 k i (hi_wm e2 hk), f1 _ _ (nF_wm e3), f1 _ _ (nF_wm e4), f1 _ _ (nF_wm e5), f2 _ _ (nF_wm e6), f2 _ _ (nF_wm e7), f2 _ _ (nF_wm e8), fun i => f2 _ _ (nR_wm e9 i), fun i => f2 _ _ (nR_wm eA i)⟩
def lCM : List Nat := [62, 63, 64, 66, 67, 68, 75, 76, 78, 79, 81, 82, 83, 84, 85, 86, 87, 88, 89, 90, 91, 92, 93, 94, 95, 96, 97, 98, 99, 100, 101, 102, 105, 2, 3, 4, 5, 6, 7, 8, 9, 10, 11, 12, 13, 14, 15, 16, 17, 18, 19, 20, 21, 22, 23, 24, 25, 26, 27, 28, 29, 30, 31, 32, 33, 34, 35, 36, 37, 38, 40, 41, 42]
def lFi : List Nat := [5, 7, 14, 15, 19, 29, 47, 48, 49, 60, 61, 62]
def kfB (L : List Nat) (F : List (Nat × Nat)) : Bool := lCM.all (fun k => nR L F k) && lFi.all (fun i => nF L F 0 i)
theorem kf1 {L : List Nat} {F : List (Nat × Nat)} {n np nt Lg : Nat} {S S2 : SS} (h : Dz n np nt Lg S) (f : F1 L F S S2) (e : kfB L F = true) : Dz n np nt Lg S2 := by
  simp only [kfB, Bool.and_eq_true, List.all_eq_true] at e
  have r : ∀ k, k ∈ lCM → S2.1 k = S.1 k := fun k hk => funext fun i => f k i (nR_wm (e.1 k hk) i)
  refine h.kf (fun k hk => r k ?_) (fun k hk => r k ?_) (fun i hi => f 0 i (nF_wm (e.2 i ?_)))
  · have a : ∀ k : Fin 128, rC k.1 → k.1 ∈ lCM := by unfold rC; decide +kernel
    exact a ⟨k, by unfold rC at hk; omega⟩ hk
  · have a : ∀ k : Fin 128, rM k.1 → k.1 ∈ lCM := by unfold rM; decide +kernel
    exact a ⟨k, by unfold rM at hk; omega⟩ hk
  · have a : ∀ k : Fin 128, rF k.1 → k.1 ∈ lFi := by unfold rF; decide +kernel
    exact a ⟨i, by unfold rF at hi; omega⟩ hi
theorem kf_of {L L' : List Nat} {F F' : List (Nat × Nat)} {n np nt Lg : Nat} {S S1 S2 : SS} (h : Dz n np nt Lg S) (f1 : F1 L F S S1) (f2 : F1 L' F' S1 S2) (e : kfB L F = true) (e' : kfB L' F' = true) : ∃ n np nt L', L' ≤ Lg + 1 ∧ Dz n np nt L' S2 := ⟨n, np, nt, Lg, by omega, kf1 (kf1 h f1 e) f2 e'⟩
def lUb : List Nat := [62, 63, 66, 67, 68, 75, 76, 78, 89, 90, 91, 92, 93, 94, 95, 96, 97, 98, 99, 100, 101, 102, 105, 2, 3, 4, 5, 6, 7, 8, 9, 12, 13, 14, 15, 16, 17, 18, 28, 29, 35, 36, 37, 38, 41, 42]
def lUf : List Nat := [5, 7, 14, 15, 19, 29, 49, 62]
def ubB (L : List Nat) (F : List (Nat × Nat)) : Bool := lUb.all (fun k => nR L F k) && lUf.all (fun i => nF L F 0 i) && nF L F 64 4 && nF L F 64 5
theorem ub_of {L L' : List Nat} {F F' : List (Nat × Nat)} {n np nt Lg : Nat} {S S1 S2 : SS} (h : Dz n np nt Lg S) (r : Rst n np nt S2) (f1 : F1 L F S S1) (f2 : F1 L' F' S1 S2) (e : ubB L F = true) (e' : ubB L' F' = true) : ∃ n np nt L', L' ≤ Lg + 1 ∧ Dz n np nt L' S2 := by
  simp only [ubB, Bool.and_eq_true, List.all_eq_true] at e e'
  obtain ⟨⟨⟨a1, a2⟩, a3⟩, a4⟩ := e
  obtain ⟨⟨⟨b1, b2⟩, b3⟩, b4⟩ := e'
  have q : ∀ k, k ∈ lUb → S2.1 k = S.1 k := fun k hk => funext fun i => (f2 k i (nR_wm (b1 k hk) i)).trans (f1 k i (nR_wm (a1 k hk) i))
  refine ⟨n, np, nt, Lg, by omega, ub_y (S1 := S1) h r (fun k hk => q k ?_) ((f2 64 4 (nF_wm b3)).trans (f1 64 4 (nF_wm a3))) ((f2 64 5 (nF_wm b4)).trans (f1 64 5 (nF_wm a4))) (fun k hk => q k ?_) (fun i hi => (f2 0 i (nF_wm (b2 i ?_))).trans (f1 0 i (nF_wm (a2 i ?_))))⟩
  · have a : ∀ k : Fin 128, (k.1 = 62 ∨ k.1 = 63 ∨ k.1 = 66 ∨ k.1 = 67 ∨ k.1 = 68 ∨ k.1 = 75 ∨ k.1 = 76 ∨ k.1 = 78 ∨ (89 ≤ k.1 ∧ k.1 ≤ 102) ∨ k.1 = 105) → k.1 ∈ lUb := by decide +kernel
    exact a ⟨k, by omega⟩ hk
  · have a : ∀ k : Fin 128, ((2 ≤ k.1 ∧ k.1 ≤ 9) ∨ (12 ≤ k.1 ∧ k.1 ≤ 18) ∨ k.1 = 28 ∨ k.1 = 29 ∨ (35 ≤ k.1 ∧ k.1 ≤ 38) ∨ k.1 = 41 ∨ k.1 = 42) → k.1 ∈ lUb := by decide +kernel
    exact a ⟨k, by omega⟩ hk
  · have a : ∀ i : Fin 128, (i.1 = 5 ∨ i.1 = 7 ∨ i.1 = 14 ∨ i.1 = 15 ∨ i.1 = 19 ∨ i.1 = 29 ∨ i.1 = 49 ∨ i.1 = 62) → i.1 ∈ lUf := by decide +kernel
    exact a ⟨i, by omega⟩ hi
  · have a : ∀ i : Fin 128, (i.1 = 5 ∨ i.1 = 7 ∨ i.1 = 14 ∨ i.1 = 15 ∨ i.1 = 19 ∨ i.1 = 29 ∨ i.1 = 49 ∨ i.1 = 62) → i.1 ∈ lUf := by decide +kernel
    exact a ⟨i, by omega⟩ hi
theorem s0_sta : Sta 0 0 0 S0 S0 := Sta.mk_ (n72_ := by omega)
  (np40_ := by omega)
  (nt24_ := by omega)
  (cn_ := rfl)
  (mn_ := rfl)
  (cp_ := rfl)
  (mp_ := rfl)
  (ct_ := rfl)
  (mt_ := rfl)
  (pl_ := fun t ht => absurd ht (by omega))
  (e3_ := fun _ => rfl)
  (e5_ := fun _ => rfl)
  (e9_ := fun _ => rfl)
  (e6_ := fun _ => rfl)
  (e7_ := fun _ => rfl)
  (e4_ := fun _ => rfl)
  (pa_ := fun e he => Or.inl (show (if e < 48 then (-4 : Int32) else 0) = -4 from if_pos he))
  (pe_ := fun p hp => absurd hp (by omega))
  (lm_ := fun _ _ => ⟨0, by omega, rfl⟩)
  (lt_ := fun e k m _ hm h3 hk => by
    have : 0 = m := nI_inj (by omega) (by omega) (show nI 0 = nI m from hm)
    omega)
  (li_ := fun e k m f k' m' _ hm h3 hk => by
    have : 0 = m := nI_inj (by omega) (by omega) (show nI 0 = nI m from hm)
    omega)
  (ls_ := fun e k m f _ hm h3 hk => by
    have : 0 = m := nI_inj (by omega) (by omega) (show nI 0 = nI m from hm)
    omega)
  (ld_ := ⟨0, rfl, rfl, fun e k m _ hm h3 hk => by
    have : 0 = m := nI_inj (by omega) (by omega) (show nI 0 = nI m from hm)
    omega⟩)
  (er_ := rfl)
  (r19_ := ⟨0, by omega, rfl, fun _ _ _ => rfl⟩)
  (e12_ := fun _ => rfl)
  (e13_ := fun _ => rfl)
  (e14_ := fun _ => rfl)
  (e15_ := fun _ => rfl)
  (en_ := fun _ _ => ⟨0, by omega, rfl⟩)
  (ep_ := fun r k m _ hm h3 hk => by
    have : 0 = m := nI_inj (by omega) (by omega) (show nI 0 = nI m from hm)
    omega)
  (e16_ := fun _ => rfl)
  (e17_ := fun _ => rfl)
  (sk_ := fun x hx => absurd hx (by omega))
  (sz_ := fun _ _ _ => ⟨rfl, rfl⟩)
theorem s0_dz : Dz 0 0 0 0 S0 := by
  refine Dw.dz ⟨s0_sta, ⟨fun x hx => absurd hx (by omega), fun p hp => absurd hp (by omega), rfl, ⟨[], ?_⟩, fun x s o hx => absurd hx (by omega), fun x d _ hx hd => ?_⟩, ⟨rfl, fun _ => rfl⟩, rfl, fun _ => rfl, ⟨by omega, rfl, rfl, rfl, fun _ _ => rfl, fun _ _ => rfl⟩, 0, 0, 0, rfl, rfl, rfl, rfl, rfl, Kp.none_ (by omega)⟩
  · exact ⟨rfl, fun i hi => absurd hi (by simp), fun y => ⟨fun z => absurd z (by simp), fun z => absurd z.1 (by omega)⟩, List.Pairwise.nil, fun y hy => absurd hy (by simp)⟩
  · rcases (show d = 0 ∨ d = 8 ∨ d = 9 ∨ d = 10 ∨ d = 11 ∨ d = 12 ∨ d = 14 by omega) with rfl | rfl | rfl | rfl | rfl | rfl | rfl
    · rw [sv_0 S0 hx]; rfl
    · rw [sv_8 S0 hx]; rfl
    · rw [sv_9 S0 hx]; rfl
    · rw [sv_10 S0 hx]; rfl
    · rw [sv_11 S0 hx]; rfl
    · rw [sv_12 S0 hx]; rfl
    · rw [sv_14 S0 hx]; rfl
end
