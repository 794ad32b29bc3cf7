/-! ===== the reference: small methods in closed form ===== -/
def mBeg (S : SS) : SS := st (st (st (st (st S 0 0 0) 0 1 (-4)) 0 2 0) 0 3 (-4)) 0 5 0
theorem M_begin (S : SS) : f_M_begin S = some (mBeg S) := rfl
def mFnd (S : SS) (k : Nat) : SS := st (st S 0 0 (nI k)) 1 k (S.1 1 k + 1)
theorem M_found (S : SS) {k : Nat} (hk : k ≤ 17) : f_M_found (nI k) S = some (-2, mFnd S k) := by
  have h1 : inb (nI k) 18 = true := inb_nI (by omega) (by decide)
  have h2 : (nI k).toNatClampNeg = k := nI_clamp (by omega)
  simp only [f_M_found, wr_s, grd_s _ h1, h2, st_row _ _ _ _ (show (1 : Nat) ≠ 0 by decide)]
  rfl
theorem M_ends0 (S : SS) : f_M_ends 0 S = some (0, S) := by
  simp [f_M_ends, f_M_ends_j10]
theorem M_ends (S : SS) {k : Nat} (h0 : 0 < k) (hk : k ≤ 17) : f_M_ends (nI k) S = some (1, mFnd S k) := by
  have h : ¬ nI k = 0 := nI_ne0 h0 (by omega)
  rw [f_M_ends, if_neg h, M_found S hk, bnd_s, f_M_ends_j10, if_neg h]
def mNote (S : SS) (a : Int32) : SS := if (200 : Int32) ≤ S.1 0 5 then S else st (st S 2 (S.1 0 5).toNatClampNeg a) 0 5 (S.1 0 5 + 1)
theorem M_note (S : SS) (a : Int32) {n : Nat} (hn : S.1 0 5 = nI n) (h : n ≤ 200) : f_M_note a S = some (mNote S a) := by
  by_cases c : (200 : Int32) ≤ S.1 0 5
  · simp [f_M_note, mNote, c]
  · have hlt : n < 200 := by
      rcases Nat.lt_or_ge n 200 with q | q
      · exact q
      · exact absurd (by rw [hn]; exact nI_le (a := 200) q (by omega)) c
    have hb : inb (S.1 0 5) 200 = true := inb_of hn hlt (by decide)
    simp only [f_M_note, mNote, if_neg c, wr_s, grd_s _ hb, st_row _ _ _ _ (show (0 : Nat) ≠ 2 by decide)]
def mForget (S : SS) : SS := st (st S 0 60 0) 0 61 0
theorem M_forget (S : SS) : f_M_forget S = some (mForget S) := rfl
theorem M_isSide (e : Int32) (S : SS) : f_M_isSide e S = some (if e = 0 ∨ e = 1 then 1 else 0, S) := by
  unfold f_M_isSide
  by_cases h : e = 0
  · simp [h]
  · by_cases h1 : e = 1
    · simp [h1]
    · simp [h, h1]
/-- whether THING x stands there -/
def mAt (S : SS) (t p : Int32) (x : Nat) : Bool := !(decide (S.1 19 x = 0)) && (decide (S.1 20 x = t) && decide (S.1 21 x = p))
theorem M_standing_L {t p : Int32} {S : SS} {n : Nat} (hm : S.1 0 29 = nI n) (hn : n ≤ 72) : ∀ (d i k : Nat), i + d = n → d < k → f_M_standing_L2 k t p (nI i) S = some (oI (fnd (mAt S t p) d i), S) := by
  intro d
  induction d with
  | zero =>
    intro i k hi hk
    obtain ⟨k, rfl⟩ : ∃ k', k = k' + 1 := ⟨k - 1, by omega⟩
    rw [f_M_standing_L2, hm, if_pos (nI_le (by omega) (by omega))]
    rfl
  | succ d ih =>
    intro i k hi hk
    obtain ⟨k, rfl⟩ : ∃ k', k = k' + 1 := ⟨k - 1, by omega⟩
    have hb : inb (nI i) 72 = true := inb_nI (by omega) (by decide)
    have hc : (nI i).toNatClampNeg = i := nI_clamp (by omega)
    have hnx : f_M_standing_j41 (fun v0 v1 v2 S => f_M_standing_L2 k v0 v1 v2 S) t p (nI i) S = some (oI (fnd (mAt S t p) d (i + 1)), S) := by
      rw [f_M_standing_j41, nm_s]
      show f_M_standing_L2 k t p (nI i + 1) S = _
      rw [nI_1]
      exact ih (i + 1) k (by omega) (by omega)
    rw [f_M_standing_L2, hm, if_neg (nI_ge (by omega) (by omega))]
    simp only [grd_s _ hb, hc, hnx, fnd, mAt]
    by_cases c1 : S.1 19 i = 0
    · simp [c1, mAt]
    · by_cases c2 : S.1 20 i = t
      · by_cases c3 : S.1 21 i = p
        · simp [c1, c2, c3, oI]
        · simp [c1, c2, c3, mAt]
      · simp [c1, c2, mAt]
def mStand (S : SS) (n : Nat) (t p : Int32) : Option Nat := fnd (mAt S t p) n 0
theorem M_standing {S : SS} {n : Nat} (hm : S.1 0 29 = nI n) (hn : n ≤ 72) (t p : Int32) : f_M_standing t p S = some (oI (mStand S n t p), S) := by
  rw [f_M_standing]
  exact M_standing_L hm hn n 0 NF (by omega) (by have := NF_gt; omega)
/-- the FINDING of a TRACK, a POINT, a ROUTE that is named -/
def missN (x : Int32) (lim n : Nat) : Nat := if x < 0 then 3 else if x < nI lim then (if x < nI n then 0 else 1) else 3
theorem M_missTrack {S : SS} {n : Nat} (h : S.1 0 7 = nI n) (x : Int32) : f_M_missTrack x S = some (nI (missN x 24 n), S) := by
  rw [f_M_missTrack, h]
  unfold missN
  by_cases c1 : x < 0
  · simp only [if_pos c1]; rfl
  · by_cases c2 : x < nI 24
    · have c2' : x < (24 : Int32) := c2
      by_cases c3 : x < nI n
      · simp only [if_neg c1, if_pos c2, if_pos c2', if_pos c3]; rfl
      · simp only [if_neg c1, if_pos c2, if_pos c2', if_neg c3]; rfl
    · have c2' : ¬ x < (24 : Int32) := c2
      simp only [if_neg c1, if_neg c2, if_neg c2']; rfl
theorem M_missPoint {S : SS} {n : Nat} (h : S.1 0 15 = nI n) (x : Int32) : f_M_missPoint x S = some (nI (missN x 40 n), S) := by
  rw [f_M_missPoint]
  unfold missN
  by_cases c1 : x < 0
  · simp only [if_pos c1]; rfl
  · by_cases c2 : x < nI 40
    · have c2' : x < (40 : Int32) := c2
      by_cases c3 : x < nI n
      · have c3' : x < S.1 0 15 := by rw [h]; exact c3
        simp only [if_neg c1, if_pos c2, if_pos c2', if_pos c3, if_pos c3']; rfl
      · have c3' : ¬ x < S.1 0 15 := by rw [h]; exact c3
        simp only [if_neg c1, if_pos c2, if_pos c2', if_neg c3, if_neg c3']; rfl
    · have c2' : ¬ x < (40 : Int32) := c2
      simp only [if_neg c1, if_neg c2, if_neg c2']; rfl
theorem M_missRoute {S : SS} {n : Nat} (h : S.1 0 19 = nI n) (x : Int32) : f_M_missRoute x S = some (nI (missN x 12 n), S) := by
  rw [f_M_missRoute]
  unfold missN
  by_cases c1 : x < 0
  · simp only [if_pos c1]; rfl
  · by_cases c2 : x < nI 12
    · have c2' : x < (12 : Int32) := c2
      by_cases c3 : x < nI n
      · have c3' : x < S.1 0 19 := by rw [h]; exact c3
        simp only [if_neg c1, if_pos c2, if_pos c2', if_pos c3, if_pos c3']; rfl
      · have c3' : ¬ x < S.1 0 19 := by rw [h]; exact c3
        simp only [if_neg c1, if_pos c2, if_pos c2', if_neg c3, if_neg c3']; rfl
    · have c2' : ¬ x < (12 : Int32) := c2
      simp only [if_neg c1, if_neg c2, if_neg c2']; rfl
theorem missN_le (x : Int32) (lim n : Nat) : missN x lim n ≤ 3 := by unfold missN; split <;> (try split) <;> (try split) <;> omega
theorem missN_0 {x : Int32} {lim n : Nat} (hn : n < 2 ^ 31) (h : missN x lim n = 0) : ∃ j, j < n ∧ x = nI j := by
  unfold missN at h
  by_cases c1 : x < 0
  · rw [if_pos c1] at h; cases h
  · rw [if_neg c1] at h
    by_cases c2 : x < nI lim
    · rw [if_pos c2] at h
      by_cases c3 : x < nI n
      · exact nI_ex c1 c3 hn
      · rw [if_neg c3] at h; cases h
    · rw [if_neg c2] at h; cases h
