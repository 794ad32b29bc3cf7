/-! ===== the reference's kept worlds ===== -/
def sv (T : SS) (j : Nat) : Int32 :=
  if j < 1080 then (match j % 15 with
    | 0 => if T.1 19 (j / 15) = 0 then 0 else 1
    | 1 => T.1 20 (j / 15)
    | 2 => T.1 21 (j / 15)
    | 3 => T.1 22 (j / 15)
    | 4 => T.1 23 (2 * (j / 15))
    | 5 => T.1 23 (2 * (j / 15) + 1)
    | 6 => T.1 24 (j / 15)
    | 7 => T.1 25 (j / 15)
    | 8 => T.1 26 (j / 15)
    | 9 => T.1 27 (j / 15)
    | 10 => T.1 30 (j / 15)
    | 11 => if T.1 31 (j / 15) = 0 then 0 else 1
    | 12 => T.1 32 (j / 15)
    | 13 => T.1 33 (j / 15)
    | _ => if T.1 34 (j / 15) = 0 then 0 else 1)
  else if j < 1160 then (if j % 2 = 0 then T.1 10 ((j - 1080) / 2) else T.1 11 ((j - 1080) / 2)) else T.1 0 48
theorem sv_0 (T : SS) {x : Nat} (h : x < 72) : sv T (15 * x + 0) = (if T.1 19 x = 0 then 0 else 1) := by
  unfold sv
  rw [if_pos (by omega), show (15 * x + 0) % 15 = 0 by omega, show (15 * x + 0) / 15 = x by omega]
  rfl
theorem sv_1 (T : SS) {x : Nat} (h : x < 72) : sv T (15 * x + 1) = T.1 20 x := by
  unfold sv
  rw [if_pos (by omega), show (15 * x + 1) % 15 = 1 by omega, show (15 * x + 1) / 15 = x by omega]
  rfl
theorem sv_2 (T : SS) {x : Nat} (h : x < 72) : sv T (15 * x + 2) = T.1 21 x := by
  unfold sv
  rw [if_pos (by omega), show (15 * x + 2) % 15 = 2 by omega, show (15 * x + 2) / 15 = x by omega]
  rfl
theorem sv_3 (T : SS) {x : Nat} (h : x < 72) : sv T (15 * x + 3) = T.1 22 x := by
  unfold sv
  rw [if_pos (by omega), show (15 * x + 3) % 15 = 3 by omega, show (15 * x + 3) / 15 = x by omega]
  rfl
theorem sv_4 (T : SS) {x : Nat} (h : x < 72) : sv T (15 * x + 4) = T.1 23 (2 * x) := by
  unfold sv
  rw [if_pos (by omega), show (15 * x + 4) % 15 = 4 by omega, show (15 * x + 4) / 15 = x by omega]
  rfl
theorem sv_5 (T : SS) {x : Nat} (h : x < 72) : sv T (15 * x + 5) = T.1 23 (2 * x + 1) := by
  unfold sv
  rw [if_pos (by omega), show (15 * x + 5) % 15 = 5 by omega, show (15 * x + 5) / 15 = x by omega]
  rfl
theorem sv_6 (T : SS) {x : Nat} (h : x < 72) : sv T (15 * x + 6) = T.1 24 x := by
  unfold sv
  rw [if_pos (by omega), show (15 * x + 6) % 15 = 6 by omega, show (15 * x + 6) / 15 = x by omega]
  rfl
theorem sv_7 (T : SS) {x : Nat} (h : x < 72) : sv T (15 * x + 7) = T.1 25 x := by
  unfold sv
  rw [if_pos (by omega), show (15 * x + 7) % 15 = 7 by omega, show (15 * x + 7) / 15 = x by omega]
  rfl
theorem sv_8 (T : SS) {x : Nat} (h : x < 72) : sv T (15 * x + 8) = T.1 26 x := by
  unfold sv
  rw [if_pos (by omega), show (15 * x + 8) % 15 = 8 by omega, show (15 * x + 8) / 15 = x by omega]
  rfl
theorem sv_9 (T : SS) {x : Nat} (h : x < 72) : sv T (15 * x + 9) = T.1 27 x := by
  unfold sv
  rw [if_pos (by omega), show (15 * x + 9) % 15 = 9 by omega, show (15 * x + 9) / 15 = x by omega]
  rfl
theorem sv_10 (T : SS) {x : Nat} (h : x < 72) : sv T (15 * x + 10) = T.1 30 x := by
  unfold sv
  rw [if_pos (by omega), show (15 * x + 10) % 15 = 10 by omega, show (15 * x + 10) / 15 = x by omega]
  rfl
theorem sv_11 (T : SS) {x : Nat} (h : x < 72) : sv T (15 * x + 11) = (if T.1 31 x = 0 then 0 else 1) := by
  unfold sv
  rw [if_pos (by omega), show (15 * x + 11) % 15 = 11 by omega, show (15 * x + 11) / 15 = x by omega]
  rfl
theorem sv_12 (T : SS) {x : Nat} (h : x < 72) : sv T (15 * x + 12) = T.1 32 x := by
  unfold sv
  rw [if_pos (by omega), show (15 * x + 12) % 15 = 12 by omega, show (15 * x + 12) / 15 = x by omega]
  rfl
theorem sv_13 (T : SS) {x : Nat} (h : x < 72) : sv T (15 * x + 13) = T.1 33 x := by
  unfold sv
  rw [if_pos (by omega), show (15 * x + 13) % 15 = 13 by omega, show (15 * x + 13) / 15 = x by omega]
  rfl
theorem sv_14 (T : SS) {x : Nat} (h : x < 72) : sv T (15 * x + 14) = (if T.1 34 x = 0 then 0 else 1) := by
  unfold sv
  rw [if_pos (by omega), show (15 * x + 14) % 15 = 14 by omega, show (15 * x + 14) / 15 = x by omega]
  rfl
theorem sv_s (T : SS) {p : Nat} (h : p < 40) : sv T (1080 + 2 * p) = T.1 10 p := by
  unfold sv
  rw [if_neg (by omega), if_pos (by omega), if_pos (by omega), show (1080 + 2 * p - 1080) / 2 = p by omega]
theorem sv_l (T : SS) {p : Nat} (h : p < 40) : sv T (1080 + 2 * p + 1) = T.1 11 p := by
  unfold sv
  rw [if_neg (by omega), if_pos (by omega), if_neg (by omega), show (1080 + 2 * p + 1 - 1080) / 2 = p by omega]
theorem sv_d (T : SS) : sv T 1160 = T.1 0 48 := by
  unfold sv
  rw [if_neg (by omega), if_neg (by omega)]
/-- U is T with the numbers of T's world written from b to hi -/
def AG (T : SS) (b hi : Nat) (U : SS) : Prop := (∀ a, a ≠ 40 → U.1 a = T.1 a) ∧ U.2 = T.2 ∧ ∀ i, U.1 40 i = if b ≤ i ∧ i < hi then sv T (i - b) else T.1 40 i
theorem AG.w {T U : SS} {b hi i : Nat} {v : Int32} (h : AG T b hi U) (hb : b ≤ hi) (hi' : i = hi) (hv : v = sv T (hi - b)) : AG T b (hi + 1) (st U 40 i v) := by
  subst hi'
  refine ⟨fun a ha => by rw [st_row _ _ _ _ ha]; exact h.1 a ha, h.2.1, fun j => ?_⟩
  rw [st_at, if_pos rfl]
  by_cases e : j = i
  · rw [if_pos e, if_pos (by omega), e, hv]
  · rw [if_neg e, h.2.2 j]
    by_cases q : b ≤ j ∧ j < i
    · rw [if_pos q, if_pos (by omega)]
    · rw [if_neg q, if_neg (by omega)]
theorem ag_w {T U : SS} {b hi i : Nat} {v : Int32} {f : SS → Option SS} {V : SS → Prop} (h : AG T b hi U) (hb : b ≤ hi) (hi' : i = hi) (hv : v = sv T (hi - b)) (kk : ∀ U', AG T b (hi + 1) U' → Ew (f U') V) : Ew (wr U 40 i v f) V := kk _ (h.w hb hi' hv)
theorem clz (z t : Nat) (h : z + t < 2 ^ 31) : (nI z + nI t).toNatClampNeg = z + t := by rw [nI_add, nI_clamp h]
theorem AG.r {T U : SS} {b hi : Nat} (h : AG T b hi U) (a : Nat) (ha : a ≠ 40) (i : Nat) : U.1 a i = T.1 a i := by rw [h.1 a ha]
section SVL
variable {T : SS} {K8 : Int32 → Int32 → SS → Option SS} {b z j : Nat} {V : SS → Prop}
theorem sw_j260 {U : SS} {y0 y1 : Int32} (h : AG T b (z + 14) U) (hy : y1 = nI (z + 14)) (hv : y0 = sv T (15 * j + 14)) (hj : j < 72) (hz : z = b + 15 * j) (hb : z + 15 ≤ 18576) (kk : ∀ U, AG T b (z + 15) U → Ew (K8 (nI (z + 15)) (nI (j + 1)) U) V) : Ew (f_M_save_j260 K8 (nI z) (nI j) y0 y1 U) V := by
  subst hy
  refine v_eq (f_M_save_j260.eq_1 _ _ _ _ _ _) ?_
  refine v_grd (inb_nI (by omega) (by omega)) ?_
  refine ag_w h (by omega) (nI_clamp (by omega)) (by rw [hv]; congr 1; omega) (fun U h => ?_)
  refine v_nm ?_
  refine v_nm ?_
  rw [show nI z + 15 = nI (z + 15) from nI_add z 15, show nI j + 1 = nI (j + 1) from nI_add j 1]
  exact kk U h
theorem sw_j207 {U : SS} {y0 y1 : Int32} (h : AG T b (z + 11) U) (hy : y1 = nI (z + 11)) (hv : y0 = sv T (15 * j + 11)) (hj : j < 72) (hz : z = b + 15 * j) (hb : z + 15 ≤ 18576) (kk : ∀ U, AG T b (z + 15) U → Ew (K8 (nI (z + 15)) (nI (j + 1)) U) V) : Ew (f_M_save_j207 K8 (nI z) (nI j) y0 y1 U) V := by
  subst hy
  have hz2 : ∀ t, z + t - b = 15 * j + t := fun t => by omega
  refine v_eq (f_M_save_j207.eq_1 _ _ _ _ _ _) ?_
  refine v_grd (inb_nI (by omega) (by omega)) ?_
  refine ag_w h (by omega) (nI_clamp (by omega)) (by rw [hv, hz2]) (fun U h => ?_)
  refine v_grd (inb_nI hj (by omega)) ?_
  refine v_grd (inb_of (nI_add z 12) (by omega) (by omega)) ?_
  refine ag_w h (by omega) (clz z 12 (by omega)) (by rw [nI_clamp (by omega), h.r 32 (by decide), hz2 12, sv_12 T hj]) (fun U h => ?_)
  refine v_grd (inb_nI hj (by omega)) ?_
  refine v_grd (inb_of (nI_add z 13) (by omega) (by omega)) ?_
  refine ag_w h (by omega) (clz z 13 (by omega)) (by rw [nI_clamp (by omega), h.r 33 (by decide), hz2 13, sv_13 T hj]) (fun U h => ?_)
  refine v_grd (inb_nI hj (by omega)) ?_
  rw [nI_clamp (n := j) (by omega), h.r 34 (by decide)]
  refine v_i (fun q => ?_) (fun q => ?_)
  · exact sw_j260 h (nI_add z 14) (by rw [sv_14 T hj, if_pos q]) hj hz hb kk
  · exact sw_j260 h (nI_add z 14) (by rw [sv_14 T hj, if_neg q]) hj hz hb kk
theorem sw_j33 {U : SS} {y0 y1 : Int32} (h : AG T b z U) (hy : y1 = nI z) (hv : y0 = sv T (15 * j + 0)) (hj : j < 72) (hz : z = b + 15 * j) (hb : z + 15 ≤ 18576) (kk : ∀ U, AG T b (z + 15) U → Ew (K8 (nI (z + 15)) (nI (j + 1)) U) V) : Ew (f_M_save_j33 K8 (nI z) (nI j) y0 y1 U) V := by
  subst hy
  have hz2 : ∀ t, z + t - b = 15 * j + t := fun t => by omega
  refine v_eq (f_M_save_j33.eq_1 _ _ _ _ _ _) ?_
  refine v_grd (inb_nI (by omega) (by omega)) ?_
  refine ag_w h (by omega) (nI_clamp (by omega)) (by rw [hv]; congr 1; omega) (fun U h => ?_)
  refine v_grd (inb_nI hj (by omega)) ?_
  refine v_grd (inb_of (nI_add z 1) (by omega) (by omega)) ?_
  refine ag_w h (by omega) (clz z 1 (by omega)) (by rw [nI_clamp (by omega), h.r 20 (by decide), hz2 1, sv_1 T hj]) (fun U h => ?_)
  refine v_grd (inb_nI hj (by omega)) ?_
  refine v_grd (inb_of (nI_add z 2) (by omega) (by omega)) ?_
  refine ag_w h (by omega) (clz z 2 (by omega)) (by rw [nI_clamp (by omega), h.r 21 (by decide), hz2 2, sv_2 T hj]) (fun U h => ?_)
  refine v_grd (inb_nI hj (by omega)) ?_
  refine v_grd (inb_of (nI_add z 3) (by omega) (by omega)) ?_
  refine ag_w h (by omega) (clz z 3 (by omega)) (by rw [nI_clamp (by omega), h.r 22 (by decide), hz2 3, sv_3 T hj]) (fun U h => ?_)
  refine v_grd (inb_of (nI_mul 2 j) (by omega) (by omega)) ?_
  refine v_grd (inb_of (nI_add z 4) (by omega) (by omega)) ?_
  refine ag_w h (by omega) (clz z 4 (by omega)) (by rw [show (2 : Int32) * nI j = nI (2 * j) from nI_mul 2 j, nI_clamp (by omega), h.r 23 (by decide), hz2 4, sv_4 T hj]) (fun U h => ?_)
  refine v_grd (inb_of (x := (2 : Int32) * nI j + 1) (j := 2 * j + 1) (by rw [show (2 : Int32) * nI j = nI (2 * j) from nI_mul 2 j]; exact nI_add (2 * j) 1) (by omega) (by omega)) ?_
  refine v_grd (inb_of (nI_add z 5) (by omega) (by omega)) ?_
  refine ag_w h (by omega) (clz z 5 (by omega)) (by rw [show (2 : Int32) * nI j = nI (2 * j) from nI_mul 2 j, nI_1, nI_clamp (by omega), h.r 23 (by decide), hz2 5, sv_5 T hj]) (fun U h => ?_)
  refine v_grd (inb_nI hj (by omega)) ?_
  refine v_grd (inb_of (nI_add z 6) (by omega) (by omega)) ?_
  refine ag_w h (by omega) (clz z 6 (by omega)) (by rw [nI_clamp (by omega), h.r 24 (by decide), hz2 6, sv_6 T hj]) (fun U h => ?_)
  refine v_grd (inb_nI hj (by omega)) ?_
  refine v_grd (inb_of (nI_add z 7) (by omega) (by omega)) ?_
  refine ag_w h (by omega) (clz z 7 (by omega)) (by rw [nI_clamp (by omega), h.r 25 (by decide), hz2 7, sv_7 T hj]) (fun U h => ?_)
  refine v_grd (inb_nI hj (by omega)) ?_
  refine v_grd (inb_of (nI_add z 8) (by omega) (by omega)) ?_
  refine ag_w h (by omega) (clz z 8 (by omega)) (by rw [nI_clamp (by omega), h.r 26 (by decide), hz2 8, sv_8 T hj]) (fun U h => ?_)
  refine v_grd (inb_nI hj (by omega)) ?_
  refine v_grd (inb_of (nI_add z 9) (by omega) (by omega)) ?_
  refine ag_w h (by omega) (clz z 9 (by omega)) (by rw [nI_clamp (by omega), h.r 27 (by decide), hz2 9, sv_9 T hj]) (fun U h => ?_)
  refine v_grd (inb_nI hj (by omega)) ?_
  refine v_grd (inb_of (nI_add z 10) (by omega) (by omega)) ?_
  refine ag_w h (by omega) (clz z 10 (by omega)) (by rw [nI_clamp (by omega), h.r 30 (by decide), hz2 10, sv_10 T hj]) (fun U h => ?_)
  refine v_grd (inb_nI hj (by omega)) ?_
  rw [nI_clamp (n := j) (by omega), h.r 31 (by decide)]
  refine v_i (fun q => ?_) (fun q => ?_)
  · exact sw_j207 h (nI_add z 11) (by rw [sv_11 T hj, if_pos q]) hj hz hb kk
  · exact sw_j207 h (nI_add z 11) (by rw [sv_11 T hj, if_neg q]) hj hz hb kk
end SVL
theorem sw_L272 {T : SS} {b : Nat} : ∀ (n p z : Nat) (U : SS), AG T b z U → 40 < n + p → p ≤ 40 → z = b + 1080 + 2 * p → b + 1161 ≤ 18576 → Ew (f_M_save_L272 n (nI z) (nI p) U) (AG T b (b + 1161))
  | 0, p, z, U, h, h1, h2, h3, h4 => by omega
  | n + 1, p, z, U, h, h1, h2, h3, h4 => by
    refine v_eq (f_M_save_L272.eq_2 _ _ _ _) ?_
    have hz2 : z - b = 1080 + 2 * p := by omega
    have hz3 : z + 1 - b = 1080 + 2 * p + 1 := by omega
    refine v_i (fun q => ?_) (fun q => ?_)
    · have hp : p = 40 := by
        rcases Nat.lt_or_ge p 40 with e | e
        · exact absurd q (nI_ge (b := 40) e (by omega))
        · omega
      subst hp
      refine v_grd (inb_nI (by omega) (by omega)) ?_
      refine ag_w h (by omega) (nI_clamp (by omega)) (by rw [h.r 0 (by decide), hz2]; exact (sv_d T).symm) (fun U h => ?_)
      rw [show z + 1 = b + 1161 by omega] at h
      exact v_some h
    · have hp : p < 40 := by
        rcases Nat.lt_or_ge p 40 with e | e
        · exact e
        · exact absurd (nI_le (a := 40) e (by omega)) q
      refine v_grd (inb_nI hp (by omega)) ?_
      refine v_grd (inb_nI (by omega) (by omega)) ?_
      refine ag_w h (by omega) (nI_clamp (by omega)) (by rw [nI_clamp (by omega), h.r 10 (by decide), hz2, sv_s T hp]) (fun U h => ?_)
      refine v_grd (inb_nI hp (by omega)) ?_
      refine v_grd (inb_of (nI_add z 1) (by omega) (by omega)) ?_
      refine ag_w h (by omega) (clz z 1 (by omega)) (by rw [nI_clamp (by omega), h.r 11 (by decide), hz3, sv_l T hp]) (fun U h => ?_)
      refine v_nm ?_
      refine v_nm ?_
      rw [show nI z + 2 = nI (z + 2) from nI_add z 2, show nI p + 1 = nI (p + 1) from nI_add p 1]
      exact sw_L272 n (p + 1) (z + 2) U h (by omega) (by omega) (by omega) h4
theorem sw_L8 {T : SS} {b : Nat} : ∀ (n j z : Nat) (U : SS), AG T b z U → 72 < n + j → j ≤ 72 → z = b + 15 * j → b + 1161 ≤ 18576 → Ew (f_M_save_L8 n (nI z) (nI j) U) (AG T b (b + 1161))
  | 0, j, z, U, h, h1, h2, h3, h4 => by omega
  | n + 1, j, z, U, h, h1, h2, h3, h4 => by
    refine v_eq (f_M_save_L8.eq_2 _ _ _ _) ?_
    refine v_i (fun q => ?_) (fun q => ?_)
    · have hj : j = 72 := by
        rcases Nat.lt_or_ge j 72 with e | e
        · exact absurd q (nI_ge (b := 72) e (by omega))
        · omega
      exact sw_L272 NF 0 z U h (by have : NF = 100000 := rfl; omega) (by omega) (by omega) h4
    · have hj : j < 72 := by
        rcases Nat.lt_or_ge j 72 with e | e
        · exact e
        · exact absurd (nI_le (a := 72) e (by omega)) q
      refine v_grd (inb_nI hj (by omega)) ?_
      have kk : ∀ U, AG T b (z + 15) U → Ew (f_M_save_L8 n (nI (z + 15)) (nI (j + 1)) U) (AG T b (b + 1161)) := fun U h => sw_L8 n (j + 1) (z + 15) U h (by omega) (by omega) (by omega) h4
      rw [nI_clamp (n := j) (by omega), h.r 19 (by decide)]
      refine v_i (fun q => ?_) (fun q => ?_)
      · exact sw_j33 (K8 := fun v0 v1 S => f_M_save_L8 n v0 v1 S) h rfl (by rw [sv_0 T hj, if_pos q]) hj h3 (by omega) kk
      · exact sw_j33 (K8 := fun v0 v1 S => f_M_save_L8 n v0 v1 S) h rfl (by rw [sv_0 T hj, if_neg q]) hj h3 (by omega) kk
theorem sw_save (T : SS) {k : Nat} (hk : k < 16) : Ew (f_M_save (nI k) T) (AG T (1161 * k) (1161 * k + 1161)) := by
  refine v_eq (f_M_save.eq_1 _ _) ?_
  refine v_nm ?_
  rw [show (1161 : Int32) * nI k = nI (1161 * k) from nI_mul 1161 k]
  have h0 : AG T (1161 * k) (1161 * k) T := ⟨fun _ _ => rfl, rfl, fun i => by rw [if_neg (by omega)]⟩
  exact sw_L8 NF 0 (1161 * k) T h0 (by have : NF = 100000 := rfl; omega) (by omega) (by omega) (by omega)
theorem AC.congr {n : Nat} {c c' : Nat → Int32} (h : AC n c) (e : ∀ x s, x < n → s < 2 → c' (2 * x + s) = c (2 * x + s)) : AC n c' := by
  obtain ⟨pos, dir, h1, h2⟩ := h
  refine ⟨pos, dir, h1, fun x s hx hs => ?_⟩
  rcases h2 x s hx hs with q | ⟨o, t, ho, ht, e1, e2, q⟩
  · exact Or.inl ((e x s hx hs).trans q)
  · exact Or.inr ⟨o, t, ho, ht, (e x s hx hs).trans e1, (e o t ho ht).trans e2, q⟩
theorem KO.congr {n s s' : Nat} {K K' : Nat → Int32} (hn : n ≤ 72) (h : KO n K s) (e : ∀ j, j < 1161 → K' (1161 * s' + j) = K (1161 * s + j)) : KO n K' s' := by
  obtain ⟨h1, h2, h3⟩ := h
  have e2 : ∀ x t, x < 72 → t < 15 → K' (1161 * s' + 15 * x + t) = K (1161 * s + 15 * x + t) := fun x t hx ht => by
    rw [Nat.add_assoc, Nat.add_assoc]; exact e _ (by omega)
  refine ⟨h1.congr (fun x d hx hd => ?_), fun x hx => ?_, fun p hp => ?_⟩
  · show K' _ = K _
    rw [show (2 * x + d) / 2 = x by omega, show (2 * x + d) % 2 = d by omega]
    exact e2 x (4 + d) (by omega) (by omega)
  · rw [e2 x 1 hx (by omega), e2 x 3 hx (by omega), e2 x 4 hx (by omega), e2 x 5 hx (by omega), e2 x 8 hx (by omega), e2 x 9 hx (by omega), e2 x 13 hx (by omega)]
    exact h2 x hx
  · rw [Nat.add_assoc, e _ (by omega), ← Nat.add_assoc]
    exact h3 p hp
theorem KO.new {n k : Nat} {T U : SS} (hn : n ≤ 72) (hR : RO T) (hA : AC n (T.1 23)) (h : AG T (1161 * k) (1161 * k + 1161) U) : KO n (U.1 40) k := by
  have e : ∀ j, j < 1161 → U.1 40 (1161 * k + j) = sv T j := fun j hj => by
    rw [h.2.2, if_pos (by omega), show 1161 * k + j - 1161 * k = j by omega]
  have e2 : ∀ x t, x < 72 → t < 15 → U.1 40 (1161 * k + 15 * x + t) = sv T (15 * x + t) := fun x t hx ht => by
    rw [Nat.add_assoc]; exact e _ (by omega)
  refine ⟨hA.congr (fun x d hx hd => ?_), fun x hx => ?_, fun p hp => ?_⟩
  · show U.1 40 _ = _
    rw [show (2 * x + d) / 2 = x by omega, show (2 * x + d) % 2 = d by omega, e2 x (4 + d) (by omega) (by omega)]
    rcases (show d = 0 ∨ d = 1 by omega) with r | r
    · subst r; exact sv_4 T (by omega)
    · subst r; exact sv_5 T (by omega)
  · rw [e2 x 1 hx (by omega), e2 x 3 hx (by omega), e2 x 4 hx (by omega), e2 x 5 hx (by omega), e2 x 8 hx (by omega), e2 x 9 hx (by omega), e2 x 13 hx (by omega), sv_1 T hx, sv_3 T hx, sv_4 T hx, sv_5 T hx, sv_8 T hx, sv_9 T hx, sv_13 T hx]
    exact ⟨hR 20 x, hR 22 x, hR 23 _, hR 23 _, hR 26 x, hR 27 x, hR 33 x⟩
  · rw [Nat.add_assoc, e _ (by omega), sv_s T hp]
    exact hR 10 p
theorem RO.ag {T U : SS} {b hi : Nat} (hR : RO T) (h : AG T b hi U) : RO U := by
  intro k i
  by_cases e : k = 40
  · subst e; exact trivial
  · rw [h.1 k e]; exact hR k i
theorem AG.fr {T U : SS} {b hi : Nat} (h : AG T b hi U) : Fr [40] [] T U := ⟨fun a b q => by
  by_cases e : a = 40
  · subst e; cases q
  · rw [h.1 a e], h.2.1⟩
/-- behind save into the first free place for undo() -/
theorem keep_j50 {S0 S : SS} {n u : Nat} (hF : Fr [40] [(0, 60), (0, 61)] S0 S) (hR : RO S) (hn : n ≤ 72) (h29 : S.1 0 29 = nI n) (hA : AC n (S.1 23)) (hu : u < 8) (h60 : S.1 0 60 = nI u) (hK : ∀ s, s < u → KO n (S.1 40) s) (h2 : J2 S) : Ew (f_M_keep_j50 S) (fun U => WR U ∧ Fr [40] [(0, 60), (0, 61)] S0 U) := by
  refine v_eq (f_M_keep_j50.eq_1 _) ?_
  rw [h60]
  refine v_cV (sw_save S (k := u) (by omega)) (fun T hT => ?_)
  have f0 := hT.fr
  have hR0 := hR.ag hT
  refine v_wrO (fun V eV hV vV => ?_)
  rw [(f0.1 0 60 rfl).trans h60, nI_1] at eV vV
  have hR1 : RO V := RO.st (k := 0) (i := 60) hR0 (rg_nI (j := u + 1) (by omega) (by omega) (by omega)) eV
  refine v_wrO (fun U eU hU vU => ?_)
  have hR2 : RO U := RO.st (k := 0) (i := 61) hR1 (rgl 0 0 8 rfl) eU
  have e40 : ∀ b, U.1 40 b = T.1 40 b := fun b => by rw [hU.1 40 b rfl, hV.1 40 b rfl]
  have hFF := ((hF.tr f0 rfl).tr hV rfl).tr hU rfl
  refine v_some ⟨⟨hR2, ⟨n, hn, ?_, ?_, u + 1, 0, by omega, (hU.1 0 60 rfl).trans vV, vU, fun s hs => ?_, fun s hs => by omega⟩, ?_⟩, hFF⟩
  · rw [hU.1 0 29 rfl, hV.1 0 29 rfl, f0.1 0 29 rfl]; exact h29
  · rw [show U.1 23 = S.1 23 from funext fun b => by rw [hU.1 23 b rfl, hV.1 23 b rfl, f0.1 23 b rfl]]; exact hA
  · rw [show U.1 40 = T.1 40 from funext e40]
    by_cases hs2 : s = u
    · subst hs2; exact KO.new hn hR hA hT
    · refine (hK s (by omega)).congr hn (fun j hj => ?_)
      rw [hT.2.2, if_neg (by omega)]
  · exact h2.of (by rw [hU.1 64 6 rfl, hV.1 64 6 rfl, f0.1 64 6 rfl]) (by rw [hU.1 64 7 rfl, hV.1 64 7 rfl, f0.1 64 7 rfl])
theorem keep_L11 {S0 T : SS} {n : Nat} (hRT : RO T) (hn : n ≤ 72) (h29 : T.1 0 29 = nI n) (hA : AC n (T.1 23)) (h60 : T.1 0 60 = nI 8) (hK : ∀ s, s < 8 → KO n (T.1 40) s) (h2 : J2 T) (hF : Fr [40] [(0, 60), (0, 61)] S0 T) : ∀ (N m : Nat) (S : SS), (∀ a, a ≠ 40 → S.1 a = T.1 a) → S.2 = T.2 → (∀ i, S.1 40 i = if i < m then T.1 40 (i + 1161) else T.1 40 i) → m ≤ 8127 → 8127 < N + m → Ew (f_M_keep_L11 N (nI m) S) (fun U => WR U ∧ Fr [40] [(0, 60), (0, 61)] S0 U)
  | 0, m, S, e1, e2, e3, hm, hN => by omega
  | N + 1, m, S, e1, e2, e3, hm, hN => by
    refine v_eq (f_M_keep_L11.eq_2 _ _ _) ?_
    have hFS : Fr [40] [] T S := ⟨fun a b q => by
      by_cases e : a = 40
      · subst e; cases q
      · rw [e1 a e], e2⟩
    refine v_i (fun q => ?_) (fun q => ?_)
    · have hm : m = 8127 := by
        rcases Nat.lt_or_ge m 8127 with e | e
        · exact absurd q (nI_ge (b := 8127) e (by omega))
        · omega
      subst hm
      have hRS : RO S := fun k i => by
        by_cases e : k = 40
        · subst e; exact trivial
        · rw [e1 k e]; exact hRT k i
      refine v_wrO (fun V eV hV vV => ?_)
      rw [e1 0 (by decide), h60, nI_pred] at eV vV
      have hRV : RO V := RO.st (k := 0) (i := 60) hRS (rg_nI (j := 7) (by omega) (by omega) (by omega)) eV
      refine keep_j50 (n := n) (u := 7) ((hF.tr hFS rfl).tr hV rfl) hRV hn ?_ ?_ (by omega) vV (fun s hs => ?_) ?_
      · rw [hV.1 0 29 rfl, e1 0 (by decide)]; exact h29
      · rw [show V.1 23 = T.1 23 from funext fun b => by rw [hV.1 23 b rfl, e1 23 (by decide)]]; exact hA
      · refine (hK (s + 1) (by omega)).congr hn (fun j hj => ?_)
        rw [hV.1 40 _ rfl, e3, if_pos (by omega)]
        exact congrArg (T.1 40) (by omega)
      · exact h2.of (by rw [hV.1 64 6 rfl, e1 64 (by decide)]) (by rw [hV.1 64 7 rfl, e1 64 (by decide)])
    · have hm : m < 8127 := by
        rcases Nat.lt_or_ge m 8127 with e | e
        · exact e
        · exact absurd (nI_le (a := 8127) e (by omega)) q
      refine v_grd (inb_of (nI_add m 1161) (by omega) (by omega)) ?_
      refine v_grd (inb_nI (by omega) (by omega)) ?_
      refine v_wr ?_
      refine v_nm ?_
      rw [nI_1, nI_clamp (n := m) (by omega), show (nI m + 1161).toNatClampNeg = m + 1161 from clz m 1161 (by omega)]
      refine keep_L11 hRT hn h29 hA h60 hK h2 hF N (m + 1) _ (fun a ha => by rw [st_row _ _ _ _ ha]; exact e1 a ha) e2 (fun i => ?_) (by omega) (by omega)
      rw [st_at, if_pos rfl]
      by_cases e : i = m
      · rw [if_pos e, e3, if_neg (by omega), if_pos (by omega), e]
      · rw [if_neg e, e3]
        by_cases e' : i < m
        · rw [if_pos e', if_pos (by omega)]
        · rw [if_neg e', if_neg (by omega)]
theorem t_M_keep {S : SS} (hW : WR S) : Ew (f_M_keep S) (fun U => WR U ∧ Fr [40] [(0, 60), (0, 61)] S U) := by
  obtain ⟨n, hn, h29, hA, u, b, hub, h60, h61, hK, hB⟩ := hW.2.1
  refine v_eq (f_M_keep.eq_1 _) ?_
  refine v_i (fun q => ?_) (fun q => ?_)
  · have hu : u = 8 := (nI_eq (b := 8) (by omega) (by omega)).mp (h60.symm.trans q)
    subst hu
    exact keep_L11 hW.1 hn h29 hA h60 hK hW.2.2 Fr.rf NF 0 S (fun _ _ => rfl) rfl (fun i => by rw [if_neg (by omega)]) (by omega) (by have : NF = 100000 := rfl; omega)
  · have hu : u ≠ 8 := fun e => q (by rw [h60, e]; rfl)
    exact keep_j50 Fr.rf hW.1 hn h29 hA (by omega) h60 hK hW.2.2
