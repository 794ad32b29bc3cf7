/-! ===== the class: orders ===== -/
theorem cpok_n {a d n n0 n1 : Nat} (h0 : a + n ≤ n0) (h1 : d + n ≤ n1) (l0 : n0 < 2 ^ 31) (l1 : n1 < 2 ^ 31) : cpok (nI a) (nI d) (nI n) n0 n1 = true := by
  unfold cpok
  rw [nI_clamp (n := a) (by omega), nI_clamp (n := d) (by omega), nI_clamp (n := n) (by omega)]
  simp only [Bool.and_eq_true, Bool.not_eq_true', decide_eq_false_iff_not, decide_eq_true_eq]
  exact ⟨⟨⟨⟨nI_nn (by omega), nI_nn (by omega)⟩, nI_nn (by omega)⟩, h0⟩, h1⟩
theorem v_cp {S : SS} {k0 k1 a d n : Nat} {f : SS → Option SS} {V : SS → Prop} (h : ∀ T, T = cp S k0 k1 a d n → Fr [k1] [] S T → Ew (f T) V) : Ew (cpw S k0 k1 a d n f) V := h _ rfl fr_cp
theorem cp_v {S T : SS} {k0 k1 a d n : Nat} (e : T = cp S k0 k1 a d n) (i : Nat) : T.1 k1 i = if d ≤ i ∧ i < d + n then S.1 k0 (a + (i - d)) else S.1 k1 i := by
  subst e
  show (if k1 = k1 then va_cpy (S.1 k0) (S.1 k1) a d n else S.1 k1) i = _
  rw [if_pos rfl]
  rfl
theorem qr_cp110 {S T : SS} {a d n : Nat} (h : QR S) (e : T = cp S 110 110 a d n) (g : Fr [110] [] S T) : QR T := by
  obtain ⟨h1, h2, h3, h4, h5, h6⟩ := h
  refine ⟨fun i => ?_, fun i => ?_, fun i => ?_, fun i => ?_, fun i => ?_, fun i => ?_⟩
  · rw [g.1 109 i rfl]; exact h1 i
  · rw [cp_v e]
    by_cases c : d ≤ i ∧ i < d + n
    · rw [if_pos c]; exact h2 _
    · rw [if_neg c]; exact h2 _
  · rw [g.1 111 i rfl]; exact h3 i
  · rw [g.1 116 i rfl]; exact h4 i
  · rw [g.1 119 i rfl]; exact h5 i
  · rw [g.1 120 i rfl]; exact h6 i
theorem qr_cp111 {S T : SS} {a d n : Nat} (h : QR S) (e : T = cp S 110 111 a d n) (g : Fr [111] [] S T) : QR T := by
  obtain ⟨h1, h2, h3, h4, h5, h6⟩ := h
  refine ⟨fun i => ?_, fun i => ?_, fun i => ?_, fun i => ?_, fun i => ?_, fun i => ?_⟩
  · rw [g.1 109 i rfl]; exact h1 i
  · rw [g.1 110 i rfl]; exact h2 i
  · rw [cp_v e]
    by_cases c : d ≤ i ∧ i < d + n
    · rw [if_pos c]; exact h2 _
    · rw [if_neg c]; exact h3 _
  · rw [g.1 116 i rfl]; exact h4 i
  · rw [g.1 119 i rfl]; exact h5 i
  · rw [g.1 120 i rfl]; exact h6 i
theorem wr_c {S T : SS} {k0 k1 a d n : Nat} (h : WR S) (e : T = cp S k0 k1 a d n) (hv : ∀ i j, ok k1 i (S.1 k0 j)) (hj : ∀ i, jm k1 i = false) : WR T := by
  subst e
  exact wr_cp h hv hj
theorem lo_L4 {S : SS} {w : Nat} (hw : w ≤ 5) (h71 : S.1 71 5 = nI w) : ∀ (N k r : Nat) (T : SS), WR T → QR T → Fr [110] [] S T → r ≤ 120 → k ≤ w → w < N + k → Ew (f_Potentials_layOrder_L4 N (nI r) (nI k) T) (fun U => WR U ∧ QR U ∧ Fr [110] [] S U)
  | 0, k, r, T, hW, hR, hF, hr, hk, hN => by omega
  | N + 1, k, r, T, hW, hR, hF, hr, hk, hN => by
    refine v_eq (f_Potentials_layOrder_L4.eq_2 _ _ _ _) ?_
    rw [hF.1 71 5 rfl, h71]
    by_cases c : k = w
    · exact v_t (nI_le (by omega) (by omega)) (v_some ⟨hW, hR, hF⟩)
    · refine v_f (nI_ge (by omega) (by omega)) ?_
      have hm : r % (k + 1) < k + 1 := Nat.mod_lt _ (by omega)
      rw [nI_1, nI_rem (by omega) (by omega) (by omega), nI_div (by omega) (by omega) (by omega)]
      refine v_grd (nI_nz (by omega) (by omega)) ?_
      refine v_nm ?_
      refine v_grd (nI_nz (by omega) (by omega)) ?_
      refine v_nm ?_
      rw [nI_1, nI_sb (by omega) (by omega)]
      refine v_grd (cpok_n (by omega) (by omega) (by omega) (by omega)) ?_
      refine v_cp (fun T1 e1 g1 => ?_)
      have w1 := wr_c hW e1 (fun _ _ => trivial) (fun _ => rfl)
      have r1 := qr_cp110 hR e1 g1
      refine v_grd (inb_nI (by omega) (by omega)) ?_
      refine v_wrA (fun T2 e2 g2 v2 => ?_)
      have w2 := WR.st (k := 110) w1 trivial rfl e2
      have r2 := qr_110 (T := T1) r1 Fr.rf (rg_nI (j := k) (by omega) (by omega) (by omega)) e2
      refine v_nm ?_
      have hd : r / (k + 1) ≤ r := Nat.div_le_self _ _
      exact lo_L4 hw h71 N (k + 1) (r / (k + 1)) T2 w2 r2 (Fr.tr (Fr.tr hF g1 rfl) g2 rfl) (by omega) (by omega) (by omega)
theorem lox {S : SS} {w r : Nat} (hW : WR S) (hR : QR S) (hw : w ≤ 5) (h71 : S.1 71 5 = nI w) (hr : r ≤ 120) : Ew (f_Potentials_layOrder (nI r) S) (fun U => WR U ∧ QR U ∧ Fr [110] [] S U) := by
  refine v_eq (f_Potentials_layOrder.eq_1 _ _) ?_
  exact lo_L4 hw h71 NF 0 r S hW hR Fr.rf hr (by omega) (by have : NF = 100000 := rfl; omega)
def OF (S T : SS) : Prop := Fr [110, 111, 112, 115] [] S T
set_option maxHeartbeats 1000000 in
theorem lo_L35 {S : SS} {K : Int32 → Int32 → Int32 → SS → Option SS} {V : SS → Prop} {w o k j : Nat} (hw : w ≤ 5) (h71 : S.1 71 5 = nI w) (ho : 20 * o + 20 ≤ S.2 115) (h115 : S.2 115 ≤ 2400) (hk : k ≤ w) (hjk : j < k) (hK : ∀ U, WR U → QR U → OF S U → Ew (K (nI o) (nI k) (nI (j + 1)) U) V) : ∀ (N i : Nat) (T : SS), WR T → QR T → OF S T → i ≤ j → j < N + i → Ew (f_Potentials_listOrders_L35 K N (nI o) (nI k) (nI j) (nI i) T) V
  | 0, i, T, hW, hR, hF, hi, hN => by omega
  | N + 1, i, T, hW, hR, hF, hi, hN => by
    refine v_eq (f_Potentials_listOrders_L35.eq_2 _ _ _ _ _ _ _) ?_
    by_cases c : i = j
    · refine v_t (nI_le (by omega) (by omega)) ?_
      refine v_nm ?_
      rw [nI_1]
      exact hK T hW hR hF
    · have hij : i < j := by omega
      refine v_f (nI_ge hij (by omega)) ?_
      rw [hF.1 71 5 rfl, h71, show (0 : Int32) = nI 0 from rfl]
      refine v_grd (cpok_n (by omega) (by omega) (by omega) (by omega)) ?_
      refine v_cp (fun T1 e1 g1 => ?_)
      have w1 := wr_c hW e1 (fun _ _ => trivial) (fun _ => rfl)
      have r1 := qr_cp111 hR e1 g1
      rw [nI_sb (a := k) (b := j) (by omega) (by omega)]
      refine v_grd (cpok_n (by omega) (by omega) (by omega) (by omega)) ?_
      refine v_cp (fun T2 e2 g2 => ?_)
      have w2 := wr_c w1 e2 (fun _ _ => trivial) (fun _ => rfl)
      have r2 := qr_cp111 r1 e2 g2
      rw [nI_add, nI_sb (a := i + k) (b := j) (by omega) (by omega), nI_sb (a := j) (b := i) (by omega) (by omega)]
      refine v_grd (cpok_n (by omega) (by omega) (by omega) (by omega)) ?_
      refine v_cp (fun T3 e3 g3 => ?_)
      have w3 := wr_c w2 e3 (fun _ _ => trivial) (fun _ => rfl)
      have r3 := qr_cp111 r2 e3 g3
      have F3 : OF S T3 := Fr.tr (Fr.tr (Fr.tr hF g1 rfl) g2 rfl) g3 rfl
      refine v_cE (swx (i := i) (j := j) (k := k) (by omega) (by omega) (by omega)) (fun r T4 p => ?_)
      obtain ⟨p1, -, p2⟩ := p
      subst p1
      obtain ⟨p3, p4⟩ := p2 hij hjk
      subst p3
      refine v_cE (oox_swp w3 hw ((F3.1 71 5 rfl).trans h71) r3.2.2.1) (fun r5 T5 p => ?_)
      obtain ⟨w5, g5⟩ := p
      rw [g5.2, F3.2, show (20 : Int32) * nI o = nI (20 * o) from nI_mul 20 o, nI_add]
      refine v_grd (inb_nI (by omega) (by omega)) ?_
      refine v_wrA (fun T6 e6 g6 v6 => ?_)
      have w6 := WR.st (k := 115) w5 trivial rfl e6
      have F6 : OF S T6 := Fr.tr (Fr.tr F3 g5 rfl) g6 rfl
      have r6 : QR T6 := (r3.fr g5 (fun k hk i => by
        simp only [List.mem_cons, List.mem_nil_iff, or_false] at hk
        rcases hk with rfl | rfl | rfl | rfl | rfl | rfl <;> rfl)).fr g6 (fun k hk i => by
        simp only [List.mem_cons, List.mem_nil_iff, or_false] at hk
        rcases hk with rfl | rfl | rfl | rfl | rfl | rfl <;> rfl)
      refine v_nm ?_
      rw [nI_1]
      exact lo_L35 hw h71 ho h115 hk hjk hK N (i + 1) T6 w6 r6 F6 (by omega) (by omega)
theorem lo_L27 {S : SS} {K : Int32 → Int32 → SS → Option SS} {V : SS → Prop} {w o k : Nat} (hw : w ≤ 5) (h71 : S.1 71 5 = nI w) (ho : 20 * o + 20 ≤ S.2 115) (h115 : S.2 115 ≤ 2400) (hk : k ≤ w) (hK : ∀ U, WR U → QR U → OF S U → Ew (K (nI o) (nI (k + 1)) U) V) : ∀ (N j : Nat) (T : SS), WR T → QR T → OF S T → j ≤ k → k < N + j → Ew (f_Potentials_listOrders_L27 K N (nI o) (nI k) (nI j) T) V
  | 0, j, T, hW, hR, hF, hj, hN => by omega
  | N + 1, j, T, hW, hR, hF, hj, hN => by
    refine v_eq (f_Potentials_listOrders_L27.eq_2 _ _ _ _ _ _) ?_
    by_cases c : j = k
    · refine v_t (nI_le (by omega) (by omega)) ?_
      refine v_nm ?_
      rw [nI_1]
      exact hK T hW hR hF
    · refine v_f (nI_ge (by omega) (by omega)) ?_
      exact lo_L35 hw h71 ho h115 hk (by omega) (fun U u1 u2 u3 => lo_L27 hw h71 ho h115 hk hK N (j + 1) U u1 u2 u3 (by omega) (by omega)) NF 0 T hW hR hF (by omega) (by have : NF = 100000 := rfl; omega)
theorem lo_L17 {S : SS} {K : Int32 → SS → Option SS} {V : SS → Prop} {w o : Nat} (hw : w ≤ 5) (h71 : S.1 71 5 = nI w) (ho : 20 * o + 20 ≤ S.2 115) (h115 : S.2 115 ≤ 2400) (hK : ∀ U, WR U → QR U → OF S U → Ew (K (nI (o + 1)) U) V) : ∀ (N k : Nat) (T : SS), WR T → QR T → OF S T → 1 ≤ k → k ≤ w + 2 → w + 2 < N + k → Ew (f_Potentials_listOrders_L17 K N (nI o) (nI k) T) V
  | 0, k, T, hW, hR, hF, hk1, hk, hN => by omega
  | N + 1, k, T, hW, hR, hF, hk1, hk, hN => by
    refine v_eq (f_Potentials_listOrders_L17.eq_2 _ _ _ _ _) ?_
    rw [hF.1 71 5 rfl, h71]
    by_cases c : w < k
    · refine v_t ((nI_ltJ (by omega) (by omega)).mpr c) ?_
      refine v_nm ?_
      rw [nI_1]
      exact hK T hW hR hF
    · refine v_f (fun q => c ((nI_ltJ (by omega) (by omega)).mp q)) ?_
      exact lo_L27 hw h71 ho h115 (by omega) (fun U u1 u2 u3 => lo_L17 hw h71 ho h115 hK N (k + 1) U u1 u2 u3 (by omega) (by omega) (by omega)) NF 1 T hW hR hF (by omega) (by have : NF = 100000 := rfl; omega)
theorem lo_L2 {S : SS} {w W : Nat} (hw : w ≤ W) (hW5 : W ≤ 5) (h71 : S.1 71 5 = nI w) (h716 : S.1 71 6 = nI (fcN w)) (h115 : S.2 115 = fcN W * 20) : ∀ (N o : Nat) (T : SS), WR T → QR T → OF S T → o ≤ fcN w → fcN w < N + o → Ew (f_Potentials_listOrders_L2 N (nI o) T) (fun U => WR U ∧ QR U ∧ OF S U)
  | 0, o, T, hW, hR, hF, ho, hN => by omega
  | N + 1, o, T, hW, hR, hF, ho, hN => by
    have q := qn hw hW5
    refine v_eq (f_Potentials_listOrders_L2.eq_2 _ _ _) ?_
    rw [hF.1 71 6 rfl, h716]
    by_cases c : o = fcN w
    · exact v_t (nI_le (by omega) (by omega)) (v_some ⟨hW, hR, hF⟩)
    · refine v_f (nI_ge (by omega) (by omega)) ?_
      refine v_cV (lox hW hR (by omega : w ≤ 5) ((hF.1 71 5 rfl).trans h71) (by omega)) (fun T1 p => ?_)
      obtain ⟨w1, r1, g1⟩ := p
      exact lo_L17 (by omega) h71 (by omega) (by omega) (fun U u1 u2 u3 => lo_L2 hw hW5 h71 h716 h115 N (o + 1) U u1 u2 u3 (by omega) (by omega)) NF 2 T1 w1 r1 (Fr.tr hF g1 rfl) (by omega) (by omega) (by have : NF = 100000 := rfl; omega)
theorem lorx {S : SS} {w W : Nat} (hW : WR S) (hR : QR S) (hw : w ≤ W) (hW5 : W ≤ 5) (h71 : S.1 71 5 = nI w) (h716 : S.1 71 6 = nI (fcN w)) (h115 : S.2 115 = fcN W * 20) : Ew (f_Potentials_listOrders S) (fun U => WR U ∧ QR U ∧ OF S U) := by
  have q := qn hw hW5
  refine v_eq (f_Potentials_listOrders.eq_1 _) ?_
  exact lo_L2 hw hW5 h71 h716 h115 NF 0 S hW hR Fr.rf (by omega) (by have : NF = 100000 := rfl; omega)
