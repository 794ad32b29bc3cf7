/-! ===== decode told exactly ===== -/
theorem ch_ok {n L : Nat} (hn : n ≤ 5) (hL : L < fcN n) : chOk n L = true := by
  have h := List.all_eq_true.mp chOk_all n (List.mem_range.mpr (by omega))
  exact List.all_eq_true.mp h L (List.mem_range.mpr hL)
theorem ch_i {n L : Nat} (hn : n ≤ 5) (hL : L < fcN n) : (∀ i, i < n → chU n L i < 32 ∧ chP n L i < n ∧ pk (chU n L i) 5 (dgA n L i) 0 = some (chP n L i) ∧ dgA n L i ≤ 5) ∧ leh (chP n L) n n 0 0 = L ∧ ∀ i j, i < n → j < n → chP n L i = chP n L j → i = j := by
  have h := ch_ok hn hL
  unfold chOk at h
  rw [Bool.and_eq_true, Bool.and_eq_true] at h
  obtain ⟨⟨h1, h2⟩, h3⟩ := h
  refine ⟨fun i hi => ?_, of_decide_eq_true h2, fun i j hi hj e => ?_⟩
  · have q := List.all_eq_true.mp h1 i (List.mem_range.mpr hi)
    rw [Bool.and_eq_true, Bool.and_eq_true, Bool.and_eq_true] at q
    exact ⟨of_decide_eq_true q.1.1.1, of_decide_eq_true q.1.1.2, of_decide_eq_true q.1.2, of_decide_eq_true q.2⟩
  · have q := List.all_eq_true.mp (List.all_eq_true.mp h3 i (List.mem_range.mpr hi)) j (List.mem_range.mpr hj)
    rw [e] at q
    simpa using q
theorem fcN_le {n : Nat} (hn : n ≤ 5) : fcN n ≤ 120 := by
  rcases (show n = 0 ∨ n = 1 ∨ n = 2 ∨ n = 3 ∨ n = 4 ∨ n = 5 by omega) with rfl | rfl | rfl | rfl | rfl | rfl <;> decide
theorem mN_of {S : SS} {s m : Nat} (h : S.1 58 s = nI m) (hm : m < 2 ^ 31) : mN S s = m := by
  unfold mN
  rw [h]
  exact nI_clamp hm
theorem off_fr {S U : SS} (h : ∀ s, U.1 58 s = S.1 58 s) : ∀ s, off U s = off S s
  | 0 => rfl
  | s + 1 => by
    show off U s + mN U s = off S s + mN S s
    rw [off_fr h s]
    unfold mN
    rw [h s]
theorem dex {S : SS} {n L m0 m1 m2 c : Nat} (hW : WR S) (h81 : S.1 0 81 = nI n) (hn : n ≤ 5) (hL : L < fcN n) (hm : m0 + m1 + m2 ≤ n) (hc : c = L * 216 + m0 * 36 + m1 * 6 + m2) : Ew (f_M_decode (nI c) S) (fun U => WR U ∧ Fr [57, 58, 59] [] S U ∧ mN U 0 = m0 ∧ mN U 1 = m1 ∧ mN U 2 = m2 ∧ mN U 3 = n - m0 - m1 - m2 ∧ ∀ s j, s < 4 → j < mN U s → U.1 57 (10 * s + j) = S.1 54 (chP n L (off U s + j))) := by
  have hf := fcN_le hn
  obtain ⟨g1, g2, g3⟩ := ch_i hn hL
  refine v_eq (f_M_decode.eq_1 _ _) ?_
  have a1 : nI c - nI c / (216 : Int32) * (216 : Int32) = nI (m0 * 36 + m1 * 6 + m2) := by
    refine (nI_rem (a := c) (b := 216) (by omega) (by omega) (by omega)).trans (congrArg nI (by omega))
  have a2 : nI c / (216 : Int32) = nI L := (nI_div (a := c) (b := 216) (by omega) (by omega) (by omega)).trans (congrArg nI (by omega))
  rw [a1, a2]
  refine v_nmG (fun z ez => ?_)
  have b0 : z / (36 : Int32) = nI m0 := by
    rw [ez]; exact (nI_div (b := 36) (by omega) (by omega) (by omega)).trans (congrArg nI (by omega))
  have b1' : z / (6 : Int32) = nI (m0 * 6 + m1) := by
    rw [ez]; exact (nI_div (b := 6) (by omega) (by omega) (by omega)).trans (congrArg nI (by omega))
  have b2 : z - z / (6 : Int32) * (6 : Int32) = nI m2 := by
    rw [ez]; exact (nI_rem (b := 6) (by omega) (by omega) (by omega)).trans (congrArg nI (by omega))
  have b1 : z / (6 : Int32) - z / (6 : Int32) / (6 : Int32) * (6 : Int32) = nI m1 := by
    rw [b1']; exact (nI_rem (b := 6) (by omega) (by omega) (by omega)).trans (congrArg nI (by omega))
  rw [b1, b2, b0]
  refine v_grd (by decide) ?_
  refine v_wrA (fun S2 e2 f2 w2 => ?_)
  have W2 := wo_58 hW (rg_nI (by omega) (by omega) (by omega)) e2
  refine v_grd (by decide) ?_
  refine v_wrA (fun S3 e3 f3 w3 => ?_)
  have W3 := wo_58 W2 (rg_nI (by omega) (by omega) (by omega)) e3
  refine v_grd (by decide) ?_
  refine v_wrA (fun S4 e4 f4 w4 => ?_)
  have W4 := wo_58 W3 (rg_nI (by omega) (by omega) (by omega)) e4
  have k0 : (0 : Int32).toNatClampNeg = 0 := by decide
  have k1 : (1 : Int32).toNatClampNeg = 1 := by decide
  have k2 : (2 : Int32).toNatClampNeg = 2 := by decide
  have k3 : (3 : Int32).toNatClampNeg = 3 := by decide
  rw [k0] at e2; rw [k1] at e3; rw [k2] at e4
  have c0 : S4.1 58 0 = nI m0 := by rw [e4, st_at, if_pos rfl, if_neg (by decide), e3, st_at, if_pos rfl, if_neg (by decide), e2, st_at, if_pos rfl, if_pos rfl]
  have c1 : S4.1 58 1 = nI m1 := by rw [e4, st_at, if_pos rfl, if_neg (by decide), e3, st_at, if_pos rfl, if_pos rfl]
  have c2 : S4.1 58 2 = nI m2 := by rw [e4, st_at, if_pos rfl, if_pos rfl]
  have F4 : Fr [58] [] S S4 := (f2.tr f3 rfl).tr f4 rfl
  have q81 : S4.1 0 81 = nI n := by rw [F4.1 0 81 rfl]; exact h81
  rw [k0, k1, k2, k3, c0, c1, c2, q81, nI_sb (a := n) (b := m0) (by omega) (by omega), nI_sb (a := n - m0) (b := m1) (by omega) (by omega), nI_sb (a := n - m0 - m1) (b := m2) (by omega) (by omega)]
  refine v_grd (by decide) ?_
  refine v_grd (by decide) ?_
  refine v_grd (by decide) ?_
  refine v_grd (by decide) ?_
  refine v_wrA (fun S5 e5 f5 w5 => ?_)
  have W5 := wo_58 W4 (rg_nI (by omega) (by omega) (by omega)) e5
  have F5 : Fr [58] [] S S5 := F4.tr f5 rfl
  have p81 : S5.1 0 81 = nI n := by rw [F5.1 0 81 rfl]; exact h81
  have d0 : mN S5 0 = m0 := mN_of (by rw [e5, st_at, if_pos rfl, if_neg (by decide)]; exact c0) (by omega)
  have d1 : mN S5 1 = m1 := mN_of (by rw [e5, st_at, if_pos rfl, if_neg (by decide)]; exact c1) (by omega)
  have d2 : mN S5 2 = m2 := mN_of (by rw [e5, st_at, if_pos rfl, if_neg (by decide)]; exact c2) (by omega)
  have d3 : mN S5 3 = n - m0 - m1 - m2 := mN_of (by rw [e5, st_at, if_pos rfl, if_pos rfl]) (by omega)
  refine v_nm ?_
  refine v_nm ?_
  rw [p81]
  refine de_L84 (L := L) p81 hn (by omega) (fun V hV hFV hd => ?_) NF 0 _ S5 W5 Fr.rf ?_ (fun i h1 h2 => by omega) (by have : NF = 100000 := rfl; omega)
  · have oV : ∀ s, V.1 58 s = S5.1 58 s := fun s => hFV.1 58 s rfl
    have mV : ∀ s, mN V s = mN S5 s := fun s => by unfold mN; rw [oV s]
    have o4 : off V 4 = n := by
      show 0 + mN V 0 + mN V 1 + mN V 2 + mN V 3 = n
      rw [mV, mV, mV, mV, d0, d1, d2, d3]
      omega
    have F54 : ∀ j, V.1 54 j = S.1 54 j := fun j => by rw [hFV.1 54 j rfl, F5.1 54 j rfl]
    have FV : Fr [57, 58, 59] [] S V := ((Fr.rf (L := [57, 58, 59]) (F := [])).tr F5 rfl).tr hFV rfl
    have r := de_L133 (S0 := S) (S := V) (n := n) (fl := dgA n L) (p := chP n L) (us := chU n L) hV FV (by rw [hFV.1 0 81 rfl]; exact p81) hn o4 (fun i hi => ⟨hd i hi, (g1 i hi).2.2.2⟩) (fun i hi => ⟨(g1 i hi).1, by have := (g1 i hi).2.1; omega, (g1 i hi).2.2.1, rfl⟩) NF 0 0 0 V hV Fr.rf (by omega) (by omega) rfl (fun s' j _ _ h => by omega) (by omega) (by have : NF = 100000 := rfl; omega)
    refine v_mono r (fun U hU => ?_)
    obtain ⟨u1, u2, u3, u4⟩ := hU
    have oU : ∀ s, U.1 58 s = V.1 58 s := fun s => u3.1 58 s rfl
    have mU : ∀ s, mN U s = mN V s := fun s => by unfold mN; rw [oU s]
    refine ⟨u1, u2, by rw [mU, mV, d0], by rw [mU, mV, d1], by rw [mU, mV, d2], by rw [mU, mV, d3], fun s j hs hj => ?_⟩
    rw [off_fr oU, u4 s j hs (by rw [← mU]; exact hj), F54]
  · by_cases c : n = 0
    · subst c
      exact Or.inl ⟨rfl, by decide⟩
    · exact Or.inr ⟨by omega, nI_sb (a := n) (b := 1) (by omega) (by omega)⟩
