/-! ===== rules for the pure functions ===== -/
def Ex2 {α : Type} (x : Option (α × SS)) (P : α → SS → Prop) : Prop := ∃ r S, x = some (r, S) ∧ P r S
def Ew (x : Option SS) (P : SS → Prop) : Prop := ∃ S, x = some S ∧ P S
section EV
variable {α : Type} {P : α → SS → Prop} {V : SS → Prop} {x y : Option (α × SS)} {v w : Option SS} {S : SS} {c : Prop} {b : Bool}
theorem e_some {r : α} (h : P r S) : Ex2 (some (r, S)) P := ⟨r, S, rfl, h⟩
theorem v_some (h : V S) : Ew (some S) V := ⟨S, rfl, h⟩
theorem e_t [Decidable c] (hc : c) (h : Ex2 x P) : Ex2 (if c then x else y) P := by rw [if_pos hc]; exact h
theorem e_f [Decidable c] (hc : ¬ c) (h : Ex2 y P) : Ex2 (if c then x else y) P := by rw [if_neg hc]; exact h
theorem v_t [Decidable c] (hc : c) (h : Ew v V) : Ew (if c then v else w) V := by rw [if_pos hc]; exact h
theorem v_f [Decidable c] (hc : ¬ c) (h : Ew w V) : Ew (if c then v else w) V := by rw [if_neg hc]; exact h
theorem e_i [Decidable c] (h1 : c → Ex2 x P) (h2 : ¬ c → Ex2 y P) : Ex2 (if c then x else y) P := by
  by_cases h : c
  · exact e_t h (h1 h)
  · exact e_f h (h2 h)
theorem v_i [Decidable c] (h1 : c → Ew v V) (h2 : ¬ c → Ew w V) : Ew (if c then v else w) V := by
  by_cases h : c
  · exact v_t h (h1 h)
  · exact v_f h (h2 h)
theorem e_bnd {z : Option (Int32 × SS)} {g : Int32 → SS → Option (α × SS)} (h : Ex2 z (fun r S => Ex2 (g r S) P)) : Ex2 (bnd z g) P := by
  obtain ⟨r, S, rfl, h⟩ := h; exact h
theorem e_bndl {z : Option (Int64 × SS)} {g : Int64 → SS → Option (α × SS)} (h : Ex2 z (fun r S => Ex2 (g r S) P)) : Ex2 (bndl z g) P := by
  obtain ⟨r, S, rfl, h⟩ := h; exact h
theorem e_bndv {z : Option SS} {g : SS → Option (α × SS)} (h : Ew z (fun S => Ex2 (g S) P)) : Ex2 (bndv z g) P := by
  obtain ⟨S, rfl, h⟩ := h; exact h
theorem v_bnd {z : Option (Int32 × SS)} {g : Int32 → SS → Option SS} (h : Ex2 z (fun r S => Ew (g r S) V)) : Ew (bnd z g) V := by
  obtain ⟨r, S, rfl, h⟩ := h; exact h
theorem v_bndv {z : Option SS} {g : SS → Option SS} (h : Ew z (fun S => Ew (g S) V)) : Ew (bndv z g) V := by
  obtain ⟨S, rfl, h⟩ := h; exact h
theorem e_grd (hb : b = true) (h : Ex2 x P) : Ex2 (grd b x) P := by subst hb; exact h
theorem v_grd (hb : b = true) (h : Ew v V) : Ew (grd b v) V := by subst hb; exact h
theorem e_nm {β : Type} {a : β} {f : β → Option (α × SS)} (h : Ex2 (f a) P) : Ex2 (nm a f) P := h
theorem v_nm {β : Type} {a : β} {f : β → Option SS} (h : Ew (f a) V) : Ew (nm a f) V := h
theorem e_wr {k i : Nat} {u : Int32} {f : SS → Option (α × SS)} (h : Ex2 (f (st S k i u)) P) : Ex2 (wr S k i u f) P := h
theorem v_wr {k i : Nat} {u : Int32} {f : SS → Option SS} (h : Ew (f (st S k i u)) V) : Ew (wr S k i u f) V := h
theorem e_cpw {k0 k1 a d n : Nat} {f : SS → Option (α × SS)} (h : Ex2 (f (cp S k0 k1 a d n)) P) : Ex2 (cpw S k0 k1 a d n f) P := h
theorem v_cpw {k0 k1 a d n : Nat} {f : SS → Option SS} (h : Ew (f (cp S k0 k1 a d n)) V) : Ew (cpw S k0 k1 a d n f) V := h
theorem e_eq (e : x = y) (h : Ex2 y P) : Ex2 x P := by rw [e]; exact h
theorem v_eq (e : v = w) (h : Ew w V) : Ew v V := by rw [e]; exact h
theorem e_mono {P' : α → SS → Prop} (h : Ex2 x P) (hP : ∀ r S, P r S → P' r S) : Ex2 x P' := by
  obtain ⟨r, S, e, h⟩ := h; exact ⟨r, S, e, hP r S h⟩
theorem v_mono {V' : SS → Prop} (h : Ew v V) (hV : ∀ S, V S → V' S) : Ew v V' := by
  obtain ⟨S, e, h⟩ := h; exact ⟨S, e, hV S h⟩
end EV
theorem st_at (S : SS) (k i : Nat) (v : Int32) (a b : Nat) : (st S k i v).1 a b = if a = k then (if b = i then v else S.1 a b) else S.1 a b := by
  by_cases h : a = k
  · subst h; simp [st, upd]
  · simp [st, h]
theorem st_row (S : SS) (k i : Nat) (v : Int32) {a : Nat} (h : a ≠ k) : (st S k i v).1 a = S.1 a := by simp [st, h]
theorem st_2 (S : SS) (k i : Nat) (v : Int32) : (st S k i v).2 = S.2 := rfl
theorem cp_row (S : SS) (k0 k1 a d n : Nat) {q : Nat} (h : q ≠ k1) : (cp S k0 k1 a d n).1 q = S.1 q := by simp [cp, h]
theorem cp_2 (S : SS) (k0 k1 a d n : Nat) : (cp S k0 k1 a d n).2 = S.2 := rfl
theorem inb_i {x : Int32} {n : Nat} (h0 : 0 ≤ x.toInt) (h1 : x.toInt < n) : inb x n = true := by
  have e0 : ¬ x < 0 := by rw [Int32.lt_iff_toInt_lt, Int32.toInt_zero]; omega
  have e1 : x.toNatClampNeg = x.toInt.toNat := rfl
  simp only [inb, e0, e1, decide_false, Bool.not_false, Bool.true_and, decide_eq_true_eq]
  omega
theorem inb_nI {j n : Nat} (h : j < n) (hn : n < 2 ^ 31) : inb (nI j) n = true := inb_i (by rw [nI_toInt (by omega)]; omega) (by rw [nI_toInt (by omega)]; omega)
theorem inb_of {x : Int32} {j n : Nat} (hx : x = nI j) (h : j < n) (hn : n < 2 ^ 31) : inb x n = true := by subst hx; exact inb_nI h hn
theorem nI_mul (a b : Nat) : nI a * nI b = nI (a * b) := (Int32.ofNat_mul a b).symm
theorem gh_1 (S : SS) (d : Nat) : (gh S d).1 = S.1 := rfl
theorem kb_81 : kb = 81 := rfl
theorem s0_0_0 : S0.1 0 0 = 0 := rfl
theorem s0_0_1 : S0.1 0 1 = (-4) := rfl
theorem s0_0_2 : S0.1 0 2 = 0 := rfl
theorem s0_0_3 : S0.1 0 3 = (-4) := rfl
theorem s0_0_5 : S0.1 0 5 = 0 := rfl
theorem s0_0_7 : S0.1 0 7 = 0 := rfl
theorem s0_0_14 : S0.1 0 14 = 0 := rfl
theorem s0_0_15 : S0.1 0 15 = 0 := rfl
theorem s0_0_19 : S0.1 0 19 = 0 := rfl
theorem s0_0_26 : S0.1 0 26 = 0 := rfl
theorem s0_0_27 : S0.1 0 27 = 0 := rfl
theorem s0_0_28 : S0.1 0 28 = 0 := rfl
theorem s0_0_29 : S0.1 0 29 = 0 := rfl
theorem s0_0_47 : S0.1 0 47 = 0 := rfl
theorem s0_0_48 : S0.1 0 48 = 0 := rfl
theorem s0_0_49 : S0.1 0 49 = 0 := rfl
theorem s0_0_54 : S0.1 0 54 = 0 := rfl
theorem s0_0_56 : S0.1 0 56 = 0 := rfl
theorem s0_0_57 : S0.1 0 57 = 0 := rfl
theorem s0_0_58 : S0.1 0 58 = 0 := rfl
theorem s0_0_60 : S0.1 0 60 = 0 := rfl
theorem s0_0_61 : S0.1 0 61 = 0 := rfl
theorem s0_0_62 : S0.1 0 62 = 0 := rfl
theorem s0_0_66 : S0.1 0 66 = 0 := rfl
theorem s0_0_67 : S0.1 0 67 = 0 := rfl
theorem s0_0_70 : S0.1 0 70 = 0 := rfl
theorem s0_0_76 : S0.1 0 76 = (-4) := rfl
theorem s0_0_77 : S0.1 0 77 = 0 := rfl
theorem s0_0_81 : S0.1 0 81 = 0 := rfl
theorem s0_1 (j : Nat) : S0.1 1 j = 0 := rfl
theorem s0_2 (j : Nat) : S0.1 2 j = 0 := rfl
theorem s0_3 (j : Nat) : S0.1 3 j = 0 := rfl
theorem s0_4 (j : Nat) : S0.1 4 j = 0 := rfl
theorem s0_5 (j : Nat) : S0.1 5 j = if j < 48 then (-4 : Int32) else 0 := rfl
theorem s0_6 (j : Nat) : S0.1 6 j = 0 := rfl
theorem s0_7 (j : Nat) : S0.1 7 j = 0 := rfl
theorem s0_8 (j : Nat) : S0.1 8 j = 0 := rfl
theorem s0_9 (j : Nat) : S0.1 9 j = 0 := rfl
theorem s0_10 (j : Nat) : S0.1 10 j = 0 := rfl
theorem s0_11 (j : Nat) : S0.1 11 j = 0 := rfl
theorem s0_12 (j : Nat) : S0.1 12 j = 0 := rfl
theorem s0_13 (j : Nat) : S0.1 13 j = 0 := rfl
theorem s0_14 (j : Nat) : S0.1 14 j = 0 := rfl
theorem s0_15 (j : Nat) : S0.1 15 j = 0 := rfl
theorem s0_16 (j : Nat) : S0.1 16 j = 0 := rfl
theorem s0_17 (j : Nat) : S0.1 17 j = 0 := rfl
theorem s0_18 (j : Nat) : S0.1 18 j = 0 := rfl
theorem s0_19 (j : Nat) : S0.1 19 j = 0 := rfl
theorem s0_20 (j : Nat) : S0.1 20 j = 0 := rfl
theorem s0_21 (j : Nat) : S0.1 21 j = 0 := rfl
theorem s0_22 (j : Nat) : S0.1 22 j = 0 := rfl
theorem s0_23 (j : Nat) : S0.1 23 j = 0 := rfl
theorem s0_24 (j : Nat) : S0.1 24 j = 0 := rfl
theorem s0_25 (j : Nat) : S0.1 25 j = 0 := rfl
theorem s0_26 (j : Nat) : S0.1 26 j = 0 := rfl
theorem s0_27 (j : Nat) : S0.1 27 j = 0 := rfl
theorem s0_28 (j : Nat) : S0.1 28 j = 0 := rfl
theorem s0_29 (j : Nat) : S0.1 29 j = 0 := rfl
theorem s0_30 (j : Nat) : S0.1 30 j = 0 := rfl
theorem s0_31 (j : Nat) : S0.1 31 j = 0 := rfl
theorem s0_32 (j : Nat) : S0.1 32 j = 0 := rfl
theorem s0_33 (j : Nat) : S0.1 33 j = 0 := rfl
theorem s0_34 (j : Nat) : S0.1 34 j = 0 := rfl
theorem s0_35 (j : Nat) : S0.1 35 j = 0 := rfl
theorem s0_36 (j : Nat) : S0.1 36 j = 0 := rfl
theorem s0_37 (j : Nat) : S0.1 37 j = 0 := rfl
theorem s0_38 (j : Nat) : S0.1 38 j = if j < 8 then (-4 : Int32) else 0 := rfl
theorem s0_39 (j : Nat) : S0.1 39 j = 0 := rfl
theorem s0_40 (j : Nat) : S0.1 40 j = 0 := rfl
theorem s0_41 (j : Nat) : S0.1 41 j = 0 := rfl
theorem s0_42 (j : Nat) : S0.1 42 j = 0 := rfl
theorem s0_43 (j : Nat) : S0.1 43 j = 0 := rfl
theorem s0_44 (j : Nat) : S0.1 44 j = 0 := rfl
theorem s0_45 (j : Nat) : S0.1 45 j = 0 := rfl
theorem s0_46 (j : Nat) : S0.1 46 j = if j < 4 then (5 : Int32) else 0 := rfl
theorem s0_47 (j : Nat) : S0.1 47 j = 0 := rfl
theorem s0_48 (j : Nat) : S0.1 48 j = 0 := rfl
theorem s0_49 (j : Nat) : S0.1 49 j = 0 := rfl
theorem s0_50 (j : Nat) : S0.1 50 j = 0 := rfl
theorem s0_51 (j : Nat) : S0.1 51 j = 0 := rfl
theorem s0_52 (j : Nat) : S0.1 52 j = 0 := rfl
theorem s0_53 (j : Nat) : S0.1 53 j = 0 := rfl
theorem s0_54 (j : Nat) : S0.1 54 j = 0 := rfl
theorem s0_55 (j : Nat) : S0.1 55 j = 0 := rfl
theorem s0_56 (j : Nat) : S0.1 56 j = 0 := rfl
theorem s0_57 (j : Nat) : S0.1 57 j = 0 := rfl
theorem s0_58 (j : Nat) : S0.1 58 j = 0 := rfl
theorem s0_59 (j : Nat) : S0.1 59 j = 0 := rfl
theorem s0_60 (j : Nat) : S0.1 60 j = 0 := rfl
theorem s0_62_2 : S0.1 62 2 = 0 := rfl
theorem s0_62_3 : S0.1 62 3 = 0 := rfl
theorem s0_62_4 : S0.1 62 4 = (-4) := rfl
theorem s0_62_5 : S0.1 62 5 = 0 := rfl
theorem s0_62_6 : S0.1 62 6 = (-4) := rfl
theorem s0_63_1 : S0.1 63 1 = 0 := rfl
theorem s0_64_3 : S0.1 64 3 = 0 := rfl
theorem s0_64_4 : S0.1 64 4 = 0 := rfl
theorem s0_64_5 : S0.1 64 5 = 0 := rfl
theorem s0_64_6 : S0.1 64 6 = 0 := rfl
theorem s0_64_7 : S0.1 64 7 = 0 := rfl
theorem s0_66_7 : S0.1 66 7 = 0 := rfl
theorem s0_66_8 : S0.1 66 8 = 0 := rfl
theorem s0_67_8 : S0.1 67 8 = 0 := rfl
theorem s0_68_4 : S0.1 68 4 = 0 := rfl
theorem s0_68_5 : S0.1 68 5 = 0 := rfl
theorem s0_70_7 : S0.1 70 7 = 0 := rfl
theorem s0_70_8 : S0.1 70 8 = 0 := rfl
theorem s0_71_5 : S0.1 71 5 = 0 := rfl
theorem s0_71_6 : S0.1 71 6 = 0 := rfl
theorem s0_71_7 : S0.1 71 7 = 0 := rfl
theorem s0_75 (j : Nat) : S0.1 75 j = 0 := rfl
theorem s0_76 (j : Nat) : S0.1 76 j = if j < 8 then (-4 : Int32) else 0 := rfl
theorem s0_77 (j : Nat) : S0.1 77 j = 0 := rfl
theorem s0_78 (j : Nat) : S0.1 78 j = 0 := rfl
theorem s0_79 (j : Nat) : S0.1 79 j = 0 := rfl
theorem s0_80 (j : Nat) : S0.1 80 j = 0 := rfl
theorem s0_81 (j : Nat) : S0.1 81 j = 0 := rfl
theorem s0_82 (j : Nat) : S0.1 82 j = 0 := rfl
theorem s0_83 (j : Nat) : S0.1 83 j = 0 := rfl
theorem s0_84 (j : Nat) : S0.1 84 j = 0 := rfl
theorem s0_85 (j : Nat) : S0.1 85 j = 0 := rfl
theorem s0_86 (j : Nat) : S0.1 86 j = 0 := rfl
theorem s0_87 (j : Nat) : S0.1 87 j = 0 := rfl
theorem s0_88 (j : Nat) : S0.1 88 j = 0 := rfl
theorem s0_89 (j : Nat) : S0.1 89 j = 0 := rfl
theorem s0_90 (j : Nat) : S0.1 90 j = 0 := rfl
theorem s0_91 (j : Nat) : S0.1 91 j = 0 := rfl
theorem s0_92 (j : Nat) : S0.1 92 j = 0 := rfl
theorem s0_93 (j : Nat) : S0.1 93 j = 0 := rfl
theorem s0_94 (j : Nat) : S0.1 94 j = if j < 48 then (-4 : Int32) else 0 := rfl
theorem s0_95 (j : Nat) : S0.1 95 j = 0 := rfl
theorem s0_96 (j : Nat) : S0.1 96 j = 0 := rfl
theorem s0_97 (j : Nat) : S0.1 97 j = 0 := rfl
theorem s0_98 (j : Nat) : S0.1 98 j = 0 := rfl
theorem s0_99 (j : Nat) : S0.1 99 j = 0 := rfl
theorem s0_100 (j : Nat) : S0.1 100 j = 0 := rfl
theorem s0_101 (j : Nat) : S0.1 101 j = 0 := rfl
theorem s0_102 (j : Nat) : S0.1 102 j = 0 := rfl
theorem s0_103 (j : Nat) : S0.1 103 j = 0 := rfl
theorem s0_104 (j : Nat) : S0.1 104 j = 0 := rfl
theorem s0_105 (j : Nat) : S0.1 105 j = 0 := rfl
theorem s0_106 (j : Nat) : S0.1 106 j = if j < 4 then (5 : Int32) else 0 := rfl
theorem s0_107 (j : Nat) : S0.1 107 j = 0 := rfl
theorem s0_108 (j : Nat) : S0.1 108 j = 0 := rfl
theorem s0_109 (j : Nat) : S0.1 109 j = 0 := rfl
theorem s0_110 (j : Nat) : S0.1 110 j = 0 := rfl
theorem s0_111 (j : Nat) : S0.1 111 j = 0 := rfl
theorem s0_112 (j : Nat) : S0.1 112 j = 0 := rfl
theorem s0_113 (j : Nat) : S0.1 113 j = 0 := rfl
theorem s0_114 (j : Nat) : S0.1 114 j = 0 := rfl
theorem s0_115 (j : Nat) : S0.1 115 j = 0 := rfl
theorem s0_116 (j : Nat) : S0.1 116 j = 0 := rfl
theorem s0_117 (j : Nat) : S0.1 117 j = 0 := rfl
theorem s0_118 (j : Nat) : S0.1 118 j = 0 := rfl
theorem s0_119 (j : Nat) : S0.1 119 j = 0 := rfl
theorem s0_120 (j : Nat) : S0.1 120 j = 0 := rfl
theorem s0_121 (j : Nat) : S0.1 121 j = 0 := rfl
theorem s0_122 (j : Nat) : S0.1 122 j = 0 := rfl
theorem s0_123 (j : Nat) : S0.1 123 j = 0 := rfl
theorem s0_124 (j : Nat) : S0.1 124 j = 0 := rfl
theorem s0_125 (j : Nat) : S0.1 125 j = 0 := rfl
theorem s0_126 (j : Nat) : S0.1 126 j = 0 := rfl
theorem s0_127 (j : Nat) : S0.1 127 j = 0 := rfl
theorem s0_len (j : Nat) : S0.2 j = 0 := rfl
/-- T is S but for the cell 40 (the reference's kept rows) -/
def ag (S T : SS) : Prop := (∀ a, a ≠ 40 → T.1 a = S.1 a) ∧ T.2 = S.2
theorem v_wr40 {S T : SS} {V : SS → Prop} {i : Nat} {u : Int32} {f : SS → Option SS} (h : ag S T) (kk : ∀ T', ag S T' → Ew (f T') V) : Ew (wr T 40 i u f) V :=
  kk _ ⟨fun a ha => by rw [st_row _ _ _ _ ha]; exact h.1 a ha, h.2⟩
theorem s_L272 {S : SS} : ∀ (n j z : Nat) (T : SS), ag S T → 40 < n + j → j ≤ 40 → z + 2 * (40 - j) < 18576 → Ew (f_M_save_L272 n (nI z) (nI j) T) (ag S)
  | 0, j, z, T, h, h1, h2, h3 => by omega
  | n + 1, j, z, T, h, h1, h2, h3 => by
    refine v_eq (f_M_save_L272.eq_2 _ _ _ _) ?_
    refine v_i (fun q => ?_) (fun q => ?_)
    · refine v_grd (inb_nI (by omega) (by omega)) ?_
      refine v_wr40 h (fun T h => ?_)
      exact v_some h
    · have hj : j < 40 := by
        rcases Nat.lt_or_ge j 40 with e | e
        · exact e
        · exact absurd (nI_le (a := 40) e (by omega)) q
      refine v_grd (inb_nI hj (by omega)) ?_
      refine v_grd (inb_nI (by omega) (by omega)) ?_
      refine v_wr40 h (fun T h => ?_)
      refine v_grd (inb_nI hj (by omega)) ?_
      refine v_grd (inb_of (nI_add z 1) (by omega) (by omega)) ?_
      refine v_wr40 h (fun T h => ?_)
      refine v_nm ?_
      refine v_nm ?_
      rw [show nI z + 2 = nI (z + 2) from nI_add z 2, show nI j + 1 = nI (j + 1) from nI_add j 1]
      exact s_L272 n (j + 1) (z + 2) T h (by omega) (by omega) (by omega)
theorem NF_s : NF = 99999 + 1 := rfl
theorem NF_gt : 30000 ≤ NF := by decide
section SV
variable {S : SS} {K8 : Int32 → Int32 → SS → Option SS} {z j : Nat}
theorem s_j260 {T : SS} {y0 y1 : Int32} (h : ag S T) (hy : inb y1 18576 = true) (kk : ∀ T, ag S T → Ew (K8 (nI (z + 15)) (nI (j + 1)) T) (ag S)) : Ew (f_M_save_j260 K8 (nI z) (nI j) y0 y1 T) (ag S) := by
  refine v_eq (f_M_save_j260.eq_1 _ _ _ _ _ _) ?_
  refine v_grd hy ?_
  refine v_wr40 h (fun T h => ?_)
  refine v_nm ?_
  refine v_nm ?_
  rw [show nI z + 15 = nI (z + 15) from nI_add z 15, show nI j + 1 = nI (j + 1) from nI_add j 1]
  exact kk T h
theorem s_j207 {T : SS} {y0 y1 : Int32} (h : ag S T) (hy : inb y1 18576 = true) (hj : j < 72) (hz : z + 15 ≤ 18576) (kk : ∀ T, ag S T → Ew (K8 (nI (z + 15)) (nI (j + 1)) T) (ag S)) : Ew (f_M_save_j207 K8 (nI z) (nI j) y0 y1 T) (ag S) := by
  refine v_eq (f_M_save_j207.eq_1 _ _ _ _ _ _) ?_
  refine v_grd (hy) ?_
  refine v_wr40 h (fun T h => ?_)
  refine v_grd (inb_nI hj (by omega)) ?_
  refine v_grd (inb_of (nI_add z 12) (by omega) (by omega)) ?_
  refine v_wr40 h (fun T h => ?_)
  refine v_grd (inb_nI hj (by omega)) ?_
  refine v_grd (inb_of (nI_add z 13) (by omega) (by omega)) ?_
  refine v_wr40 h (fun T h => ?_)
  refine v_grd (inb_nI hj (by omega)) ?_
  refine v_i (fun q => ?_) (fun q => ?_)
  · exact s_j260 h (inb_of (nI_add z 14) (by omega) (by omega)) kk
  · exact s_j260 h (inb_of (nI_add z 14) (by omega) (by omega)) kk

theorem s_j33 {T : SS} {y0 y1 : Int32} (h : ag S T) (hy : inb y1 18576 = true) (hj : j < 72) (hz : z + 15 ≤ 18576) (kk : ∀ T, ag S T → Ew (K8 (nI (z + 15)) (nI (j + 1)) T) (ag S)) : Ew (f_M_save_j33 K8 (nI z) (nI j) y0 y1 T) (ag S) := by
  refine v_eq (f_M_save_j33.eq_1 _ _ _ _ _ _) ?_
  refine v_grd (hy) ?_
  refine v_wr40 h (fun T h => ?_)
  refine v_grd (inb_nI hj (by omega)) ?_
  refine v_grd (inb_of (nI_add z 1) (by omega) (by omega)) ?_
  refine v_wr40 h (fun T h => ?_)
  refine v_grd (inb_nI hj (by omega)) ?_
  refine v_grd (inb_of (nI_add z 2) (by omega) (by omega)) ?_
  refine v_wr40 h (fun T h => ?_)
  refine v_grd (inb_nI hj (by omega)) ?_
  refine v_grd (inb_of (nI_add z 3) (by omega) (by omega)) ?_
  refine v_wr40 h (fun T h => ?_)
  refine v_grd (inb_of (nI_mul 2 j) (by omega) (by omega)) ?_
  refine v_grd (inb_of (nI_add z 4) (by omega) (by omega)) ?_
  refine v_wr40 h (fun T h => ?_)
  refine v_grd (inb_of (x := (2 : Int32) * nI j + 1) (j := 2 * j + 1) (by rw [show (2 : Int32) * nI j = nI (2 * j) from nI_mul 2 j]; exact nI_add (2 * j) 1) (by omega) (by omega)) ?_
  refine v_grd (inb_of (nI_add z 5) (by omega) (by omega)) ?_
  refine v_wr40 h (fun T h => ?_)
  refine v_grd (inb_nI hj (by omega)) ?_
  refine v_grd (inb_of (nI_add z 6) (by omega) (by omega)) ?_
  refine v_wr40 h (fun T h => ?_)
  refine v_grd (inb_nI hj (by omega)) ?_
  refine v_grd (inb_of (nI_add z 7) (by omega) (by omega)) ?_
  refine v_wr40 h (fun T h => ?_)
  refine v_grd (inb_nI hj (by omega)) ?_
  refine v_grd (inb_of (nI_add z 8) (by omega) (by omega)) ?_
  refine v_wr40 h (fun T h => ?_)
  refine v_grd (inb_nI hj (by omega)) ?_
  refine v_grd (inb_of (nI_add z 9) (by omega) (by omega)) ?_
  refine v_wr40 h (fun T h => ?_)
  refine v_grd (inb_nI hj (by omega)) ?_
  refine v_grd (inb_of (nI_add z 10) (by omega) (by omega)) ?_
  refine v_wr40 h (fun T h => ?_)
  refine v_grd (inb_nI hj (by omega)) ?_
  refine v_i (fun q => ?_) (fun q => ?_)
  · exact s_j207 h (inb_of (nI_add z 11) (by omega) (by omega)) hj hz kk
  · exact s_j207 h (inb_of (nI_add z 11) (by omega) (by omega)) hj hz kk

end SV
theorem s_L8 {S : SS} : ∀ (n j z : Nat) (T : SS), ag S T → 72 < n + j → j ≤ 72 → z + 15 * (72 - j) + 81 ≤ 18576 → Ew (f_M_save_L8 n (nI z) (nI j) T) (ag S)
  | 0, j, z, T, h, h1, h2, h3 => by omega
  | n + 1, j, z, T, h, h1, h2, h3 => by
    refine v_eq (f_M_save_L8.eq_2 _ _ _ _) ?_
    refine v_i (fun q => ?_) (fun q => ?_)
    · have hj : j = 72 := by
        rcases Nat.lt_or_ge j 72 with e | e
        · exact absurd q (nI_ge (b := 72) e (by omega))
        · omega
      exact s_L272 NF 0 z T h (by have := NF_gt; omega) (by omega) (by omega)
    · have hj : j < 72 := by
        rcases Nat.lt_or_ge j 72 with e | e
        · exact e
        · exact absurd (nI_le (a := 72) e (by omega)) q
      refine v_grd (inb_nI hj (by omega)) ?_
      have kk : ∀ T, ag S T → Ew (f_M_save_L8 n (nI (z + 15)) (nI (j + 1)) T) (ag S) := fun T h => s_L8 n (j + 1) (z + 15) T h (by omega) (by omega) (by omega)
      refine v_i (fun q => ?_) (fun q => ?_)
      · exact s_j33 (K8 := fun v0 v1 S => f_M_save_L8 n v0 v1 S) h (inb_nI (by omega) (by omega)) hj (by omega) kk
      · exact s_j33 (K8 := fun v0 v1 S => f_M_save_L8 n v0 v1 S) h (inb_nI (by omega) (by omega)) hj (by omega) kk
theorem s_save (T : SS) {k : Nat} (hk : k < 8) {V : SS → Prop} (kk : ∀ S', ag T S' → V S') : Ew (f_M_save (nI k) T) V := by
  refine v_eq (f_M_save.eq_1 _ _) ?_
  refine v_nm ?_
  rw [show (1161 : Int32) * nI k = nI (1161 * k) from nI_mul 1161 k]
  have h0 : ag T T := ⟨fun _ _ => rfl, rfl⟩
  exact v_mono (s_L8 NF 0 (1161 * k) T h0 (by have := NF_gt; omega) (by omega) (by omega)) kk
