/-! ===== decode, by the bytes that it reads ===== -/
def btN (c : ByteArray) (p : Nat) : Option Nat := (c.data.toList[p]?).map UInt8.toNat
def tkN (c : ByteArray) (p k : Nat) : List Nat := ((c.data.toList.drop p).take k).map UInt8.toNat
theorem tk_bt (c : ByteArray) (p : Nat) {k i : Nat} (hi : i < k) : (tkN c p k)[i]? = btN c (p + i) := by
  unfold tkN btN
  rw [List.getElem?_map, List.getElem?_take, if_pos hi, List.getElem?_drop]
theorem u1_ok {c : ByteArray} {p n : Nat} (h : btN c p = some n) : (Reader.u1 : Decoder Nat) c p = .ok (n, p + 1) := by
  unfold btN at h
  cases e : c.data.toList[p]? with
  | none => rw [e] at h; cases h
  | some b =>
    rw [e] at h
    have h : some b.toNat = some n := h
    injection h with h
    obtain ⟨hl, eb⟩ := List.getElem?_eq_some_iff.mp e
    have hs : p < c.size := by
      show p < c.data.size
      rw [← Array.length_toList]
      exact hl
    have hg : c[p].toNat = n := by
      rw [← h, ← eb]
      rfl
    show (dite (p < c.size) (fun h => (do set (p + 1); pure c[p].toNat : Decoder Nat)) (fun _ => throw (HasTruncated.truncated p))) c p = _
    rw [dif_pos hs]
    show Except.ok (c[p].toNat, p + 1) = _
    rw [hg]
theorem u2_ok {c : ByteArray} {p a b : Nat} (h : btN c p = some a) (k : btN c (p + 1) = some b) : (Reader.u2 : Decoder Nat) c p = .ok (a * 256 + b, p + 2) := by
  show (do let x ← (Reader.u1 : Decoder Nat) c p; _) = _
  rw [u1_ok h]
  show (do let x ← (Reader.u1 : Decoder Nat) c (p + 1); _) = _
  rw [u1_ok k]
  rfl
theorem s1_ok {c : ByteArray} {p a : Nat} (h : btN c p = some a) : (Reader.s1 : Decoder Int) c p = .ok (Reader.signed 8 a, p + 1) := by
  show (do let x ← (Reader.u1 : Decoder Nat) c p; _) = _
  rw [u1_ok h]
  rfl
theorem s2_ok {c : ByteArray} {p a b : Nat} (h : btN c p = some a) (k : btN c (p + 1) = some b) : (Reader.s2 : Decoder Int) c p = .ok (Reader.signed 16 (a * 256 + b), p + 2) := by
  show (do let x ← (Reader.u2 : Decoder Nat) c p; _) = _
  rw [u2_ok h k]
  rfl
theorem tk_1 {c : ByteArray} {p a : Nat} (h : tkN c p 1 = [a]) : btN c p = some a := by
  rw [← Nat.add_zero p, ← tk_bt c p (i := 0) (k := 1) (by omega), h]
  rfl
theorem tk_2 {c : ByteArray} {p a b : Nat} (h : tkN c p 2 = [a, b]) : btN c p = some a ∧ btN c (p + 1) = some b := by
  refine ⟨?_, ?_⟩
  · rw [← Nat.add_zero p, ← tk_bt c p (i := 0) (k := 2) (by omega), h]
    rfl
  · rw [← tk_bt c p (i := 1) (k := 2) (by omega), h]
    rfl
theorem tk_3 {c : ByteArray} {p a b d : Nat} (h : tkN c p 3 = [a, b, d]) : btN c p = some a ∧ btN c (p + 1) = some b ∧ btN c (p + 1 + 1) = some d := by
  refine ⟨?_, ?_, ?_⟩
  · rw [← Nat.add_zero p, ← tk_bt c p (i := 0) (k := 3) (by omega), h]
    rfl
  · rw [← tk_bt c p (i := 1) (k := 3) (by omega), h]
    rfl
  · rw [Nat.add_assoc p 1 1, ← tk_bt c p (i := 2) (k := 3) (by omega), h]
    rfl
theorem dc_fin {c : ByteArray} {p l : Nat} {i : Instr} (e : (Decoder.instr p).runAt c p = .ok (i, p + l)) : decode c p = .ok (i, l) := by
  unfold decode
  rw [e]
  show Except.ok (_, p + l - p) = _
  rw [Nat.add_sub_cancel_left]
theorem dc_1 {c : ByteArray} {p : Nat} (h : tkN c p 1 = [1]) : decode c p = .ok (.aconst_null, 1) := by
  refine dc_fin ?_
  show (do let x ← (Reader.u1 : Decoder Nat) c p; _) = _
  rw [u1_ok (tk_1 h)]
  rfl
theorem dc_2 {c : ByteArray} {p : Nat} (h : tkN c p 1 = [2]) : decode c p = .ok (.iconst (-1), 1) := by
  refine dc_fin ?_
  show (do let x ← (Reader.u1 : Decoder Nat) c p; _) = _
  rw [u1_ok (tk_1 h)]
  rfl
theorem dc_3 {c : ByteArray} {p : Nat} (h : tkN c p 1 = [3]) : decode c p = .ok (.iconst 0, 1) := by
  refine dc_fin ?_
  show (do let x ← (Reader.u1 : Decoder Nat) c p; _) = _
  rw [u1_ok (tk_1 h)]
  rfl
theorem dc_4 {c : ByteArray} {p : Nat} (h : tkN c p 1 = [4]) : decode c p = .ok (.iconst 1, 1) := by
  refine dc_fin ?_
  show (do let x ← (Reader.u1 : Decoder Nat) c p; _) = _
  rw [u1_ok (tk_1 h)]
  rfl
theorem dc_5 {c : ByteArray} {p : Nat} (h : tkN c p 1 = [5]) : decode c p = .ok (.iconst 2, 1) := by
  refine dc_fin ?_
  show (do let x ← (Reader.u1 : Decoder Nat) c p; _) = _
  rw [u1_ok (tk_1 h)]
  rfl
theorem dc_6 {c : ByteArray} {p : Nat} (h : tkN c p 1 = [6]) : decode c p = .ok (.iconst 3, 1) := by
  refine dc_fin ?_
  show (do let x ← (Reader.u1 : Decoder Nat) c p; _) = _
  rw [u1_ok (tk_1 h)]
  rfl
theorem dc_7 {c : ByteArray} {p : Nat} (h : tkN c p 1 = [7]) : decode c p = .ok (.iconst 4, 1) := by
  refine dc_fin ?_
  show (do let x ← (Reader.u1 : Decoder Nat) c p; _) = _
  rw [u1_ok (tk_1 h)]
  rfl
theorem dc_8 {c : ByteArray} {p : Nat} (h : tkN c p 1 = [8]) : decode c p = .ok (.iconst 5, 1) := by
  refine dc_fin ?_
  show (do let x ← (Reader.u1 : Decoder Nat) c p; _) = _
  rw [u1_ok (tk_1 h)]
  rfl
theorem dc_9 {c : ByteArray} {p : Nat} (h : tkN c p 1 = [9]) : decode c p = .ok (.lconst 0, 1) := by
  refine dc_fin ?_
  show (do let x ← (Reader.u1 : Decoder Nat) c p; _) = _
  rw [u1_ok (tk_1 h)]
  rfl
theorem dc_10 {c : ByteArray} {p : Nat} (h : tkN c p 1 = [10]) : decode c p = .ok (.lconst 1, 1) := by
  refine dc_fin ?_
  show (do let x ← (Reader.u1 : Decoder Nat) c p; _) = _
  rw [u1_ok (tk_1 h)]
  rfl
theorem dc_26 {c : ByteArray} {p : Nat} (h : tkN c p 1 = [26]) : decode c p = .ok (.iload_n 0, 1) := by
  refine dc_fin ?_
  show (do let x ← (Reader.u1 : Decoder Nat) c p; _) = _
  rw [u1_ok (tk_1 h)]
  rfl
theorem dc_27 {c : ByteArray} {p : Nat} (h : tkN c p 1 = [27]) : decode c p = .ok (.iload_n 1, 1) := by
  refine dc_fin ?_
  show (do let x ← (Reader.u1 : Decoder Nat) c p; _) = _
  rw [u1_ok (tk_1 h)]
  rfl
theorem dc_28 {c : ByteArray} {p : Nat} (h : tkN c p 1 = [28]) : decode c p = .ok (.iload_n 2, 1) := by
  refine dc_fin ?_
  show (do let x ← (Reader.u1 : Decoder Nat) c p; _) = _
  rw [u1_ok (tk_1 h)]
  rfl
theorem dc_29 {c : ByteArray} {p : Nat} (h : tkN c p 1 = [29]) : decode c p = .ok (.iload_n 3, 1) := by
  refine dc_fin ?_
  show (do let x ← (Reader.u1 : Decoder Nat) c p; _) = _
  rw [u1_ok (tk_1 h)]
  rfl
theorem dc_30 {c : ByteArray} {p : Nat} (h : tkN c p 1 = [30]) : decode c p = .ok (.lload_n 0, 1) := by
  refine dc_fin ?_
  show (do let x ← (Reader.u1 : Decoder Nat) c p; _) = _
  rw [u1_ok (tk_1 h)]
  rfl
theorem dc_31 {c : ByteArray} {p : Nat} (h : tkN c p 1 = [31]) : decode c p = .ok (.lload_n 1, 1) := by
  refine dc_fin ?_
  show (do let x ← (Reader.u1 : Decoder Nat) c p; _) = _
  rw [u1_ok (tk_1 h)]
  rfl
theorem dc_32 {c : ByteArray} {p : Nat} (h : tkN c p 1 = [32]) : decode c p = .ok (.lload_n 2, 1) := by
  refine dc_fin ?_
  show (do let x ← (Reader.u1 : Decoder Nat) c p; _) = _
  rw [u1_ok (tk_1 h)]
  rfl
theorem dc_33 {c : ByteArray} {p : Nat} (h : tkN c p 1 = [33]) : decode c p = .ok (.lload_n 3, 1) := by
  refine dc_fin ?_
  show (do let x ← (Reader.u1 : Decoder Nat) c p; _) = _
  rw [u1_ok (tk_1 h)]
  rfl
theorem dc_42 {c : ByteArray} {p : Nat} (h : tkN c p 1 = [42]) : decode c p = .ok (.aload_n 0, 1) := by
  refine dc_fin ?_
  show (do let x ← (Reader.u1 : Decoder Nat) c p; _) = _
  rw [u1_ok (tk_1 h)]
  rfl
theorem dc_43 {c : ByteArray} {p : Nat} (h : tkN c p 1 = [43]) : decode c p = .ok (.aload_n 1, 1) := by
  refine dc_fin ?_
  show (do let x ← (Reader.u1 : Decoder Nat) c p; _) = _
  rw [u1_ok (tk_1 h)]
  rfl
theorem dc_44 {c : ByteArray} {p : Nat} (h : tkN c p 1 = [44]) : decode c p = .ok (.aload_n 2, 1) := by
  refine dc_fin ?_
  show (do let x ← (Reader.u1 : Decoder Nat) c p; _) = _
  rw [u1_ok (tk_1 h)]
  rfl
theorem dc_45 {c : ByteArray} {p : Nat} (h : tkN c p 1 = [45]) : decode c p = .ok (.aload_n 3, 1) := by
  refine dc_fin ?_
  show (do let x ← (Reader.u1 : Decoder Nat) c p; _) = _
  rw [u1_ok (tk_1 h)]
  rfl
theorem dc_46 {c : ByteArray} {p : Nat} (h : tkN c p 1 = [46]) : decode c p = .ok (.iaload, 1) := by
  refine dc_fin ?_
  show (do let x ← (Reader.u1 : Decoder Nat) c p; _) = _
  rw [u1_ok (tk_1 h)]
  rfl
theorem dc_50 {c : ByteArray} {p : Nat} (h : tkN c p 1 = [50]) : decode c p = .ok (.aaload, 1) := by
  refine dc_fin ?_
  show (do let x ← (Reader.u1 : Decoder Nat) c p; _) = _
  rw [u1_ok (tk_1 h)]
  rfl
theorem dc_51 {c : ByteArray} {p : Nat} (h : tkN c p 1 = [51]) : decode c p = .ok (.baload, 1) := by
  refine dc_fin ?_
  show (do let x ← (Reader.u1 : Decoder Nat) c p; _) = _
  rw [u1_ok (tk_1 h)]
  rfl
theorem dc_59 {c : ByteArray} {p : Nat} (h : tkN c p 1 = [59]) : decode c p = .ok (.istore_n 0, 1) := by
  refine dc_fin ?_
  show (do let x ← (Reader.u1 : Decoder Nat) c p; _) = _
  rw [u1_ok (tk_1 h)]
  rfl
theorem dc_60 {c : ByteArray} {p : Nat} (h : tkN c p 1 = [60]) : decode c p = .ok (.istore_n 1, 1) := by
  refine dc_fin ?_
  show (do let x ← (Reader.u1 : Decoder Nat) c p; _) = _
  rw [u1_ok (tk_1 h)]
  rfl
theorem dc_61 {c : ByteArray} {p : Nat} (h : tkN c p 1 = [61]) : decode c p = .ok (.istore_n 2, 1) := by
  refine dc_fin ?_
  show (do let x ← (Reader.u1 : Decoder Nat) c p; _) = _
  rw [u1_ok (tk_1 h)]
  rfl
theorem dc_62 {c : ByteArray} {p : Nat} (h : tkN c p 1 = [62]) : decode c p = .ok (.istore_n 3, 1) := by
  refine dc_fin ?_
  show (do let x ← (Reader.u1 : Decoder Nat) c p; _) = _
  rw [u1_ok (tk_1 h)]
  rfl
theorem dc_63 {c : ByteArray} {p : Nat} (h : tkN c p 1 = [63]) : decode c p = .ok (.lstore_n 0, 1) := by
  refine dc_fin ?_
  show (do let x ← (Reader.u1 : Decoder Nat) c p; _) = _
  rw [u1_ok (tk_1 h)]
  rfl
theorem dc_64 {c : ByteArray} {p : Nat} (h : tkN c p 1 = [64]) : decode c p = .ok (.lstore_n 1, 1) := by
  refine dc_fin ?_
  show (do let x ← (Reader.u1 : Decoder Nat) c p; _) = _
  rw [u1_ok (tk_1 h)]
  rfl
theorem dc_65 {c : ByteArray} {p : Nat} (h : tkN c p 1 = [65]) : decode c p = .ok (.lstore_n 2, 1) := by
  refine dc_fin ?_
  show (do let x ← (Reader.u1 : Decoder Nat) c p; _) = _
  rw [u1_ok (tk_1 h)]
  rfl
theorem dc_66 {c : ByteArray} {p : Nat} (h : tkN c p 1 = [66]) : decode c p = .ok (.lstore_n 3, 1) := by
  refine dc_fin ?_
  show (do let x ← (Reader.u1 : Decoder Nat) c p; _) = _
  rw [u1_ok (tk_1 h)]
  rfl
theorem dc_75 {c : ByteArray} {p : Nat} (h : tkN c p 1 = [75]) : decode c p = .ok (.astore_n 0, 1) := by
  refine dc_fin ?_
  show (do let x ← (Reader.u1 : Decoder Nat) c p; _) = _
  rw [u1_ok (tk_1 h)]
  rfl
theorem dc_76 {c : ByteArray} {p : Nat} (h : tkN c p 1 = [76]) : decode c p = .ok (.astore_n 1, 1) := by
  refine dc_fin ?_
  show (do let x ← (Reader.u1 : Decoder Nat) c p; _) = _
  rw [u1_ok (tk_1 h)]
  rfl
theorem dc_77 {c : ByteArray} {p : Nat} (h : tkN c p 1 = [77]) : decode c p = .ok (.astore_n 2, 1) := by
  refine dc_fin ?_
  show (do let x ← (Reader.u1 : Decoder Nat) c p; _) = _
  rw [u1_ok (tk_1 h)]
  rfl
theorem dc_78 {c : ByteArray} {p : Nat} (h : tkN c p 1 = [78]) : decode c p = .ok (.astore_n 3, 1) := by
  refine dc_fin ?_
  show (do let x ← (Reader.u1 : Decoder Nat) c p; _) = _
  rw [u1_ok (tk_1 h)]
  rfl
theorem dc_79 {c : ByteArray} {p : Nat} (h : tkN c p 1 = [79]) : decode c p = .ok (.iastore, 1) := by
  refine dc_fin ?_
  show (do let x ← (Reader.u1 : Decoder Nat) c p; _) = _
  rw [u1_ok (tk_1 h)]
  rfl
theorem dc_83 {c : ByteArray} {p : Nat} (h : tkN c p 1 = [83]) : decode c p = .ok (.aastore, 1) := by
  refine dc_fin ?_
  show (do let x ← (Reader.u1 : Decoder Nat) c p; _) = _
  rw [u1_ok (tk_1 h)]
  rfl
theorem dc_84 {c : ByteArray} {p : Nat} (h : tkN c p 1 = [84]) : decode c p = .ok (.bastore, 1) := by
  refine dc_fin ?_
  show (do let x ← (Reader.u1 : Decoder Nat) c p; _) = _
  rw [u1_ok (tk_1 h)]
  rfl
theorem dc_87 {c : ByteArray} {p : Nat} (h : tkN c p 1 = [87]) : decode c p = .ok (.pop, 1) := by
  refine dc_fin ?_
  show (do let x ← (Reader.u1 : Decoder Nat) c p; _) = _
  rw [u1_ok (tk_1 h)]
  rfl
theorem dc_88 {c : ByteArray} {p : Nat} (h : tkN c p 1 = [88]) : decode c p = .ok (.pop2, 1) := by
  refine dc_fin ?_
  show (do let x ← (Reader.u1 : Decoder Nat) c p; _) = _
  rw [u1_ok (tk_1 h)]
  rfl
theorem dc_89 {c : ByteArray} {p : Nat} (h : tkN c p 1 = [89]) : decode c p = .ok (.dup, 1) := by
  refine dc_fin ?_
  show (do let x ← (Reader.u1 : Decoder Nat) c p; _) = _
  rw [u1_ok (tk_1 h)]
  rfl
theorem dc_92 {c : ByteArray} {p : Nat} (h : tkN c p 1 = [92]) : decode c p = .ok (.dup2, 1) := by
  refine dc_fin ?_
  show (do let x ← (Reader.u1 : Decoder Nat) c p; _) = _
  rw [u1_ok (tk_1 h)]
  rfl
theorem dc_96 {c : ByteArray} {p : Nat} (h : tkN c p 1 = [96]) : decode c p = .ok (.iadd, 1) := by
  refine dc_fin ?_
  show (do let x ← (Reader.u1 : Decoder Nat) c p; _) = _
  rw [u1_ok (tk_1 h)]
  rfl
theorem dc_97 {c : ByteArray} {p : Nat} (h : tkN c p 1 = [97]) : decode c p = .ok (.ladd, 1) := by
  refine dc_fin ?_
  show (do let x ← (Reader.u1 : Decoder Nat) c p; _) = _
  rw [u1_ok (tk_1 h)]
  rfl
theorem dc_100 {c : ByteArray} {p : Nat} (h : tkN c p 1 = [100]) : decode c p = .ok (.isub, 1) := by
  refine dc_fin ?_
  show (do let x ← (Reader.u1 : Decoder Nat) c p; _) = _
  rw [u1_ok (tk_1 h)]
  rfl
theorem dc_101 {c : ByteArray} {p : Nat} (h : tkN c p 1 = [101]) : decode c p = .ok (.lsub, 1) := by
  refine dc_fin ?_
  show (do let x ← (Reader.u1 : Decoder Nat) c p; _) = _
  rw [u1_ok (tk_1 h)]
  rfl
theorem dc_104 {c : ByteArray} {p : Nat} (h : tkN c p 1 = [104]) : decode c p = .ok (.imul, 1) := by
  refine dc_fin ?_
  show (do let x ← (Reader.u1 : Decoder Nat) c p; _) = _
  rw [u1_ok (tk_1 h)]
  rfl
theorem dc_105 {c : ByteArray} {p : Nat} (h : tkN c p 1 = [105]) : decode c p = .ok (.lmul, 1) := by
  refine dc_fin ?_
  show (do let x ← (Reader.u1 : Decoder Nat) c p; _) = _
  rw [u1_ok (tk_1 h)]
  rfl
theorem dc_108 {c : ByteArray} {p : Nat} (h : tkN c p 1 = [108]) : decode c p = .ok (.idiv, 1) := by
  refine dc_fin ?_
  show (do let x ← (Reader.u1 : Decoder Nat) c p; _) = _
  rw [u1_ok (tk_1 h)]
  rfl
theorem dc_112 {c : ByteArray} {p : Nat} (h : tkN c p 1 = [112]) : decode c p = .ok (.irem, 1) := by
  refine dc_fin ?_
  show (do let x ← (Reader.u1 : Decoder Nat) c p; _) = _
  rw [u1_ok (tk_1 h)]
  rfl
theorem dc_120 {c : ByteArray} {p : Nat} (h : tkN c p 1 = [120]) : decode c p = .ok (.ishl, 1) := by
  refine dc_fin ?_
  show (do let x ← (Reader.u1 : Decoder Nat) c p; _) = _
  rw [u1_ok (tk_1 h)]
  rfl
theorem dc_122 {c : ByteArray} {p : Nat} (h : tkN c p 1 = [122]) : decode c p = .ok (.ishr, 1) := by
  refine dc_fin ?_
  show (do let x ← (Reader.u1 : Decoder Nat) c p; _) = _
  rw [u1_ok (tk_1 h)]
  rfl
theorem dc_124 {c : ByteArray} {p : Nat} (h : tkN c p 1 = [124]) : decode c p = .ok (.iushr, 1) := by
  refine dc_fin ?_
  show (do let x ← (Reader.u1 : Decoder Nat) c p; _) = _
  rw [u1_ok (tk_1 h)]
  rfl
theorem dc_126 {c : ByteArray} {p : Nat} (h : tkN c p 1 = [126]) : decode c p = .ok (.iand, 1) := by
  refine dc_fin ?_
  show (do let x ← (Reader.u1 : Decoder Nat) c p; _) = _
  rw [u1_ok (tk_1 h)]
  rfl
theorem dc_128 {c : ByteArray} {p : Nat} (h : tkN c p 1 = [128]) : decode c p = .ok (.ior, 1) := by
  refine dc_fin ?_
  show (do let x ← (Reader.u1 : Decoder Nat) c p; _) = _
  rw [u1_ok (tk_1 h)]
  rfl
theorem dc_130 {c : ByteArray} {p : Nat} (h : tkN c p 1 = [130]) : decode c p = .ok (.ixor, 1) := by
  refine dc_fin ?_
  show (do let x ← (Reader.u1 : Decoder Nat) c p; _) = _
  rw [u1_ok (tk_1 h)]
  rfl
theorem dc_133 {c : ByteArray} {p : Nat} (h : tkN c p 1 = [133]) : decode c p = .ok (.i2l, 1) := by
  refine dc_fin ?_
  show (do let x ← (Reader.u1 : Decoder Nat) c p; _) = _
  rw [u1_ok (tk_1 h)]
  rfl
theorem dc_172 {c : ByteArray} {p : Nat} (h : tkN c p 1 = [172]) : decode c p = .ok (.ireturn, 1) := by
  refine dc_fin ?_
  show (do let x ← (Reader.u1 : Decoder Nat) c p; _) = _
  rw [u1_ok (tk_1 h)]
  rfl
theorem dc_173 {c : ByteArray} {p : Nat} (h : tkN c p 1 = [173]) : decode c p = .ok (.lreturn, 1) := by
  refine dc_fin ?_
  show (do let x ← (Reader.u1 : Decoder Nat) c p; _) = _
  rw [u1_ok (tk_1 h)]
  rfl
theorem dc_176 {c : ByteArray} {p : Nat} (h : tkN c p 1 = [176]) : decode c p = .ok (.areturn, 1) := by
  refine dc_fin ?_
  show (do let x ← (Reader.u1 : Decoder Nat) c p; _) = _
  rw [u1_ok (tk_1 h)]
  rfl
theorem dc_177 {c : ByteArray} {p : Nat} (h : tkN c p 1 = [177]) : decode c p = .ok (.return_, 1) := by
  refine dc_fin ?_
  show (do let x ← (Reader.u1 : Decoder Nat) c p; _) = _
  rw [u1_ok (tk_1 h)]
  rfl
theorem dc_190 {c : ByteArray} {p : Nat} (h : tkN c p 1 = [190]) : decode c p = .ok (.arraylength, 1) := by
  refine dc_fin ?_
  show (do let x ← (Reader.u1 : Decoder Nat) c p; _) = _
  rw [u1_ok (tk_1 h)]
  rfl
theorem dc_18 {c : ByteArray} {p a : Nat} (h : tkN c p 2 = [18, a]) : decode c p = .ok (.ldc a, 2) := by
  refine dc_fin ?_
  show (do let x ← (Reader.u1 : Decoder Nat) c p; _) = _
  rw [u1_ok (tk_2 h).1]
  show (do let x ← (Reader.u1 : Decoder Nat) c (p + 1); _) = _
  rw [u1_ok (tk_2 h).2]
  rfl
theorem dc_21 {c : ByteArray} {p a : Nat} (h : tkN c p 2 = [21, a]) : decode c p = .ok (.iload a, 2) := by
  refine dc_fin ?_
  show (do let x ← (Reader.u1 : Decoder Nat) c p; _) = _
  rw [u1_ok (tk_2 h).1]
  show (do let x ← (Reader.u1 : Decoder Nat) c (p + 1); _) = _
  rw [u1_ok (tk_2 h).2]
  rfl
theorem dc_22 {c : ByteArray} {p a : Nat} (h : tkN c p 2 = [22, a]) : decode c p = .ok (.lload a, 2) := by
  refine dc_fin ?_
  show (do let x ← (Reader.u1 : Decoder Nat) c p; _) = _
  rw [u1_ok (tk_2 h).1]
  show (do let x ← (Reader.u1 : Decoder Nat) c (p + 1); _) = _
  rw [u1_ok (tk_2 h).2]
  rfl
theorem dc_25 {c : ByteArray} {p a : Nat} (h : tkN c p 2 = [25, a]) : decode c p = .ok (.aload a, 2) := by
  refine dc_fin ?_
  show (do let x ← (Reader.u1 : Decoder Nat) c p; _) = _
  rw [u1_ok (tk_2 h).1]
  show (do let x ← (Reader.u1 : Decoder Nat) c (p + 1); _) = _
  rw [u1_ok (tk_2 h).2]
  rfl
theorem dc_54 {c : ByteArray} {p a : Nat} (h : tkN c p 2 = [54, a]) : decode c p = .ok (.istore a, 2) := by
  refine dc_fin ?_
  show (do let x ← (Reader.u1 : Decoder Nat) c p; _) = _
  rw [u1_ok (tk_2 h).1]
  show (do let x ← (Reader.u1 : Decoder Nat) c (p + 1); _) = _
  rw [u1_ok (tk_2 h).2]
  rfl
theorem dc_55 {c : ByteArray} {p a : Nat} (h : tkN c p 2 = [55, a]) : decode c p = .ok (.lstore a, 2) := by
  refine dc_fin ?_
  show (do let x ← (Reader.u1 : Decoder Nat) c p; _) = _
  rw [u1_ok (tk_2 h).1]
  show (do let x ← (Reader.u1 : Decoder Nat) c (p + 1); _) = _
  rw [u1_ok (tk_2 h).2]
  rfl
theorem dc_58 {c : ByteArray} {p a : Nat} (h : tkN c p 2 = [58, a]) : decode c p = .ok (.astore a, 2) := by
  refine dc_fin ?_
  show (do let x ← (Reader.u1 : Decoder Nat) c p; _) = _
  rw [u1_ok (tk_2 h).1]
  show (do let x ← (Reader.u1 : Decoder Nat) c (p + 1); _) = _
  rw [u1_ok (tk_2 h).2]
  rfl
theorem dc_19 {c : ByteArray} {p a b : Nat} (h : tkN c p 3 = [19, a, b]) : decode c p = .ok (.ldc_w (a * 256 + b), 3) := by
  refine dc_fin ?_
  show (do let x ← (Reader.u1 : Decoder Nat) c p; _) = _
  rw [u1_ok (tk_3 h).1]
  show (do let x ← (Reader.u2 : Decoder Nat) c (p + 1); _) = _
  rw [u2_ok (tk_3 h).2.1 (tk_3 h).2.2]
  rfl
theorem dc_20 {c : ByteArray} {p a b : Nat} (h : tkN c p 3 = [20, a, b]) : decode c p = .ok (.ldc2_w (a * 256 + b), 3) := by
  refine dc_fin ?_
  show (do let x ← (Reader.u1 : Decoder Nat) c p; _) = _
  rw [u1_ok (tk_3 h).1]
  show (do let x ← (Reader.u2 : Decoder Nat) c (p + 1); _) = _
  rw [u2_ok (tk_3 h).2.1 (tk_3 h).2.2]
  rfl
theorem dc_178 {c : ByteArray} {p a b : Nat} (h : tkN c p 3 = [178, a, b]) : decode c p = .ok (.getstatic (a * 256 + b), 3) := by
  refine dc_fin ?_
  show (do let x ← (Reader.u1 : Decoder Nat) c p; _) = _
  rw [u1_ok (tk_3 h).1]
  show (do let x ← (Reader.u2 : Decoder Nat) c (p + 1); _) = _
  rw [u2_ok (tk_3 h).2.1 (tk_3 h).2.2]
  rfl
theorem dc_179 {c : ByteArray} {p a b : Nat} (h : tkN c p 3 = [179, a, b]) : decode c p = .ok (.putstatic (a * 256 + b), 3) := by
  refine dc_fin ?_
  show (do let x ← (Reader.u1 : Decoder Nat) c p; _) = _
  rw [u1_ok (tk_3 h).1]
  show (do let x ← (Reader.u2 : Decoder Nat) c (p + 1); _) = _
  rw [u2_ok (tk_3 h).2.1 (tk_3 h).2.2]
  rfl
theorem dc_180 {c : ByteArray} {p a b : Nat} (h : tkN c p 3 = [180, a, b]) : decode c p = .ok (.getfield (a * 256 + b), 3) := by
  refine dc_fin ?_
  show (do let x ← (Reader.u1 : Decoder Nat) c p; _) = _
  rw [u1_ok (tk_3 h).1]
  show (do let x ← (Reader.u2 : Decoder Nat) c (p + 1); _) = _
  rw [u2_ok (tk_3 h).2.1 (tk_3 h).2.2]
  rfl
theorem dc_181 {c : ByteArray} {p a b : Nat} (h : tkN c p 3 = [181, a, b]) : decode c p = .ok (.putfield (a * 256 + b), 3) := by
  refine dc_fin ?_
  show (do let x ← (Reader.u1 : Decoder Nat) c p; _) = _
  rw [u1_ok (tk_3 h).1]
  show (do let x ← (Reader.u2 : Decoder Nat) c (p + 1); _) = _
  rw [u2_ok (tk_3 h).2.1 (tk_3 h).2.2]
  rfl
theorem dc_182 {c : ByteArray} {p a b : Nat} (h : tkN c p 3 = [182, a, b]) : decode c p = .ok (.invokevirtual (a * 256 + b), 3) := by
  refine dc_fin ?_
  show (do let x ← (Reader.u1 : Decoder Nat) c p; _) = _
  rw [u1_ok (tk_3 h).1]
  show (do let x ← (Reader.u2 : Decoder Nat) c (p + 1); _) = _
  rw [u2_ok (tk_3 h).2.1 (tk_3 h).2.2]
  rfl
theorem dc_183 {c : ByteArray} {p a b : Nat} (h : tkN c p 3 = [183, a, b]) : decode c p = .ok (.invokespecial (a * 256 + b), 3) := by
  refine dc_fin ?_
  show (do let x ← (Reader.u1 : Decoder Nat) c p; _) = _
  rw [u1_ok (tk_3 h).1]
  show (do let x ← (Reader.u2 : Decoder Nat) c (p + 1); _) = _
  rw [u2_ok (tk_3 h).2.1 (tk_3 h).2.2]
  rfl
theorem dc_184 {c : ByteArray} {p a b : Nat} (h : tkN c p 3 = [184, a, b]) : decode c p = .ok (.invokestatic (a * 256 + b), 3) := by
  refine dc_fin ?_
  show (do let x ← (Reader.u1 : Decoder Nat) c p; _) = _
  rw [u1_ok (tk_3 h).1]
  show (do let x ← (Reader.u2 : Decoder Nat) c (p + 1); _) = _
  rw [u2_ok (tk_3 h).2.1 (tk_3 h).2.2]
  rfl
theorem dc_187 {c : ByteArray} {p a b : Nat} (h : tkN c p 3 = [187, a, b]) : decode c p = .ok (.new (a * 256 + b), 3) := by
  refine dc_fin ?_
  show (do let x ← (Reader.u1 : Decoder Nat) c p; _) = _
  rw [u1_ok (tk_3 h).1]
  show (do let x ← (Reader.u2 : Decoder Nat) c (p + 1); _) = _
  rw [u2_ok (tk_3 h).2.1 (tk_3 h).2.2]
  rfl
theorem dc_189 {c : ByteArray} {p a b : Nat} (h : tkN c p 3 = [189, a, b]) : decode c p = .ok (.anewarray (a * 256 + b), 3) := by
  refine dc_fin ?_
  show (do let x ← (Reader.u1 : Decoder Nat) c p; _) = _
  rw [u1_ok (tk_3 h).1]
  show (do let x ← (Reader.u2 : Decoder Nat) c (p + 1); _) = _
  rw [u2_ok (tk_3 h).2.1 (tk_3 h).2.2]
  rfl
theorem dc_17 {c : ByteArray} {p a b : Nat} {v : Int} (h : tkN c p 3 = [17, a, b]) (hv : Reader.signed 16 (a * 256 + b) = v) : decode c p = .ok (.sipush v, 3) := by
  subst hv
  refine dc_fin ?_
  show (do let x ← (Reader.u1 : Decoder Nat) c p; _) = _
  rw [u1_ok (tk_3 h).1]
  show (do let x ← (Reader.s2 : Decoder Int) c (p + 1); _) = _
  rw [s2_ok (tk_3 h).2.1 (tk_3 h).2.2]
  rfl
theorem dc_153 {c : ByteArray} {p a b : Nat} {v : Int} (h : tkN c p 3 = [153, a, b]) (hv : Reader.signed 16 (a * 256 + b) = v) : decode c p = .ok (.ifCond .eq v, 3) := by
  subst hv
  refine dc_fin ?_
  show (do let x ← (Reader.u1 : Decoder Nat) c p; _) = _
  rw [u1_ok (tk_3 h).1]
  show (do let x ← (Reader.s2 : Decoder Int) c (p + 1); _) = _
  rw [s2_ok (tk_3 h).2.1 (tk_3 h).2.2]
  rfl
theorem dc_154 {c : ByteArray} {p a b : Nat} {v : Int} (h : tkN c p 3 = [154, a, b]) (hv : Reader.signed 16 (a * 256 + b) = v) : decode c p = .ok (.ifCond .ne v, 3) := by
  subst hv
  refine dc_fin ?_
  show (do let x ← (Reader.u1 : Decoder Nat) c p; _) = _
  rw [u1_ok (tk_3 h).1]
  show (do let x ← (Reader.s2 : Decoder Int) c (p + 1); _) = _
  rw [s2_ok (tk_3 h).2.1 (tk_3 h).2.2]
  rfl
theorem dc_155 {c : ByteArray} {p a b : Nat} {v : Int} (h : tkN c p 3 = [155, a, b]) (hv : Reader.signed 16 (a * 256 + b) = v) : decode c p = .ok (.ifCond .lt v, 3) := by
  subst hv
  refine dc_fin ?_
  show (do let x ← (Reader.u1 : Decoder Nat) c p; _) = _
  rw [u1_ok (tk_3 h).1]
  show (do let x ← (Reader.s2 : Decoder Int) c (p + 1); _) = _
  rw [s2_ok (tk_3 h).2.1 (tk_3 h).2.2]
  rfl
theorem dc_156 {c : ByteArray} {p a b : Nat} {v : Int} (h : tkN c p 3 = [156, a, b]) (hv : Reader.signed 16 (a * 256 + b) = v) : decode c p = .ok (.ifCond .ge v, 3) := by
  subst hv
  refine dc_fin ?_
  show (do let x ← (Reader.u1 : Decoder Nat) c p; _) = _
  rw [u1_ok (tk_3 h).1]
  show (do let x ← (Reader.s2 : Decoder Int) c (p + 1); _) = _
  rw [s2_ok (tk_3 h).2.1 (tk_3 h).2.2]
  rfl
theorem dc_157 {c : ByteArray} {p a b : Nat} {v : Int} (h : tkN c p 3 = [157, a, b]) (hv : Reader.signed 16 (a * 256 + b) = v) : decode c p = .ok (.ifCond .gt v, 3) := by
  subst hv
  refine dc_fin ?_
  show (do let x ← (Reader.u1 : Decoder Nat) c p; _) = _
  rw [u1_ok (tk_3 h).1]
  show (do let x ← (Reader.s2 : Decoder Int) c (p + 1); _) = _
  rw [s2_ok (tk_3 h).2.1 (tk_3 h).2.2]
  rfl
theorem dc_158 {c : ByteArray} {p a b : Nat} {v : Int} (h : tkN c p 3 = [158, a, b]) (hv : Reader.signed 16 (a * 256 + b) = v) : decode c p = .ok (.ifCond .le v, 3) := by
  subst hv
  refine dc_fin ?_
  show (do let x ← (Reader.u1 : Decoder Nat) c p; _) = _
  rw [u1_ok (tk_3 h).1]
  show (do let x ← (Reader.s2 : Decoder Int) c (p + 1); _) = _
  rw [s2_ok (tk_3 h).2.1 (tk_3 h).2.2]
  rfl
theorem dc_159 {c : ByteArray} {p a b : Nat} {v : Int} (h : tkN c p 3 = [159, a, b]) (hv : Reader.signed 16 (a * 256 + b) = v) : decode c p = .ok (.if_icmp .eq v, 3) := by
  subst hv
  refine dc_fin ?_
  show (do let x ← (Reader.u1 : Decoder Nat) c p; _) = _
  rw [u1_ok (tk_3 h).1]
  show (do let x ← (Reader.s2 : Decoder Int) c (p + 1); _) = _
  rw [s2_ok (tk_3 h).2.1 (tk_3 h).2.2]
  rfl
theorem dc_160 {c : ByteArray} {p a b : Nat} {v : Int} (h : tkN c p 3 = [160, a, b]) (hv : Reader.signed 16 (a * 256 + b) = v) : decode c p = .ok (.if_icmp .ne v, 3) := by
  subst hv
  refine dc_fin ?_
  show (do let x ← (Reader.u1 : Decoder Nat) c p; _) = _
  rw [u1_ok (tk_3 h).1]
  show (do let x ← (Reader.s2 : Decoder Int) c (p + 1); _) = _
  rw [s2_ok (tk_3 h).2.1 (tk_3 h).2.2]
  rfl
theorem dc_161 {c : ByteArray} {p a b : Nat} {v : Int} (h : tkN c p 3 = [161, a, b]) (hv : Reader.signed 16 (a * 256 + b) = v) : decode c p = .ok (.if_icmp .lt v, 3) := by
  subst hv
  refine dc_fin ?_
  show (do let x ← (Reader.u1 : Decoder Nat) c p; _) = _
  rw [u1_ok (tk_3 h).1]
  show (do let x ← (Reader.s2 : Decoder Int) c (p + 1); _) = _
  rw [s2_ok (tk_3 h).2.1 (tk_3 h).2.2]
  rfl
theorem dc_162 {c : ByteArray} {p a b : Nat} {v : Int} (h : tkN c p 3 = [162, a, b]) (hv : Reader.signed 16 (a * 256 + b) = v) : decode c p = .ok (.if_icmp .ge v, 3) := by
  subst hv
  refine dc_fin ?_
  show (do let x ← (Reader.u1 : Decoder Nat) c p; _) = _
  rw [u1_ok (tk_3 h).1]
  show (do let x ← (Reader.s2 : Decoder Int) c (p + 1); _) = _
  rw [s2_ok (tk_3 h).2.1 (tk_3 h).2.2]
  rfl
theorem dc_163 {c : ByteArray} {p a b : Nat} {v : Int} (h : tkN c p 3 = [163, a, b]) (hv : Reader.signed 16 (a * 256 + b) = v) : decode c p = .ok (.if_icmp .gt v, 3) := by
  subst hv
  refine dc_fin ?_
  show (do let x ← (Reader.u1 : Decoder Nat) c p; _) = _
  rw [u1_ok (tk_3 h).1]
  show (do let x ← (Reader.s2 : Decoder Int) c (p + 1); _) = _
  rw [s2_ok (tk_3 h).2.1 (tk_3 h).2.2]
  rfl
theorem dc_164 {c : ByteArray} {p a b : Nat} {v : Int} (h : tkN c p 3 = [164, a, b]) (hv : Reader.signed 16 (a * 256 + b) = v) : decode c p = .ok (.if_icmp .le v, 3) := by
  subst hv
  refine dc_fin ?_
  show (do let x ← (Reader.u1 : Decoder Nat) c p; _) = _
  rw [u1_ok (tk_3 h).1]
  show (do let x ← (Reader.s2 : Decoder Int) c (p + 1); _) = _
  rw [s2_ok (tk_3 h).2.1 (tk_3 h).2.2]
  rfl
theorem dc_165 {c : ByteArray} {p a b : Nat} {v : Int} (h : tkN c p 3 = [165, a, b]) (hv : Reader.signed 16 (a * 256 + b) = v) : decode c p = .ok (.if_acmp .eq v, 3) := by
  subst hv
  refine dc_fin ?_
  show (do let x ← (Reader.u1 : Decoder Nat) c p; _) = _
  rw [u1_ok (tk_3 h).1]
  show (do let x ← (Reader.s2 : Decoder Int) c (p + 1); _) = _
  rw [s2_ok (tk_3 h).2.1 (tk_3 h).2.2]
  rfl
theorem dc_166 {c : ByteArray} {p a b : Nat} {v : Int} (h : tkN c p 3 = [166, a, b]) (hv : Reader.signed 16 (a * 256 + b) = v) : decode c p = .ok (.if_acmp .ne v, 3) := by
  subst hv
  refine dc_fin ?_
  show (do let x ← (Reader.u1 : Decoder Nat) c p; _) = _
  rw [u1_ok (tk_3 h).1]
  show (do let x ← (Reader.s2 : Decoder Int) c (p + 1); _) = _
  rw [s2_ok (tk_3 h).2.1 (tk_3 h).2.2]
  rfl
theorem dc_167 {c : ByteArray} {p a b : Nat} {v : Int} (h : tkN c p 3 = [167, a, b]) (hv : Reader.signed 16 (a * 256 + b) = v) : decode c p = .ok (.goto v, 3) := by
  subst hv
  refine dc_fin ?_
  show (do let x ← (Reader.u1 : Decoder Nat) c p; _) = _
  rw [u1_ok (tk_3 h).1]
  show (do let x ← (Reader.s2 : Decoder Int) c (p + 1); _) = _
  rw [s2_ok (tk_3 h).2.1 (tk_3 h).2.2]
  rfl
theorem dc_198 {c : ByteArray} {p a b : Nat} {v : Int} (h : tkN c p 3 = [198, a, b]) (hv : Reader.signed 16 (a * 256 + b) = v) : decode c p = .ok (.ifnull v, 3) := by
  subst hv
  refine dc_fin ?_
  show (do let x ← (Reader.u1 : Decoder Nat) c p; _) = _
  rw [u1_ok (tk_3 h).1]
  show (do let x ← (Reader.s2 : Decoder Int) c (p + 1); _) = _
  rw [s2_ok (tk_3 h).2.1 (tk_3 h).2.2]
  rfl
theorem dc_199 {c : ByteArray} {p a b : Nat} {v : Int} (h : tkN c p 3 = [199, a, b]) (hv : Reader.signed 16 (a * 256 + b) = v) : decode c p = .ok (.ifnonnull v, 3) := by
  subst hv
  refine dc_fin ?_
  show (do let x ← (Reader.u1 : Decoder Nat) c p; _) = _
  rw [u1_ok (tk_3 h).1]
  show (do let x ← (Reader.s2 : Decoder Int) c (p + 1); _) = _
  rw [s2_ok (tk_3 h).2.1 (tk_3 h).2.2]
  rfl
theorem dc_16 {c : ByteArray} {p a : Nat} {v : Int} (h : tkN c p 2 = [16, a]) (hv : Reader.signed 8 a = v) : decode c p = .ok (.bipush v, 2) := by
  subst hv
  refine dc_fin ?_
  show (do let x ← (Reader.u1 : Decoder Nat) c p; _) = _
  rw [u1_ok (tk_2 h).1]
  show (do let x ← (Reader.s1 : Decoder Int) c (p + 1); _) = _
  rw [s1_ok (tk_2 h).2]
  rfl
theorem dc_132 {c : ByteArray} {p a b : Nat} {v : Int} (h : tkN c p 3 = [132, a, b]) (hv : Reader.signed 8 b = v) : decode c p = .ok (.iinc a v, 3) := by
  subst hv
  refine dc_fin ?_
  show (do let x ← (Reader.u1 : Decoder Nat) c p; _) = _
  rw [u1_ok (tk_3 h).1]
  show (do let x ← (Reader.u1 : Decoder Nat) c (p + 1); _) = _
  rw [u1_ok (tk_3 h).2.1]
  show (do let x ← (Reader.s1 : Decoder Int) c (p + 1 + 1); _) = _
  rw [s1_ok (tk_3 h).2.2]
  rfl
theorem dc_188_10 {c : ByteArray} {p : Nat} (h : tkN c p 2 = [188, 10]) : decode c p = .ok (.newarray .int, 2) := by
  refine dc_fin ?_
  show (do let x ← (Reader.u1 : Decoder Nat) c p; _) = _
  rw [u1_ok (tk_2 h).1]
  show (do let x ← (Reader.u1 : Decoder Nat) c (p + 1); _) = _
  rw [u1_ok (tk_2 h).2]
  rfl
theorem dc_188_4 {c : ByteArray} {p : Nat} (h : tkN c p 2 = [188, 4]) : decode c p = .ok (.newarray .boolean, 2) := by
  refine dc_fin ?_
  show (do let x ← (Reader.u1 : Decoder Nat) c p; _) = _
  rw [u1_ok (tk_2 h).1]
  show (do let x ← (Reader.u1 : Decoder Nat) c (p + 1); _) = _
  rw [u1_ok (tk_2 h).2]
  rfl
