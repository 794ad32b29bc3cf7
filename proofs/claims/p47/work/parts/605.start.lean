/-! ===== the first world has it ===== -/
theorem cdI {b : Bool} {p q : Prop} (hp : p) (hq : q) : cond b p q := by
  cases b
  · exact hq
  · exact hp
theorem o0_0 (i : Nat) : okO0 i 0 := cdI (rgl 0 0 200 rfl) (cdI (rgl 0 0 24 rfl) (cdI (rgl 0 0 40 rfl) (cdI (rgl 0 0 12 rfl) (cdI (rgl 0 0 23 rfl) (cdI (rgl 0 0 1 rfl) (cdI (rgl 0 0 72 rfl) (cdI (rgl 0 0 600 rfl) (cdI (rgl 0 0 1 rfl) (cdI (rgl 0 0 72 rfl) (cdI (rgl 0 0 1 rfl) (cdI (rgl 0 0 1 rfl) (cdI (rgl 0 0 8 rfl) (cdI (rgl 0 0 8 rfl) (cdI (rgl 0 0 600 rfl) (cdI (rgl 0 0 71 rfl) (cdI (rgl 0 0 1 rfl) (cdI (rgl 0 0 72 rfl) (cdI (rgl 0 0 399 rfl) (cdI (rgl 0 0 10 rfl) (trivial))))))))))))))))))))
theorem o0_62 (i : Nat) : okO62 i 0 := cdI (rgl 0 0 200 rfl) (trivial)
theorem o0_63 (i : Nat) : okO63 i 0 := cdI (rgl 0 0 72 rfl) (trivial)
theorem o0_64 (i : Nat) : okO64 i 0 := cdI (rgl 0 0 7 rfl) (cdI (rgl 0 0 39 rfl) (cdI (rgl 0 0 40 rfl) (cdI (rgl 0 0 8 rfl) (cdI (rgl 0 0 8 rfl) (trivial)))))
theorem o0_66 (i : Nat) : okO66 i 0 := cdI (rgl 0 0 24 rfl) (cdI (rgl 0 0 40 rfl) (trivial))
theorem o0_67 (i : Nat) : okO67 i 0 := cdI (rgl 0 0 12 rfl) (trivial)
theorem o0_68 (i : Nat) : okO68 i 0 := cdI (rgl 0 0 72 rfl) (trivial)
theorem o0_70 (i : Nat) : okO70 i 0 := cdI (rgl 0 0 128 rfl) (trivial)
theorem o0_S (i : Nat) : okS i 0 := cdI (rgl 0 0 72 rfl) trivial
theorem o0_A (k i : Nat) : okA k i 0 := cdI (o0_0 i) (cdI (rgl 0 0 1 rfl) (cdI (Or.inr (rgl 0 0 39 rfl)) (cdI (rgl 0 0 3 rfl) (cdI (rgl 0 0 47 rfl) (cdI (rgl 0 0 47 rfl) (cdI (rgl 0 0 2 rfl) (cdI (rgl 0 0 8 rfl) (cdI (rgl 0 0 39 rfl) (cdI (rgl 0 0 2 rfl) (cdI (rgl 0 0 1 rfl) (cdI (rgl 0 0 1 rfl) (cdI (rgl 0 0 23 rfl) (cdI (rgl 0 0 1 rfl) (cdI (Or.inr (rgl 0 0 71 rfl)) (cdI (rgl 0 0 50 rfl) (cdI (rgl 0 0 9 rfl) (cdI (rgl 0 0 8 rfl) (cdI (rgl 0 0 100 rfl) (cdI (rgl 0 0 1 rfl) (cdI (rgl 0 0 600 rfl) (cdI (rgl 0 0 1 rfl) (cdI (Or.inr (rgl 0 0 20 rfl)) (cdI (rgl 0 0 120 rfl) (cdI (rgl 0 0 71 rfl) (cdI (rgl 0 0 2 rfl) (cdI (rgl 0 0 71 rfl) (cdI (rgl 0 0 1 rfl) (cdI (rgl 0 0 10 rfl) (cdI (rgl 0 0 10 rfl) (cdI (rgl 0 0 9 rfl) (cdI (rgl 0 0 10 rfl) (cdI (rgl 0 0 9 rfl) (cdI (rgl 0 0 3 rfl) (cdI (rgl 0 0 3 rfl) (cdI (rgl 0 0 25919 rfl) (cdI (rgl 0 0 10 rfl) (cdI (rgl 0 0 25919 rfl) (trivial))))))))))))))))))))))))))))))))))))))
theorem o0_B (k i : Nat) : okB k i 0 := cdI (o0_62 i) (cdI (o0_63 i) (cdI (o0_64 i) (cdI (o0_66 i) (cdI (o0_67 i) (cdI (o0_68 i) (cdI (o0_70 i) (cdI (o0_S i) (cdI (o0_S i) (cdI (o0_S i) (cdI (o0_S i) (cdI (o0_S i) (cdI (o0_S i) (cdI (o0_S i) (cdI (o0_S i) (cdI (o0_S i) (cdI (rgl 0 0 3 rfl) (cdI (rgl 0 0 1 rfl) (cdI (rgl 0 0 8 rfl) (cdI (rgl 0 0 1 rfl) (cdI (rgl 0 0 10 rfl) (cdI (rgl 0 0 10 rfl) (cdI (rgl 0 0 10 rfl) (trivial)))))))))))))))))))))))
theorem ok_0 (k i : Nat) : ok k i 0 := cdI (o0_A k i) (o0_B k i)
theorem s0_0 : ∀ i, ok 0 i (S0.1 0 i)
  | 0 => trivial
  | 1 => trivial
  | 2 => trivial
  | 3 => trivial
  | 4 => trivial
  | 5 => rgl 0 0 200 rfl
  | 6 => trivial
  | 7 => rgl 0 0 24 rfl
  | 8 => trivial
  | 9 => trivial
  | 10 => trivial
  | 11 => trivial
  | 12 => trivial
  | 13 => trivial
  | 14 => trivial
  | 15 => rgl 0 0 40 rfl
  | 16 => trivial
  | 17 => trivial
  | 18 => trivial
  | 19 => rgl 0 0 12 rfl
  | 20 => trivial
  | 21 => trivial
  | 22 => trivial
  | 23 => trivial
  | 24 => trivial
  | 25 => trivial
  | 26 => rgl 0 0 23 rfl
  | 27 => trivial
  | 28 => rgl 0 0 1 rfl
  | 29 => rgl 0 0 72 rfl
  | 30 => trivial
  | 31 => trivial
  | 32 => trivial
  | 33 => trivial
  | 34 => trivial
  | 35 => trivial
  | 36 => trivial
  | 37 => trivial
  | 38 => trivial
  | 39 => trivial
  | 40 => trivial
  | 41 => trivial
  | 42 => trivial
  | 43 => trivial
  | 44 => trivial
  | 45 => trivial
  | 46 => trivial
  | 47 => rgl 0 0 600 rfl
  | 48 => trivial
  | 49 => trivial
  | 50 => trivial
  | 51 => trivial
  | 52 => trivial
  | 53 => trivial
  | 54 => rgl 0 0 1 rfl
  | 55 => trivial
  | 56 => rgl 0 0 72 rfl
  | 57 => rgl 0 0 1 rfl
  | 58 => rgl 0 0 1 rfl
  | 59 => trivial
  | 60 => rgl 0 0 8 rfl
  | 61 => rgl 0 0 8 rfl
  | 62 => rgl 0 0 600 rfl
  | 63 => trivial
  | 64 => trivial
  | 65 => trivial
  | 66 => rgl 0 0 71 rfl
  | 67 => rgl 0 0 1 rfl
  | 68 => trivial
  | 69 => trivial
  | 70 => rgl 0 0 72 rfl
  | 71 => trivial
  | 72 => trivial
  | 73 => trivial
  | 74 => trivial
  | 75 => trivial
  | 76 => trivial
  | 77 => rgl 0 0 399 rfl
  | 78 => trivial
  | 79 => trivial
  | 80 => trivial
  | 81 => rgl 0 0 10 rfl
  | 82 => trivial
  | 83 => trivial
  | 84 => trivial
  | 85 => trivial
  | 86 => trivial
  | 87 => trivial
  | 88 => trivial
  | n + 89 => ok_0 0 (n + 89)
theorem s0_5 (i : Nat) : ok 5 i (S0.1 5 i) := by
  show ok 5 i (if i < 48 then (-4 : Int32) else 0)
  by_cases c : i < 48
  · rw [if_pos c]; exact Or.inl rfl
  · rw [if_neg c]; exact ok_0 5 i
theorem s0_38 (i : Nat) : ok 38 i (S0.1 38 i) := by
  show ok 38 i (if i < 8 then (-4 : Int32) else 0)
  by_cases c : i < 8
  · rw [if_pos c]; exact trivial
  · rw [if_neg c]; exact ok_0 38 i
theorem s0_46 (i : Nat) : ok 46 i (S0.1 46 i) := by
  show ok 46 i (if i < 4 then (5 : Int32) else 0)
  by_cases c : i < 4
  · rw [if_pos c]; exact rgl 5 0 10 rfl
  · rw [if_neg c]; exact ok_0 46 i
theorem s0_61 : ∀ i, ok 61 i (S0.1 61 i)
  | 0 => trivial
  | 1 => trivial
  | 2 => trivial
  | 3 => trivial
  | 4 => trivial
  | 5 => trivial
  | 6 => trivial
  | 7 => trivial
  | 8 => trivial
  | 9 => trivial
  | 10 => trivial
  | n + 11 => ok_0 61 (n + 11)
theorem s0_62 : ∀ i, ok 62 i (S0.1 62 i)
  | 0 => trivial
  | 1 => trivial
  | 2 => rgl 0 0 200 rfl
  | 3 => trivial
  | 4 => trivial
  | 5 => trivial
  | 6 => trivial
  | n + 7 => ok_0 62 (n + 7)
theorem s0_63 : ∀ i, ok 63 i (S0.1 63 i)
  | 0 => trivial
  | 1 => rgl 0 0 72 rfl
  | n + 2 => ok_0 63 (n + 2)
theorem s0_64 : ∀ i, ok 64 i (S0.1 64 i)
  | 0 => trivial
  | 1 => trivial
  | 2 => trivial
  | 3 => rgl 0 0 7 rfl
  | 4 => rgl 0 0 39 rfl
  | 5 => rgl 0 0 40 rfl
  | 6 => rgl 0 0 8 rfl
  | 7 => rgl 0 0 8 rfl
  | n + 8 => ok_0 64 (n + 8)
theorem s0_65 : ∀ i, ok 65 i (S0.1 65 i)
  | 0 => trivial
  | 1 => trivial
  | n + 2 => ok_0 65 (n + 2)
theorem s0_66 : ∀ i, ok 66 i (S0.1 66 i)
  | 0 => trivial
  | 1 => trivial
  | 2 => trivial
  | 3 => trivial
  | 4 => trivial
  | 5 => trivial
  | 6 => trivial
  | 7 => rgl 0 0 24 rfl
  | 8 => rgl 0 0 40 rfl
  | n + 9 => ok_0 66 (n + 9)
theorem s0_67 : ∀ i, ok 67 i (S0.1 67 i)
  | 0 => trivial
  | 1 => trivial
  | 2 => trivial
  | 3 => trivial
  | 4 => trivial
  | 5 => trivial
  | 6 => trivial
  | 7 => trivial
  | 8 => rgl 0 0 12 rfl
  | n + 9 => ok_0 67 (n + 9)
theorem s0_68 : ∀ i, ok 68 i (S0.1 68 i)
  | 0 => trivial
  | 1 => trivial
  | 2 => trivial
  | 3 => trivial
  | 4 => rgl 0 0 72 rfl
  | 5 => trivial
  | n + 6 => ok_0 68 (n + 6)
theorem s0_69 : ∀ i, ok 69 i (S0.1 69 i)
  | 0 => trivial
  | 1 => trivial
  | 2 => trivial
  | 3 => trivial
  | n + 4 => ok_0 69 (n + 4)
theorem s0_70 : ∀ i, ok 70 i (S0.1 70 i)
  | 0 => trivial
  | 1 => trivial
  | 2 => trivial
  | 3 => trivial
  | 4 => trivial
  | 5 => trivial
  | 6 => trivial
  | 7 => rgl 0 0 128 rfl
  | 8 => trivial
  | n + 9 => ok_0 70 (n + 9)
theorem s0_71 : ∀ i, ok 71 i (S0.1 71 i)
  | 0 => trivial
  | 1 => trivial
  | 2 => trivial
  | 3 => trivial
  | 4 => trivial
  | 5 => trivial
  | 6 => trivial
  | 7 => trivial
  | 8 => trivial
  | 9 => trivial
  | 10 => trivial
  | 11 => trivial
  | 12 => trivial
  | 13 => trivial
  | 14 => trivial
  | 15 => trivial
  | n + 16 => ok_0 71 (n + 16)
theorem s0_72 : ∀ i, ok 72 i (S0.1 72 i)
  | 0 => trivial
  | 1 => trivial
  | n + 2 => ok_0 72 (n + 2)
theorem s0_73 : ∀ i, ok 73 i (S0.1 73 i)
  | 0 => trivial
  | 1 => trivial
  | n + 2 => ok_0 73 (n + 2)
theorem s0_74 : ∀ i, ok 74 i (S0.1 74 i)
  | 0 => trivial
  | 1 => trivial
  | n + 2 => ok_0 74 (n + 2)
theorem s0_76 (i : Nat) : ok 76 i (S0.1 76 i) := by
  show ok 76 i (if i < 8 then (-4 : Int32) else 0)
  by_cases c : i < 8
  · rw [if_pos c]; exact trivial
  · rw [if_neg c]; exact ok_0 76 i
theorem s0_94 (i : Nat) : ok 94 i (S0.1 94 i) := by
  show ok 94 i (if i < 48 then (-4 : Int32) else 0)
  by_cases c : i < 48
  · rw [if_pos c]; exact trivial
  · rw [if_neg c]; exact ok_0 94 i
theorem s0_106 (i : Nat) : ok 106 i (S0.1 106 i) := by
  show ok 106 i (if i < 4 then (5 : Int32) else 0)
  by_cases c : i < 4
  · rw [if_pos c]; exact trivial
  · rw [if_neg c]; exact ok_0 106 i
set_option maxRecDepth 20000 in
set_option maxHeartbeats 4000000 in
theorem s0_RO : ∀ k i, ok k i (S0.1 k i)
  | 0, i => s0_0 i
  | 1, i => ok_0 1 i
  | 2, i => ok_0 2 i
  | 3, i => ok_0 3 i
  | 4, i => ok_0 4 i
  | 5, i => s0_5 i
  | 6, i => ok_0 6 i
  | 7, i => ok_0 7 i
  | 8, i => ok_0 8 i
  | 9, i => ok_0 9 i
  | 10, i => ok_0 10 i
  | 11, i => ok_0 11 i
  | 12, i => ok_0 12 i
  | 13, i => ok_0 13 i
  | 14, i => ok_0 14 i
  | 15, i => ok_0 15 i
  | 16, i => ok_0 16 i
  | 17, i => ok_0 17 i
  | 18, i => ok_0 18 i
  | 19, i => ok_0 19 i
  | 20, i => ok_0 20 i
  | 21, i => ok_0 21 i
  | 22, i => ok_0 22 i
  | 23, i => ok_0 23 i
  | 24, i => ok_0 24 i
  | 25, i => ok_0 25 i
  | 26, i => ok_0 26 i
  | 27, i => ok_0 27 i
  | 28, i => ok_0 28 i
  | 29, i => ok_0 29 i
  | 30, i => ok_0 30 i
  | 31, i => ok_0 31 i
  | 32, i => ok_0 32 i
  | 33, i => ok_0 33 i
  | 34, i => ok_0 34 i
  | 35, i => ok_0 35 i
  | 36, i => ok_0 36 i
  | 37, i => ok_0 37 i
  | 38, i => s0_38 i
  | 39, i => ok_0 39 i
  | 40, i => ok_0 40 i
  | 41, i => ok_0 41 i
  | 42, i => ok_0 42 i
  | 43, i => ok_0 43 i
  | 44, i => ok_0 44 i
  | 45, i => ok_0 45 i
  | 46, i => s0_46 i
  | 47, i => ok_0 47 i
  | 48, i => ok_0 48 i
  | 49, i => ok_0 49 i
  | 50, i => ok_0 50 i
  | 51, i => ok_0 51 i
  | 52, i => ok_0 52 i
  | 53, i => ok_0 53 i
  | 54, i => ok_0 54 i
  | 55, i => ok_0 55 i
  | 56, i => ok_0 56 i
  | 57, i => ok_0 57 i
  | 58, i => ok_0 58 i
  | 59, i => ok_0 59 i
  | 60, i => ok_0 60 i
  | 61, i => s0_61 i
  | 62, i => s0_62 i
  | 63, i => s0_63 i
  | 64, i => s0_64 i
  | 65, i => s0_65 i
  | 66, i => s0_66 i
  | 67, i => s0_67 i
  | 68, i => s0_68 i
  | 69, i => s0_69 i
  | 70, i => s0_70 i
  | 71, i => s0_71 i
  | 72, i => s0_72 i
  | 73, i => s0_73 i
  | 74, i => s0_74 i
  | 75, i => ok_0 75 i
  | 76, i => s0_76 i
  | 77, i => ok_0 77 i
  | 78, i => ok_0 78 i
  | 79, i => ok_0 79 i
  | 80, i => ok_0 80 i
  | 81, i => ok_0 81 i
  | 82, i => ok_0 82 i
  | 83, i => ok_0 83 i
  | 84, i => ok_0 84 i
  | 85, i => ok_0 85 i
  | 86, i => ok_0 86 i
  | 87, i => ok_0 87 i
  | 88, i => ok_0 88 i
  | 89, i => ok_0 89 i
  | 90, i => ok_0 90 i
  | 91, i => ok_0 91 i
  | 92, i => ok_0 92 i
  | 93, i => ok_0 93 i
  | 94, i => s0_94 i
  | 95, i => ok_0 95 i
  | 96, i => ok_0 96 i
  | 97, i => ok_0 97 i
  | 98, i => ok_0 98 i
  | 99, i => ok_0 99 i
  | 100, i => ok_0 100 i
  | 101, i => ok_0 101 i
  | 102, i => ok_0 102 i
  | 103, i => ok_0 103 i
  | 104, i => ok_0 104 i
  | 105, i => ok_0 105 i
  | 106, i => s0_106 i
  | 107, i => ok_0 107 i
  | 108, i => ok_0 108 i
  | 109, i => ok_0 109 i
  | 110, i => ok_0 110 i
  | 111, i => ok_0 111 i
  | 112, i => ok_0 112 i
  | 113, i => ok_0 113 i
  | 114, i => ok_0 114 i
  | 115, i => ok_0 115 i
  | 116, i => ok_0 116 i
  | 117, i => ok_0 117 i
  | 118, i => ok_0 118 i
  | 119, i => ok_0 119 i
  | 120, i => ok_0 120 i
  | 121, i => ok_0 121 i
  | 122, i => ok_0 122 i
  | 123, i => ok_0 123 i
  | 124, i => ok_0 124 i
  | 125, i => ok_0 125 i
  | 126, i => ok_0 126 i
  | 127, i => ok_0 127 i
  | k + 128, i => ok_0 (k + 128) i
theorem s0_WR : WR S0 := by
  refine ⟨s0_RO, ⟨0, by omega, rfl, ⟨fun _ => 0, fun _ => 0, fun _ => Nat.zero_lt_two, fun x s hx => by omega⟩, 0, 0, by omega, rfl, rfl, fun s hs => by omega, fun s hs => by omega⟩, ?_⟩
  show (0 : Int32).toInt + (0 : Int32).toInt ≤ 8
  decide
theorem s0_RP : RP S0 := by
  refine ⟨⟨fun s hs => ?_, fun s i s' i' hs hs' hi => ?_, fun s i s' i' hs hs' hi => ?_⟩, fun s hs => ?_, PI.no rfl⟩
  · show (0 : Int32).toInt ≤ (if s < 4 then (5 : Int32) else 0).toInt ∧ (0 : Int32).toInt ≤ (if s < 4 then (5 : Int32) else 0).toInt
    rw [if_pos hs]
    decide
  · have hi : (i : Int) < (0 : Int32).toInt := hi
    rw [show (0 : Int32).toInt = 0 by decide] at hi
    omega
  · have hi : (i : Int) < (0 : Int32).toInt := hi
    rw [show (0 : Int32).toInt = 0 by decide] at hi
    omega
  · show 1 ≤ (if s < 4 then (5 : Int32) else 0).toNatClampNeg
    rw [if_pos hs]
    decide
theorem s0_CQ : CQ S0 0 := ⟨⟨fun _ => Or.inr (rgl 0 0 4 rfl), fun _ => rgl 0 0 4 rfl, fun _ => rgl 0 0 4 rfl, fun _ => rgl 0 0 840 rfl, fun _ => Or.inr (rgl 0 0 19 rfl), fun _ => Or.inr (rgl 0 0 6720 rfl)⟩, Or.inl ⟨rfl, rfl, rfl, rfl, rfl⟩⟩
theorem s0_Bs : Bs 0 0 S0 := ⟨s0_WR, s0_RP, ⟨0, s0_CQ, by omega⟩, by show (0 : Int32).toInt ≤ ((0 : Nat) : Int); decide, by show (0 : Int32).toInt ≤ ((0 : Nat) : Int); decide⟩
