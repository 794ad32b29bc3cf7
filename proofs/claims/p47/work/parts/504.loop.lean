/-! ===== the law: its loop ===== -/
/-- the ghost place 200 of the lengths: may this call make rows anew? -/
def gh (S : SS) (d : Nat) : SS := (S.1, fun a => if a = 200 then d else S.2 a)
/-- what a case of the law asks: both calls come to an end on these ints, and the answers that the law compares are equal -/
def cOk : Nat → (Nat → Int32) → SS → SS → Prop
  | 0, x, S, S2 => ∃ (r r' : Int32) (S1 : SS), f_Yard_track (x (1)) S = some (r, S1) ∧ f_M_track (x (1)) S1 = some (r', S2)
  | 1, x, S, S2 => ∃ (r r' : Int32) (S1 : SS), f_Yard_point (x (1)) (x (2)) S = some (r, S1) ∧ f_M_point (x (1)) (x (2)) S1 = some (r', S2)
  | 2, x, S, S2 => ∃ (r r' : Int32) (S1 : SS), f_Yard_link (x (1)) (x (2)) (x (3)) (x (4)) S = some (r, S1) ∧ f_M_link (x (1)) (x (2)) (x (3)) (x (4)) S1 = some (r', S2)
  | 3, x, S, S2 => ∃ (r r' : Int32) (S1 : SS), f_Yard_exit (x (1)) (x (2)) ((if x (3) = 0 then (0 : Int32) else 1)) S = some (r, S1) ∧ f_M_exit (x (1)) (x (2)) ((if x (3) = 0 then (0 : Int32) else 1)) S1 = some (r', S2)
  | 4, x, S, S2 => ∃ (r r' : Int32) (S1 : SS), f_Yard_wagon (x (1)) (x (2)) (x (3)) (x (4)) (x (5)) S = some (r, S1) ∧ f_M_wagon (x (1)) (x (2)) (x (3)) (x (4)) (x (5)) S1 = some (r', S2)
  | 5, x, S, S2 => ∃ (r r' : Int32) (S1 : SS), f_Yard_engine ((if x (1) = 0 then (0 : Int32) else 1)) (x (2)) (x (3)) (x (4)) S = some (r, S1) ∧ f_M_engine ((if x (1) = 0 then (0 : Int32) else 1)) (x (2)) (x (3)) (x (4)) S1 = some (r', S2)
  | 6, x, S, S2 => ∃ (r r' : Int32) (S1 : SS), f_Yard_bar (x (1)) (x (2)) ((if x (3) = 0 then (0 : Int32) else 1)) S = some (r, S1) ∧ f_M_bar (x (1)) (x (2)) ((if x (3) = 0 then (0 : Int32) else 1)) S1 = some (r', S2)
  | 7, x, S, S2 => ∃ (r r' : Int32) (S1 : SS), f_Yard_table (x (1)) (x (2)) S = some (r, S1) ∧ f_M_table (x (1)) (x (2)) S1 = some (r', S2)
  | 8, x, S, S2 => ∃ (r r' : Int32) (S1 : SS), f_Yard_route  S = some (r, S1) ∧ f_M_route  S1 = some (r', S2)
  | 9, x, S, S2 => ∃ (r r' : Int32) (S1 : SS), f_Yard_via (x (1)) (x (2)) (x (3)) (x (4)) S = some (r, S1) ∧ f_M_via (x (1)) (x (2)) (x (3)) (x (4)) S1 = some (r', S2)
  | 10, x, S, S2 => ∃ (r r' : Int32) (S1 : SS), f_Yard_load (x (1)) (x (2)) (x (3)) S = some (r, S1) ∧ f_M_load (x (1)) (x (2)) (x (3)) S1 = some (r', S2)
  | 11, x, S, S2 => ∃ (r r' : Int32) (S1 : SS), f_Yard_piece (x (1)) (x (2)) (x (3)) (x (4)) S = some (r, S1) ∧ f_M_piece (x (1)) (x (2)) (x (3)) (x (4)) S1 = some (r', S2)
  | 12, x, S, S2 => ∃ (r r' : Int32) (S1 : SS), f_Yard_danger (x (1)) (x (2)) S = some (r, S1) ∧ f_M_danger (x (1)) (x (2)) S1 = some (r', S2)
  | 13, x, S, S2 => ∃ (r r' : Int32) (S1 : SS), f_Yard_hold (x (1)) (x (2)) S = some (r, S1) ∧ f_M_hold (x (1)) (x (2)) S1 = some (r', S2)
  | 14, x, S, S2 => ∃ (r r' : Int32) (S1 : SS), f_Yard_jam (x (1)) (x (2)) S = some (r, S1) ∧ f_M_jam (x (1)) (x (2)) S1 = some (r', S2)
  | 15, x, S, S2 => ∃ (r r' : Int32) (S1 : SS), f_Yard_raise (x (1)) S = some (r, S1) ∧ f_M_raise (x (1)) S1 = some (r', S2)
  | 16, x, S, S2 => ∃ (r r' : Int32) (S1 : SS), f_Yard_turn (x (1)) (x (2)) S = some (r, S1) ∧ f_M_turn (x (1)) (x (2)) S1 = some (r', S2)
  | 17, x, S, S2 => ∃ (r r' : Int32) (S1 : SS), f_Yard_lock (x (1)) S = some (r, S1) ∧ f_M_lock (x (1)) S1 = some (r', S2)
  | 18, x, S, S2 => ∃ (r r' : Int32) (S1 : SS), f_Yard_free (x (1)) S = some (r, S1) ∧ f_M_free (x (1)) S1 = some (r', S2)
  | 19, x, S, S2 => ∃ (r r' : Int32) (S1 : SS), f_Yard_couple (x (1)) (x (2)) S = some (r, S1) ∧ f_M_couple (x (1)) (x (2)) S1 = some (r', S2)
  | 20, x, S, S2 => ∃ (r r' : Int32) (S1 : SS), f_Yard_part (x (1)) (x (2)) S = some (r, S1) ∧ f_M_part (x (1)) (x (2)) S1 = some (r', S2)
  | 21, x, S, S2 => ∃ (r r' : Int32) (S1 : SS), f_Yard_pull (x (1)) (x (2)) (x (3)) S = some (r, S1) ∧ f_M_pull (x (1)) (x (2)) (x (3)) S1 = some (r', S2)
  | 22, x, S, S2 => ∃ (r r' : Int32) (S1 : SS), f_Yard_kick (x (1)) (x (2)) S = some (r, S1) ∧ f_M_kick (x (1)) (x (2)) S1 = some (r', S2)
  | 23, x, S, S2 => ∃ (r r' : Int32) (S1 : SS), f_Yard_step (x (1)) S = some (r, S1) ∧ f_M_step (x (1)) S1 = some (r', S2)
  | 24, x, S, S2 => ∃ (r r' : Int32) (S1 : SS), f_Yard_test (x (1)) S = some (r, S1) ∧ f_M_test (x (1)) S1 = some (r', S2)
  | 25, x, S, S2 => ∃ (r r' : Int32) (S1 : SS), f_Yard_leave (x (1)) S = some (r, S1) ∧ f_M_leave (x (1)) S1 = some (r', S2)
  | 26, x, S, S2 => ∃ (r r' : Int32) (S1 : SS), f_Yard_roll (x (1)) (x (2)) (x (3)) S = some (r, S1) ∧ f_M_roll (x (1)) (x (2)) (x (3)) S1 = some (r', S2)
  | 27, x, S, S2 => ∃ (r r' : Int32) (S1 : SS), f_Yard_store (x (1)) (x (2)) S = some (r, S1) ∧ f_M_store (x (1)) (x (2)) S1 = some (r', S2)
  | 28, x, S, S2 => ∃ (r r' : Int32) (S1 : SS), f_Yard_rolled (x (1)) S = some (r, S1) ∧ f_M_rolled (x (1)) S1 = some (r', S2)
  | 29, x, S, S2 => ∃ (r r' : Int32) (S1 : SS), f_Yard_at (x (1)) (x (2)) S = some (r, S1) ∧ f_M_at (x (1)) (x (2)) S1 = some (r', S2)
  | 30, x, S, S2 => ∃ (r r' : Int32) (S1 : SS), f_Yard_thing (x (1)) (x (2)) S = some (r, S1) ∧ f_M_thing (x (1)) (x (2)) S1 = some (r', S2)
  | 31, x, S, S2 => ∃ (r r' : Int32) (S1 : SS), f_Yard_pointed (x (1)) (x (2)) S = some (r, S1) ∧ f_M_pointed (x (1)) (x (2)) S1 = some (r', S2)
  | 32, x, S, S2 => ∃ (r r' : Int32) (S1 : SS), f_Yard_ask (x (1)) (x (2)) S = some (r, S1) ∧ f_M_ask (x (1)) (x (2)) S1 = some (r', S2)
  | 33, x, S, S2 => ∃ (r r' : Int32) (S1 : SS), f_Yard_meet (x (1)) (x (2)) (x (3)) S = some (r, S1) ∧ f_M_meet (x (1)) (x (2)) (x (3)) S1 = some (r', S2)
  | 34, x, S, S2 => ∃ (r r' : Int32) (S1 : SS), f_Yard_weigh (x (1)) S = some (r, S1) ∧ f_M_weigh (x (1)) S1 = some (r', S2)
  | 35, x, S, S2 => ∃ (r r' : Int32) (S1 : SS), f_Yard_share (x (1)) S = some (r, S1) ∧ f_M_share (x (1)) S1 = some (r', S2)
  | 36, x, S, S2 => ∃ (r r' : Int32) (S1 : SS), f_Yard_consist (x (1)) (x (2)) S = some (r, S1) ∧ f_M_consist (x (1)) (x (2)) S1 = some (r', S2)
  | 37, x, S, S2 => ∃ (r r' : Int32) (S1 : SS), f_Yard_finding (x (1)) S = some (r, S1) ∧ f_M_finding (x (1)) S1 = some (r', S2)
  | 38, x, S, S2 => ∃ (r r' : Int32) (S1 : SS), f_Yard_count (x (1)) S = some (r, S1) ∧ f_M_count (x (1)) S1 = some (r', S2)
  | 39, x, S, S2 => ∃ (r r' : Int32) (S1 : SS), f_Yard_trace (x (1)) S = some (r, S1) ∧ f_M_trace (x (1)) S1 = some (r', S2)
  | 40, x, S, S2 => ∃ (r r' : Int32) (S1 : SS), f_Yard_undo  S = some (r, S1) ∧ f_M_undo  S1 = some (r', S2)
  | 41, x, S, S2 => ∃ (r r' : Int32) (S1 : SS), f_Yard_back  S = some (r, S1) ∧ f_M_back  S1 = some (r', S2)
  | 42, x, S, S2 => ∃ (r r' : Int64) (S1 : SS), f_Yard_digest  S = some (r, S1) ∧ f_M_digest  S1 = some (r', S2)
  | 43, x, S, S2 => ∃ (r r' : Int32) (S1 : SS), f_Yard_log (x (1)) (x (2)) S = some (r, S1) ∧ f_M_log (x (1)) (x (2)) S1 = some (r', S2)
  | 44, x, S, S2 => ∃ (r r' : Int32) (S1 : SS), f_Yard_room (x (1)) (x (2)) S = some (r, S1) ∧ f_M_room (x (1)) (x (2)) S1 = some (r', S2)
  | 45, x, S, S2 => ∃ (r : Int32) (S1 : SS), f_Yard_lay ((if x (1) = 0 then (0 : Int32) else 1)) (x (2)) (x (3)) S = some (r, S1) ∧ f_M_lay ((if x (1) = 0 then (0 : Int32) else 1)) (x (2)) (x (3)) S1 = some (r, S2)
  | 46, x, S, S2 => ∃ (r r' : Int32) (S1 : SS), f_Yard_wipe  S = some (r, S1) ∧ f_M_wipe  S1 = some (r', S2)
  | 47, x, S, S2 => ∃ (r r' : Int32) (S1 : SS), f_Yard_plan (x (1)) S = some (r, S1) ∧ f_M_plan (x (1)) S1 = some (r', S2)
  | 48, x, S, S2 => ∃ (r r' : Int32) (S1 : SS), f_Yard_move (x (1)) (x (2)) S = some (r, S1) ∧ f_M_move (x (1)) (x (2)) S1 = some (r', S2)
  | 49, x, S, S2 => ∃ (r r' : Int32) (S1 : SS), f_Yard_bound  S = some (r, S1) ∧ f_M_bound  S1 = some (r', S2)
  | 50, x, S, S2 => ∃ (r r' : Int32) (S1 : SS), f_Yard_proof (x (1)) S = some (r, S1) ∧ f_M_proof (x (1)) S1 = some (r', S2)
  | 51, x, S, S2 => ∃ (r r' : Int32) (S1 : SS), f_Yard_spoil (x (1)) (x (2)) S = some (r, S1) ∧ f_M_spoil (x (1)) (x (2)) S1 = some (r', S2)
  | 52, x, S, S2 => ∃ (r r' : Int32) (S1 : SS), f_Yard_check  S = some (r, S1) ∧ f_M_check  S1 = some (r', S2)
  | _, _, S, S2 => S2 = S
theorem ceOf_cg {cs : Nat → ClassId} {ad : Nat → Nat} {S S' : SS} {k : Nat} {d : dsc} (h1 : S'.1 k = S.1 k) (h2 : S'.2 k = S.2 k) : ceOf cs ad S' k d = ceOf cs ad S k d := by
  rcases d with ⟨ci, fs⟩ | ⟨t, n⟩
  · simp only [ceOf, h1]
  · rcases t with _ | _ | t <;> simp only [ceOf, h1, h2]
theorem dsT_len : dsT.length = 128 := by decide +kernel
theorem gh_ws (cs : Nat → ClassId) (ad : Nat → Nat) (S : SS) (d : Nat) : wsOf cs ad (gh S d) = wsOf cs ad S := by
  apply List.ext_getElem?
  intro i
  rw [wsF_get, wsF_get, Nat.zero_add]
  cases h : dsT[i]? with
  | none => rfl
  | some d' =>
    have hi : i < dsT.length := (List.getElem?_eq_some_iff.mp h).1
    rw [dsT_len] at hi
    simp only [Option.map_some]
    rw [ceOf_cg (S' := gh S d) (S := S) rfl (by show (if i = 200 then d else S.2 i) = S.2 i; rw [if_neg (by omega)])]
theorem gh_wo {dC : Nat → ClassId} {dI : Nat → Nat → Nat} {cs : Nat → ClassId} {ad : Nat → Nat} {A : Nat → Prop} {H0 : Heap} {D0 : Nat → Nat} {S : SS} {H : Heap} {locs : List Loc} (d : Nat) (w : Wo dC dI cs ad A H0 D0 S H locs) : Wo dC dI cs ad A H0 (gh S d).2 (gh S d) H locs := by
  obtain ⟨hP, hD, hS, -⟩ := w
  exact ⟨by rw [gh_ws]; exact hP, by rw [gh_ws]; exact hD, hS, rfl⟩
theorem li6 {L i : Nat} (hL : L ≤ 3072) (hi : i ≤ 4000) : (Int32.ofNat L - 6 < nI i) ↔ L < i + 6 := by
  have e1 : (nI i).toInt = (i : Int) := nI_toInt (by omega)
  have e2 : (Int32.ofNat L - 6).toInt = (L : Int) - 6 := by
    rw [Int32.toInt_sub, Int32.toInt_ofNat_of_lt (by omega), show (6 : Int32).toInt = 6 by decide]
    simp only [Int.bmod_def]
    omega
  rw [Int32.lt_iff_toInt_lt, e1, e2]
  omega
theorem dL_law_18 : decode cL_law 18 = .ok (.iload_n 3, 1) := dc_29 (by decide +kernel)
theorem dL_law_19 : decode cL_law 19 = .ok (.aload_n 0, 1) := dc_42 (by decide +kernel)
theorem dL_law_20 : decode cL_law 20 = .ok (.arraylength, 1) := dc_190 (by decide +kernel)
theorem dL_law_21 : decode cL_law 21 = .ok (.bipush 6, 2) := dc_16 (a := 6) (by decide +kernel) (by decide)
theorem dL_law_23 : decode cL_law 23 = .ok (.isub, 1) := dc_100 (by decide +kernel)
theorem dL_law_24 : decode cL_law 24 = .ok (.if_icmp .gt 1945, 3) := dc_163 (a := 7) (b := 153) (by decide +kernel) (by decide)
theorem dL_law_27 : decode cL_law 27 = .ok (.aload_n 0, 1) := dc_42 (by decide +kernel)
theorem dL_law_28 : decode cL_law 28 = .ok (.iload_n 3, 1) := dc_29 (by decide +kernel)
theorem dL_law_29 : decode cL_law 29 = .ok (.iaload, 1) := dc_46 (by decide +kernel)
theorem dL_law_30 : decode cL_law 30 = .ok (.bipush 63, 2) := dc_16 (a := 63) (by decide +kernel) (by decide)
theorem dL_law_32 : decode cL_law 32 = .ok (.iand, 1) := dc_126 (by decide +kernel)
theorem dL_law_33 : decode cL_law 33 = .ok (.tableswitch 1930 0 52 #[227, 250, 283, 336, 395, 458, 527, 586, 619, 632, 685, 728, 781, 814, 847, 880, 903, 936, 959, 982, 1015, 1048, 1091, 1124, 1147, 1170, 1193, 1236, 1269, 1292, 1325, 1358, 1391, 1424, 1467, 1490, 1513, 1546, 1569, 1592, 1615, 1628, 1641, 1654, 1687, 1720, 1779, 1792, 1815, 1848, 1861, 1884, 1917], 227) := by decide +kernel
theorem dL_law_1963 : decode cL_law 1963 = .ok (.iinc 3 6, 3) := dc_132 (a := 3) (b := 6) (by decide +kernel) (by decide)
theorem dL_law_1966 : decode cL_law 1966 = .ok (.goto (-1948), 3) := dc_167 (a := 248) (b := 100) (by decide +kernel) (by decide)
theorem dL_law_1969 : decode cL_law 1969 = .ok (.iconst 1, 1) := dc_4 (by decide +kernel)
theorem dL_law_1970 : decode cL_law 1970 = .ok (.ireturn, 1) := dc_172 (by decide +kernel)
section LWC
variable {p : Program} {l : Launch} {e : Env} {R : Room} {s : State} {m : MethodId} {args : Array Value} {below : List Frame} {meth : Method} {c : Code} {H : Heap} {locs : List Loc} {Q : State → Prop} {rt : Option FieldType} {ls : Array Slot} {dC : Nat → ClassId} {dI : Nat → Nat → Nat} {cs : Nat → ClassId} {ad : Nat → Nat} {A : Nat → Prop} {D0 : Nat → Nat} {cells slots b L i : Nat} {xs : Nat → Int32}
set_option maxRecDepth 100000 in
set_option maxHeartbeats 8000000 in
/-- one turn, from the switch to the loop's iinc -/
theorem law_sw (F : Fx p s m args meth c cL_law 4 RL rt dC dI cs A) (hX : va_X b L xs s s.heap) (hbl : b < s.heap.size) (hbA : ¬ A b) (hR1 : 8 ≤ R.frames) (hR2 : 340 ≤ R.locals) {S S2 : SS} {d : Nat} (hcs : cells + 8 * d ≤ R.cells ∧ slots + 18641 * d ≤ R.slots) (hi : i + 6 ≤ L) (hL : L ≤ 3072) (w : Wo dC dI cs ad A s.heap D0 S H locs) (hl : lv_has ls 4 [(0, .ref b), (1, .ref (ad 61)), (2, .ref (ad 0)), (3, .int (nI i))]) {n : Nat} (hn : n < 64) (hk : cOk n (fun k => xs (i + k)) (gh S d) S2)
    (kk : ∀ (ad : Nat → Nat) (D0 : Nat → Nat) (H : Heap) (locs : List Loc), lv_has ls 4 [(0, .ref b), (1, .ref (ad 61)), (2, .ref (ad 0)), (3, .int (nI i))] → Wo dC dI cs ad A s.heap D0 S2 H locs → W p l e R s m args below meth c H locs (cells + 8 * d) (slots + 18641 * d) Q (F0 m 1963 ls [])) : W p l e R s m args below meth c H locs cells slots Q (F0 m 33 ls [.int (nI n)]) := by
  have hx := F.1.1
  have hb := F.1.2.1
  have w := gh_wo d w
  have hc0 : cells ≤ R.cells ∧ slots ≤ R.slots := ⟨by omega, by omega⟩
  match n, hn, hk with
  | 0, _, hk =>
    refine lv_tableIn (pc := 33) (off := 227) (tgt := 260) hx hb dL_law_33 (by decide) (by decide) (by decide) (by decide) ?_
    obtain ⟨r, r', S1, h1, h2⟩ := hk
    exact lc_0 F hX hbl hbA hR1 hR2 hc0 hi hL w hl h1 h2 (fun H locs w => W.widen (by omega) (by omega) (kk ad _ H locs hl w))
  | 1, _, hk =>
    refine lv_tableIn (pc := 33) (off := 250) (tgt := 283) hx hb dL_law_33 (by decide) (by decide) (by decide) (by decide) ?_
    obtain ⟨r, r', S1, h1, h2⟩ := hk
    exact lc_1 F hX hbl hbA hR1 hR2 hc0 hi hL w hl h1 h2 (fun H locs w => W.widen (by omega) (by omega) (kk ad _ H locs hl w))
  | 2, _, hk =>
    refine lv_tableIn (pc := 33) (off := 283) (tgt := 316) hx hb dL_law_33 (by decide) (by decide) (by decide) (by decide) ?_
    obtain ⟨r, r', S1, h1, h2⟩ := hk
    exact lc_2 F hX hbl hbA hR1 hR2 hc0 hi hL w hl h1 h2 (fun H locs w => W.widen (by omega) (by omega) (kk ad _ H locs hl w))
  | 3, _, hk =>
    refine lv_tableIn (pc := 33) (off := 336) (tgt := 369) hx hb dL_law_33 (by decide) (by decide) (by decide) (by decide) ?_
    obtain ⟨r, r', S1, h1, h2⟩ := hk
    exact lc_3 F hX hbl hbA hR1 hR2 hc0 hi hL w hl h1 h2 (fun H locs w => W.widen (by omega) (by omega) (kk ad _ H locs hl w))
  | 4, _, hk =>
    refine lv_tableIn (pc := 33) (off := 395) (tgt := 428) hx hb dL_law_33 (by decide) (by decide) (by decide) (by decide) ?_
    obtain ⟨r, r', S1, h1, h2⟩ := hk
    exact lc_4 F hX hbl hbA hR1 hR2 hc0 hi hL w hl h1 h2 (fun H locs w => W.widen (by omega) (by omega) (kk ad _ H locs hl w))
  | 5, _, hk =>
    refine lv_tableIn (pc := 33) (off := 458) (tgt := 491) hx hb dL_law_33 (by decide) (by decide) (by decide) (by decide) ?_
    obtain ⟨r, r', S1, h1, h2⟩ := hk
    exact lc_5 F hX hbl hbA hR1 hR2 hc0 hi hL w hl h1 h2 (fun H locs w => W.widen (by omega) (by omega) (kk ad _ H locs hl w))
  | 6, _, hk =>
    refine lv_tableIn (pc := 33) (off := 527) (tgt := 560) hx hb dL_law_33 (by decide) (by decide) (by decide) (by decide) ?_
    obtain ⟨r, r', S1, h1, h2⟩ := hk
    exact lc_6 F hX hbl hbA hR1 hR2 hc0 hi hL w hl h1 h2 (fun H locs w => W.widen (by omega) (by omega) (kk ad _ H locs hl w))
  | 7, _, hk =>
    refine lv_tableIn (pc := 33) (off := 586) (tgt := 619) hx hb dL_law_33 (by decide) (by decide) (by decide) (by decide) ?_
    obtain ⟨r, r', S1, h1, h2⟩ := hk
    exact lc_7 F hX hbl hbA hR1 hR2 hc0 hi hL w hl h1 h2 (fun H locs w => W.widen (by omega) (by omega) (kk ad _ H locs hl w))
  | 8, _, hk =>
    refine lv_tableIn (pc := 33) (off := 619) (tgt := 652) hx hb dL_law_33 (by decide) (by decide) (by decide) (by decide) ?_
    obtain ⟨r, r', S1, h1, h2⟩ := hk
    exact lc_8 F hX hbl hbA hR1 hR2 hc0 hi hL w hl h1 h2 (fun H locs w => W.widen (by omega) (by omega) (kk ad _ H locs hl w))
  | 9, _, hk =>
    refine lv_tableIn (pc := 33) (off := 632) (tgt := 665) hx hb dL_law_33 (by decide) (by decide) (by decide) (by decide) ?_
    obtain ⟨r, r', S1, h1, h2⟩ := hk
    exact lc_9 F hX hbl hbA hR1 hR2 hc0 hi hL w hl h1 h2 (fun H locs w => W.widen (by omega) (by omega) (kk ad _ H locs hl w))
  | 10, _, hk =>
    refine lv_tableIn (pc := 33) (off := 685) (tgt := 718) hx hb dL_law_33 (by decide) (by decide) (by decide) (by decide) ?_
    obtain ⟨r, r', S1, h1, h2⟩ := hk
    exact lc_10 F hX hbl hbA hR1 hR2 hc0 hi hL w hl h1 h2 (fun H locs w => W.widen (by omega) (by omega) (kk ad _ H locs hl w))
  | 11, _, hk =>
    refine lv_tableIn (pc := 33) (off := 728) (tgt := 761) hx hb dL_law_33 (by decide) (by decide) (by decide) (by decide) ?_
    obtain ⟨r, r', S1, h1, h2⟩ := hk
    exact lc_11 F hX hbl hbA hR1 hR2 hc0 hi hL w hl h1 h2 (fun H locs w => W.widen (by omega) (by omega) (kk ad _ H locs hl w))
  | 12, _, hk =>
    refine lv_tableIn (pc := 33) (off := 781) (tgt := 814) hx hb dL_law_33 (by decide) (by decide) (by decide) (by decide) ?_
    obtain ⟨r, r', S1, h1, h2⟩ := hk
    exact lc_12 F hX hbl hbA hR1 hR2 hc0 hi hL w hl h1 h2 (fun H locs w => W.widen (by omega) (by omega) (kk ad _ H locs hl w))
  | 13, _, hk =>
    refine lv_tableIn (pc := 33) (off := 814) (tgt := 847) hx hb dL_law_33 (by decide) (by decide) (by decide) (by decide) ?_
    obtain ⟨r, r', S1, h1, h2⟩ := hk
    exact lc_13 F hX hbl hbA hR1 hR2 hc0 hi hL w hl h1 h2 (fun H locs w => W.widen (by omega) (by omega) (kk ad _ H locs hl w))
  | 14, _, hk =>
    refine lv_tableIn (pc := 33) (off := 847) (tgt := 880) hx hb dL_law_33 (by decide) (by decide) (by decide) (by decide) ?_
    obtain ⟨r, r', S1, h1, h2⟩ := hk
    exact lc_14 F hX hbl hbA hR1 hR2 hc0 hi hL w hl h1 h2 (fun H locs w => W.widen (by omega) (by omega) (kk ad _ H locs hl w))
  | 15, _, hk =>
    refine lv_tableIn (pc := 33) (off := 880) (tgt := 913) hx hb dL_law_33 (by decide) (by decide) (by decide) (by decide) ?_
    obtain ⟨r, r', S1, h1, h2⟩ := hk
    exact lc_15 F hX hbl hbA hR1 hR2 hc0 hi hL w hl h1 h2 (fun H locs w => W.widen (by omega) (by omega) (kk ad _ H locs hl w))
  | 16, _, hk =>
    refine lv_tableIn (pc := 33) (off := 903) (tgt := 936) hx hb dL_law_33 (by decide) (by decide) (by decide) (by decide) ?_
    obtain ⟨r, r', S1, h1, h2⟩ := hk
    exact lc_16 F hX hbl hbA hR1 hR2 hc0 hi hL w hl h1 h2 (fun H locs w => W.widen (by omega) (by omega) (kk ad _ H locs hl w))
  | 17, _, hk =>
    refine lv_tableIn (pc := 33) (off := 936) (tgt := 969) hx hb dL_law_33 (by decide) (by decide) (by decide) (by decide) ?_
    obtain ⟨r, r', S1, h1, h2⟩ := hk
    exact lc_17 F hX hbl hbA hR1 hR2 hc0 hi hL w hl h1 h2 (fun H locs w => W.widen (by omega) (by omega) (kk ad _ H locs hl w))
  | 18, _, hk =>
    refine lv_tableIn (pc := 33) (off := 959) (tgt := 992) hx hb dL_law_33 (by decide) (by decide) (by decide) (by decide) ?_
    obtain ⟨r, r', S1, h1, h2⟩ := hk
    exact lc_18 F hX hbl hbA hR1 hR2 hc0 hi hL w hl h1 h2 (fun H locs w => W.widen (by omega) (by omega) (kk ad _ H locs hl w))
  | 19, _, hk =>
    refine lv_tableIn (pc := 33) (off := 982) (tgt := 1015) hx hb dL_law_33 (by decide) (by decide) (by decide) (by decide) ?_
    obtain ⟨r, r', S1, h1, h2⟩ := hk
    exact lc_19 F hX hbl hbA hR1 hR2 hc0 hi hL w hl h1 h2 (fun H locs w => W.widen (by omega) (by omega) (kk ad _ H locs hl w))
  | 20, _, hk =>
    refine lv_tableIn (pc := 33) (off := 1015) (tgt := 1048) hx hb dL_law_33 (by decide) (by decide) (by decide) (by decide) ?_
    obtain ⟨r, r', S1, h1, h2⟩ := hk
    exact lc_20 F hX hbl hbA hR1 hR2 hc0 hi hL w hl h1 h2 (fun H locs w => W.widen (by omega) (by omega) (kk ad _ H locs hl w))
  | 21, _, hk =>
    refine lv_tableIn (pc := 33) (off := 1048) (tgt := 1081) hx hb dL_law_33 (by decide) (by decide) (by decide) (by decide) ?_
    obtain ⟨r, r', S1, h1, h2⟩ := hk
    exact lc_21 F hX hbl hbA hR1 hR2 hc0 hi hL w hl h1 h2 (fun H locs w => W.widen (by omega) (by omega) (kk ad _ H locs hl w))
  | 22, _, hk =>
    refine lv_tableIn (pc := 33) (off := 1091) (tgt := 1124) hx hb dL_law_33 (by decide) (by decide) (by decide) (by decide) ?_
    obtain ⟨r, r', S1, h1, h2⟩ := hk
    exact lc_22 F hX hbl hbA hR1 hR2 hc0 hi hL w hl h1 h2 (fun H locs w => W.widen (by omega) (by omega) (kk ad _ H locs hl w))
  | 23, _, hk =>
    refine lv_tableIn (pc := 33) (off := 1124) (tgt := 1157) hx hb dL_law_33 (by decide) (by decide) (by decide) (by decide) ?_
    obtain ⟨r, r', S1, h1, h2⟩ := hk
    exact lc_23 F hX hbl hbA hR1 hR2 hc0 hi hL w hl h1 h2 (fun H locs w => W.widen (by omega) (by omega) (kk ad _ H locs hl w))
  | 24, _, hk =>
    refine lv_tableIn (pc := 33) (off := 1147) (tgt := 1180) hx hb dL_law_33 (by decide) (by decide) (by decide) (by decide) ?_
    obtain ⟨r, r', S1, h1, h2⟩ := hk
    exact lc_24 F hX hbl hbA hR1 hR2 hc0 hi hL w hl h1 h2 (fun H locs w => W.widen (by omega) (by omega) (kk ad _ H locs hl w))
  | 25, _, hk =>
    refine lv_tableIn (pc := 33) (off := 1170) (tgt := 1203) hx hb dL_law_33 (by decide) (by decide) (by decide) (by decide) ?_
    obtain ⟨r, r', S1, h1, h2⟩ := hk
    exact lc_25 F hX hbl hbA hR1 hR2 hc0 hi hL w hl h1 h2 (fun H locs w => W.widen (by omega) (by omega) (kk ad _ H locs hl w))
  | 26, _, hk =>
    refine lv_tableIn (pc := 33) (off := 1193) (tgt := 1226) hx hb dL_law_33 (by decide) (by decide) (by decide) (by decide) ?_
    obtain ⟨r, r', S1, h1, h2⟩ := hk
    exact lc_26 F hX hbl hbA hR1 hR2 hc0 hi hL w hl h1 h2 (fun H locs w => W.widen (by omega) (by omega) (kk ad _ H locs hl w))
  | 27, _, hk =>
    refine lv_tableIn (pc := 33) (off := 1236) (tgt := 1269) hx hb dL_law_33 (by decide) (by decide) (by decide) (by decide) ?_
    obtain ⟨r, r', S1, h1, h2⟩ := hk
    exact lc_27 F hX hbl hbA hR1 hR2 hc0 hi hL w hl h1 h2 (fun H locs w => W.widen (by omega) (by omega) (kk ad _ H locs hl w))
  | 28, _, hk =>
    refine lv_tableIn (pc := 33) (off := 1269) (tgt := 1302) hx hb dL_law_33 (by decide) (by decide) (by decide) (by decide) ?_
    obtain ⟨r, r', S1, h1, h2⟩ := hk
    exact lc_28 F hX hbl hbA hR1 hR2 hc0 hi hL w hl h1 h2 (fun H locs w => W.widen (by omega) (by omega) (kk ad _ H locs hl w))
  | 29, _, hk =>
    refine lv_tableIn (pc := 33) (off := 1292) (tgt := 1325) hx hb dL_law_33 (by decide) (by decide) (by decide) (by decide) ?_
    obtain ⟨r, r', S1, h1, h2⟩ := hk
    exact lc_29 F hX hbl hbA hR1 hR2 hc0 hi hL w hl h1 h2 (fun H locs w => W.widen (by omega) (by omega) (kk ad _ H locs hl w))
  | 30, _, hk =>
    refine lv_tableIn (pc := 33) (off := 1325) (tgt := 1358) hx hb dL_law_33 (by decide) (by decide) (by decide) (by decide) ?_
    obtain ⟨r, r', S1, h1, h2⟩ := hk
    exact lc_30 F hX hbl hbA hR1 hR2 hc0 hi hL w hl h1 h2 (fun H locs w => W.widen (by omega) (by omega) (kk ad _ H locs hl w))
  | 31, _, hk =>
    refine lv_tableIn (pc := 33) (off := 1358) (tgt := 1391) hx hb dL_law_33 (by decide) (by decide) (by decide) (by decide) ?_
    obtain ⟨r, r', S1, h1, h2⟩ := hk
    exact lc_31 F hX hbl hbA hR1 hR2 hc0 hi hL w hl h1 h2 (fun H locs w => W.widen (by omega) (by omega) (kk ad _ H locs hl w))
  | 32, _, hk =>
    refine lv_tableIn (pc := 33) (off := 1391) (tgt := 1424) hx hb dL_law_33 (by decide) (by decide) (by decide) (by decide) ?_
    obtain ⟨r, r', S1, h1, h2⟩ := hk
    exact lc_32 F hX hbl hbA hR1 hR2 hc0 hi hL w hl h1 h2 (fun H locs w => W.widen (by omega) (by omega) (kk ad _ H locs hl w))
  | 33, _, hk =>
    refine lv_tableIn (pc := 33) (off := 1424) (tgt := 1457) hx hb dL_law_33 (by decide) (by decide) (by decide) (by decide) ?_
    obtain ⟨r, r', S1, h1, h2⟩ := hk
    exact lc_33 F hX hbl hbA hR1 hR2 hc0 hi hL w hl h1 h2 (fun H locs w => W.widen (by omega) (by omega) (kk ad _ H locs hl w))
  | 34, _, hk =>
    refine lv_tableIn (pc := 33) (off := 1467) (tgt := 1500) hx hb dL_law_33 (by decide) (by decide) (by decide) (by decide) ?_
    obtain ⟨r, r', S1, h1, h2⟩ := hk
    exact lc_34 F hX hbl hbA hR1 hR2 hc0 hi hL w hl h1 h2 (fun H locs w => W.widen (by omega) (by omega) (kk ad _ H locs hl w))
  | 35, _, hk =>
    refine lv_tableIn (pc := 33) (off := 1490) (tgt := 1523) hx hb dL_law_33 (by decide) (by decide) (by decide) (by decide) ?_
    obtain ⟨r, r', S1, h1, h2⟩ := hk
    exact lc_35 F hX hbl hbA hR1 hR2 hc0 hi hL w hl h1 h2 (fun H locs w => W.widen (by omega) (by omega) (kk ad _ H locs hl w))
  | 36, _, hk =>
    refine lv_tableIn (pc := 33) (off := 1513) (tgt := 1546) hx hb dL_law_33 (by decide) (by decide) (by decide) (by decide) ?_
    obtain ⟨r, r', S1, h1, h2⟩ := hk
    exact lc_36 F hX hbl hbA hR1 hR2 hc0 hi hL w hl h1 h2 (fun H locs w => W.widen (by omega) (by omega) (kk ad _ H locs hl w))
  | 37, _, hk =>
    refine lv_tableIn (pc := 33) (off := 1546) (tgt := 1579) hx hb dL_law_33 (by decide) (by decide) (by decide) (by decide) ?_
    obtain ⟨r, r', S1, h1, h2⟩ := hk
    exact lc_37 F hX hbl hbA hR1 hR2 hc0 hi hL w hl h1 h2 (fun H locs w => W.widen (by omega) (by omega) (kk ad _ H locs hl w))
  | 38, _, hk =>
    refine lv_tableIn (pc := 33) (off := 1569) (tgt := 1602) hx hb dL_law_33 (by decide) (by decide) (by decide) (by decide) ?_
    obtain ⟨r, r', S1, h1, h2⟩ := hk
    exact lc_38 F hX hbl hbA hR1 hR2 hc0 hi hL w hl h1 h2 (fun H locs w => W.widen (by omega) (by omega) (kk ad _ H locs hl w))
  | 39, _, hk =>
    refine lv_tableIn (pc := 33) (off := 1592) (tgt := 1625) hx hb dL_law_33 (by decide) (by decide) (by decide) (by decide) ?_
    obtain ⟨r, r', S1, h1, h2⟩ := hk
    exact lc_39 F hX hbl hbA hR1 hR2 hc0 hi hL w hl h1 h2 (fun H locs w => W.widen (by omega) (by omega) (kk ad _ H locs hl w))
  | 40, _, hk =>
    refine lv_tableIn (pc := 33) (off := 1615) (tgt := 1648) hx hb dL_law_33 (by decide) (by decide) (by decide) (by decide) ?_
    obtain ⟨r, r', S1, h1, h2⟩ := hk
    exact lc_40 F hX hbl hbA hR1 hR2 hc0 hi hL w hl h1 h2 (fun ad H locs hl w => W.widen (by omega) (by omega) (kk ad _ H locs hl w))
  | 41, _, hk =>
    refine lv_tableIn (pc := 33) (off := 1628) (tgt := 1661) hx hb dL_law_33 (by decide) (by decide) (by decide) (by decide) ?_
    obtain ⟨r, r', S1, h1, h2⟩ := hk
    exact lc_41 F hX hbl hbA hR1 hR2 hc0 hi hL w hl h1 h2 (fun ad H locs hl w => W.widen (by omega) (by omega) (kk ad _ H locs hl w))
  | 42, _, hk =>
    refine lv_tableIn (pc := 33) (off := 1641) (tgt := 1674) hx hb dL_law_33 (by decide) (by decide) (by decide) (by decide) ?_
    obtain ⟨r, r', S1, h1, h2⟩ := hk
    exact lc_42 F hX hbl hbA hR1 hR2 hc0 hi hL w hl h1 h2 (fun H locs w => W.widen (by omega) (by omega) (kk ad _ H locs hl w))
  | 43, _, hk =>
    refine lv_tableIn (pc := 33) (off := 1654) (tgt := 1687) hx hb dL_law_33 (by decide) (by decide) (by decide) (by decide) ?_
    obtain ⟨r, r', S1, h1, h2⟩ := hk
    exact lc_43 F hX hbl hbA hR1 hR2 hc0 hi hL w hl h1 h2 (fun H locs w => W.widen (by omega) (by omega) (kk ad _ H locs hl w))
  | 44, _, hk =>
    refine lv_tableIn (pc := 33) (off := 1687) (tgt := 1720) hx hb dL_law_33 (by decide) (by decide) (by decide) (by decide) ?_
    obtain ⟨r, r', S1, h1, h2⟩ := hk
    exact lc_44 F hX hbl hbA hR1 hR2 hc0 hi hL w hl h1 h2 (fun H locs w => W.widen (by omega) (by omega) (kk ad _ H locs hl w))
  | 45, _, hk =>
    refine lv_tableIn (pc := 33) (off := 1720) (tgt := 1753) hx hb dL_law_33 (by decide) (by decide) (by decide) (by decide) ?_
    obtain ⟨r, S1, h1, h2⟩ := hk
    exact lc_45 F hX hbl hbA hR1 hR2 hc0 hi hL w hl h1 h2 rfl (fun H locs w => W.widen (by omega) (by omega) (kk ad _ H locs hl w))
  | 46, _, hk =>
    refine lv_tableIn (pc := 33) (off := 1779) (tgt := 1812) hx hb dL_law_33 (by decide) (by decide) (by decide) (by decide) ?_
    obtain ⟨r, r', S1, h1, h2⟩ := hk
    exact lc_46 F hX hbl hbA hR1 hR2 hc0 hi hL w hl h1 h2 (fun H locs w => W.widen (by omega) (by omega) (kk ad _ H locs hl w))
  | 47, _, hk =>
    refine lv_tableIn (pc := 33) (off := 1792) (tgt := 1825) hx hb dL_law_33 (by decide) (by decide) (by decide) (by decide) ?_
    obtain ⟨r, r', S1, h1, h2⟩ := hk
    exact lc_47 F hX hbl hbA hR1 hR2 hcs hi hL w hl h1 h2 (fun ad H locs hl w => kk ad _ H locs hl w)
  | 48, _, hk =>
    refine lv_tableIn (pc := 33) (off := 1815) (tgt := 1848) hx hb dL_law_33 (by decide) (by decide) (by decide) (by decide) ?_
    obtain ⟨r, r', S1, h1, h2⟩ := hk
    exact lc_48 F hX hbl hbA hR1 hR2 hc0 hi hL w hl h1 h2 (fun H locs w => W.widen (by omega) (by omega) (kk ad _ H locs hl w))
  | 49, _, hk =>
    refine lv_tableIn (pc := 33) (off := 1848) (tgt := 1881) hx hb dL_law_33 (by decide) (by decide) (by decide) (by decide) ?_
    obtain ⟨r, r', S1, h1, h2⟩ := hk
    exact lc_49 F hX hbl hbA hR1 hR2 hc0 hi hL w hl h1 h2 (fun H locs w => W.widen (by omega) (by omega) (kk ad _ H locs hl w))
  | 50, _, hk =>
    refine lv_tableIn (pc := 33) (off := 1861) (tgt := 1894) hx hb dL_law_33 (by decide) (by decide) (by decide) (by decide) ?_
    obtain ⟨r, r', S1, h1, h2⟩ := hk
    exact lc_50 F hX hbl hbA hR1 hR2 hc0 hi hL w hl h1 h2 (fun H locs w => W.widen (by omega) (by omega) (kk ad _ H locs hl w))
  | 51, _, hk =>
    refine lv_tableIn (pc := 33) (off := 1884) (tgt := 1917) hx hb dL_law_33 (by decide) (by decide) (by decide) (by decide) ?_
    obtain ⟨r, r', S1, h1, h2⟩ := hk
    exact lc_51 F hX hbl hbA hR1 hR2 hc0 hi hL w hl h1 h2 (fun H locs w => W.widen (by omega) (by omega) (kk ad _ H locs hl w))
  | 52, _, hk =>
    refine lv_tableIn (pc := 33) (off := 1917) (tgt := 1950) hx hb dL_law_33 (by decide) (by decide) (by decide) (by decide) ?_
    obtain ⟨r, r', S1, h1, h2⟩ := hk
    exact lc_52 F hX hbl hbA hR1 hR2 hc0 hi hL w hl h1 h2 (fun H locs w => W.widen (by omega) (by omega) (kk ad _ H locs hl w))
  | 53, _, hk =>
    refine lv_tableOut (pc := 33) (tgt := 1963) hx hb dL_law_33 (by decide) (by decide) ?_
    have e : S2 = gh S d := hk
    subst e
    exact W.widen (by omega) (by omega) (kk ad _ H locs hl w)
  | 54, _, hk =>
    refine lv_tableOut (pc := 33) (tgt := 1963) hx hb dL_law_33 (by decide) (by decide) ?_
    have e : S2 = gh S d := hk
    subst e
    exact W.widen (by omega) (by omega) (kk ad _ H locs hl w)
  | 55, _, hk =>
    refine lv_tableOut (pc := 33) (tgt := 1963) hx hb dL_law_33 (by decide) (by decide) ?_
    have e : S2 = gh S d := hk
    subst e
    exact W.widen (by omega) (by omega) (kk ad _ H locs hl w)
  | 56, _, hk =>
    refine lv_tableOut (pc := 33) (tgt := 1963) hx hb dL_law_33 (by decide) (by decide) ?_
    have e : S2 = gh S d := hk
    subst e
    exact W.widen (by omega) (by omega) (kk ad _ H locs hl w)
  | 57, _, hk =>
    refine lv_tableOut (pc := 33) (tgt := 1963) hx hb dL_law_33 (by decide) (by decide) ?_
    have e : S2 = gh S d := hk
    subst e
    exact W.widen (by omega) (by omega) (kk ad _ H locs hl w)
  | 58, _, hk =>
    refine lv_tableOut (pc := 33) (tgt := 1963) hx hb dL_law_33 (by decide) (by decide) ?_
    have e : S2 = gh S d := hk
    subst e
    exact W.widen (by omega) (by omega) (kk ad _ H locs hl w)
  | 59, _, hk =>
    refine lv_tableOut (pc := 33) (tgt := 1963) hx hb dL_law_33 (by decide) (by decide) ?_
    have e : S2 = gh S d := hk
    subst e
    exact W.widen (by omega) (by omega) (kk ad _ H locs hl w)
  | 60, _, hk =>
    refine lv_tableOut (pc := 33) (tgt := 1963) hx hb dL_law_33 (by decide) (by decide) ?_
    have e : S2 = gh S d := hk
    subst e
    exact W.widen (by omega) (by omega) (kk ad _ H locs hl w)
  | 61, _, hk =>
    refine lv_tableOut (pc := 33) (tgt := 1963) hx hb dL_law_33 (by decide) (by decide) ?_
    have e : S2 = gh S d := hk
    subst e
    exact W.widen (by omega) (by omega) (kk ad _ H locs hl w)
  | 62, _, hk =>
    refine lv_tableOut (pc := 33) (tgt := 1963) hx hb dL_law_33 (by decide) (by decide) ?_
    have e : S2 = gh S d := hk
    subst e
    exact W.widen (by omega) (by omega) (kk ad _ H locs hl w)
  | 63, _, hk =>
    refine lv_tableOut (pc := 33) (tgt := 1963) hx hb dL_law_33 (by decide) (by decide) ?_
    have e : S2 = gh S d := hk
    subst e
    exact W.widen (by omega) (by omega) (kk ad _ H locs hl w)
  | n + 64, hn, _ => exact absurd hn (by omega)
/-- the loop: Rel k g S says of the world behind k calls, with g of them that made rows anew -/
theorem law_loop (F : Fx p s m args meth c cL_law 4 RL rt dC dI cs A) (hX : va_X b L xs s s.heap) (hbl : b < s.heap.size) (hbA : ¬ A b) (hR1 : 8 ≤ R.frames) (hR2 : 340 ≤ R.locals) (c0 s0 : Nat) (hL : L ≤ 3072) (N : Nat) (hN : L ≤ N) (Rel : Nat → Nat → SS → Prop) (hg : ∀ k g S, Rel k g S → c0 + 8 * g ≤ R.cells ∧ s0 + 18641 * g ≤ R.slots)
    (hstep : ∀ k g S, Rel k g S → 6 * k + 6 ≤ N → ∀ (n : Nat) (x : Nat → Int32), n < 64 → ∃ (d : Nat) (S2 : SS), cOk n x (gh S d) S2 ∧ Rel (k + 1) (g + d) S2)
    (hend : ∀ (k g : Nat) (S : SS) (ad D0 : Nat → Nat) (H : Heap) (locs : List Loc) (ls : Array Slot), Rel k g S → Wo dC dI cs ad A s.heap D0 S H locs → W p l e R s m args below meth c H locs (c0 + 8 * g) (s0 + 18641 * g) Q (F0 m 1969 ls [])) :
    ∀ (f k g : Nat) (S : SS) (ad D0 : Nat → Nat) (H : Heap) (locs : List Loc) (ls : Array Slot), L < 6 * k + 6 + f → 6 * k ≤ L + 6 → Rel k g S → Wo dC dI cs ad A s.heap D0 S H locs → lv_has ls 4 [(0, .ref b), (1, .ref (ad 61)), (2, .ref (ad 0)), (3, .int (nI (6 * k)))] → W p l e R s m args below meth c H locs (c0 + 8 * g) (s0 + 18641 * g) Q (F0 m 18 ls []) := by
  have hx := F.1.1
  have hb := F.1.2.1
  have turn : ∀ (f k g : Nat) (S : SS) (ad D0 : Nat → Nat) (H : Heap) (locs : List Loc) (ls : Array Slot), 6 * k ≤ L + 6 → Rel k g S → Wo dC dI cs ad A s.heap D0 S H locs → lv_has ls 4 [(0, .ref b), (1, .ref (ad 61)), (2, .ref (ad 0)), (3, .int (nI (6 * k)))] → (L < 6 * k + 6 ∨ ∀ (g : Nat) (S : SS) (ad D0 : Nat → Nat) (H : Heap) (locs : List Loc) (ls : Array Slot), 6 * (k + 1) ≤ L + 6 → Rel (k + 1) g S → Wo dC dI cs ad A s.heap D0 S H locs → lv_has ls 4 [(0, .ref b), (1, .ref (ad 61)), (2, .ref (ad 0)), (3, .int (nI (6 * (k + 1))))] → W p l e R s m args below meth c H locs (c0 + 8 * g) (s0 + 18641 * g) Q (F0 m 18 ls [])) → W p l e R s m args below meth c H locs (c0 + 8 * g) (s0 + 18641 * g) Q (F0 m 18 ls []) := by
    intro f k g S ad D0 H locs ls hk hr w hl hn
    refine lv_iload_n (pc := 18) hx hb dL_law_18 rfl (lv_at hl 3 rfl) ?_
    refine lv_aload_n (pc := 19) hx hb dL_law_19 rfl (lv_at hl 0 rfl) ?_
    refine va_slen (pc := 20) hx hb hX hbl hbA w.2.2.1 dL_law_20 ?_
    refine lv_bipush (pc := 21) (v := 6) hx hb dL_law_21 (by decide) ?_
    refine lv_isub (pc := 23) hx hb dL_law_23 ?_
    refine lv_icmp_gt (pc := 24) (tgt := 1969) hx hb dL_law_24 (by decide) (fun q => ?_) (fun q => ?_)
    · exact hend k g S ad D0 H locs ls hr w
    · rw [li6 hL (by omega)] at q
      have hi : 6 * k + 6 ≤ L := by omega
      refine lv_aload_n (pc := 27) hx hb dL_law_27 rfl (lv_at hl 0 rfl) ?_
      refine lv_iload_n (pc := 28) hx hb dL_law_28 rfl (lv_at hl 3 rfl) ?_
      refine va_sld (pc := 29) hx hb hX hbl hbA w.2.2.1 (vp_in_nI (show 6 * k < L by omega) (by omega)) dL_law_29 ?_
      rw [nI_clamp (show 6 * k < 2 ^ 31 by omega)]
      refine lv_bipush (pc := 30) (v := 63) hx hb dL_law_30 (by decide) ?_
      refine lv_iand (pc := 32) hx hb dL_law_32 ?_
      obtain ⟨n, hn64, en⟩ := pk_andE (xs (6 * k)) (m := 63) 6 (by decide)
      rw [en]
      obtain ⟨d, S2, hok, hr2⟩ := hstep k g S hr (by omega) n (fun j => xs (6 * k + j)) (by simpa using hn64)
      have hgg := hg _ _ _ hr2
      refine law_sw (i := 6 * k) F hX hbl hbA hR1 hR2 (d := d) ⟨by omega, by omega⟩ hi hL w hl (by simpa using hn64) hok (fun ad D0 H locs hl w => ?_)
      refine lv_iinc (pc := 1963) (v := nI (6 * k + 6)) (k := 3) (lv' := [(3, .int (nI (6 * k + 6))), (0, .ref b), (1, .ref (ad 61)), (2, .ref (ad 0))]) hx hb dL_law_1963 hl rfl (nI_add (6 * k) 6) (by decide) rfl (fun ls hl => ?_)
      refine lv_goto (pc := 1966) (tgt := 18) hx hb dL_law_1966 (by decide) ?_
      rcases hn with hn | hn
      · omega
      · have h2 := hn (g + d) S2 ad D0 H locs ls (by omega) hr2 w (lv_sub hl [1, 2, 3, 0] rfl)
        rw [show c0 + 8 * g + 8 * d = c0 + 8 * (g + d) by omega, show s0 + 18641 * g + 18641 * d = s0 + 18641 * (g + d) by omega]
        exact h2
  intro f
  induction f with
  | zero => intro k g S ad D0 H locs ls h1 h2 hr w hl; exact turn 0 k g S ad D0 H locs ls h2 hr w hl (Or.inl (by omega))
  | succ f ih => intro k g S ad D0 H locs ls h1 h2 hr w hl; exact turn (f + 1) k g S ad D0 H locs ls h2 hr w hl (Or.inr (fun g S ad D0 H locs ls h2 hr w hl => ih (k + 1) g S ad D0 H locs ls (by omega) h2 hr w hl))
end LWC
