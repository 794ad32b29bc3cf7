/-! ===== THINGS alike: the relation, each turn ===== -/
def rel2 : Nat → Nat → SS → Prop := fun k g S => Bs k g S ∧ ∃ n np nt L, L ≤ k ∧ Dz n np nt L S
theorem Bs.up {k g : Nat} {S : SS} (h : Bs k g S) : Bs (k + 1) g S := by
  obtain ⟨h1, h2, h3, h5, h6⟩ := h
  exact ⟨h1, h2, h3, by omega, by omega⟩
theorem up_y {k L : Nat} {S2 : SS} (h : L ≤ k) (q : ∃ n np nt L', L' ≤ L + 1 ∧ Dz n np nt L' S2) : ∃ n np nt L, L ≤ k + 1 ∧ Dz n np nt L S2 := by
  obtain ⟨n, np, nt, L', h1, h2⟩ := q
  exact ⟨n, np, nt, L', by omega, h2⟩
set_option maxRecDepth 20000 in
set_option maxHeartbeats 4000000 in
theorem rel2_step {k g : Nat} {S : SS} (h : rel2 k g S) (hk : k < 512) : ∀ (n : Nat) (x : Nat → Int32), n < 64 → ∃ (d : Nat) (S2 : SS), cOk n x (gh S d) S2 ∧ rel2 (k + 1) (g + d) S2
  | 0, x, _ => by
    obtain ⟨d, r1, r2, S1, S2, e1, e2, b, w, f1, f2⟩ := sc_0 (x := x) h.1 hk
    obtain ⟨n, np, nt, L, hL, z⟩ := h.2
    have z := z.gh d
    obtain ⟨q1, q2⟩ := track_st z w (fg_of f1 f2.f1 rfl) e1 e2
    exact ⟨d, S2, ⟨r1, r2, S1, e1, e2⟩, b, up_y hL q2⟩
  | 1, x, _ => by
    obtain ⟨d, r1, r2, S1, S2, e1, e2, b, w, f1, f2⟩ := sc_1 (x := x) h.1 hk
    obtain ⟨n, np, nt, L, hL, z⟩ := h.2
    have z := z.gh d
    obtain ⟨q1, q2⟩ := point_st z w (fg_of f1 f2.f1 rfl) e1 e2
    exact ⟨d, S2, ⟨r1, r2, S1, e1, e2⟩, b, up_y hL q2⟩
  | 2, x, _ => by
    obtain ⟨d, r1, r2, S1, S2, e1, e2, b, w, f1, f2⟩ := sc_2 (x := x) h.1 hk
    obtain ⟨n, np, nt, L, hL, z⟩ := h.2
    have z := z.gh d
    obtain ⟨q1, q2⟩ := link_st z w (fg_of f1 f2.f1 rfl) e1 e2
    exact ⟨d, S2, ⟨r1, r2, S1, e1, e2⟩, b, up_y hL q2⟩
  | 3, x, _ => by
    obtain ⟨d, r1, r2, S1, S2, e1, e2, b, w, f1, f2⟩ := sc_3 (x := x) h.1 hk
    obtain ⟨n, np, nt, L, hL, z⟩ := h.2
    have z := z.gh d
    obtain ⟨q1, q2⟩ := exit_st z w (fg_of f1 f2.f1 rfl) e1 e2
    exact ⟨d, S2, ⟨r1, r2, S1, e1, e2⟩, b, up_y hL q2⟩
  | 4, x, _ => by
    obtain ⟨d, r1, r2, S1, S2, e1, e2, b, w, f1, f2⟩ := sc_4 (x := x) h.1 hk
    obtain ⟨n, np, nt, L, hL, z⟩ := h.2
    have z := z.gh d
    obtain ⟨q1, q2⟩ := wagon_st z w (fg_of f1 f2.f1 rfl) e1 e2
    exact ⟨d, S2, ⟨r1, r2, S1, e1, e2⟩, b, up_y hL q2⟩
  | 5, x, _ => by
    obtain ⟨d, r1, r2, S1, S2, e1, e2, b, w, f1, f2⟩ := sc_5 (x := x) h.1 hk
    obtain ⟨n, np, nt, L, hL, z⟩ := h.2
    have z := z.gh d
    obtain ⟨q1, q2⟩ := engine_st z w (fg_of f1 f2.f1 rfl) e1 e2
    exact ⟨d, S2, ⟨r1, r2, S1, e1, e2⟩, b, up_y hL q2⟩
  | 6, x, _ => by
    obtain ⟨d, r1, r2, S1, S2, e1, e2, b, w, f1, f2⟩ := sc_6 (x := x) h.1 hk
    obtain ⟨n, np, nt, L, hL, z⟩ := h.2
    have z := z.gh d
    obtain ⟨q1, q2⟩ := bar_st z (fg_of f1 f2.f1 rfl) e1 e2
    exact ⟨d, S2, ⟨r1, r2, S1, e1, e2⟩, b, up_y hL q2⟩
  | 7, x, _ => by
    obtain ⟨d, r1, r2, S1, S2, e1, e2, b, w, f1, f2⟩ := sc_7 (x := x) h.1 hk
    obtain ⟨n, np, nt, L, hL, z⟩ := h.2
    have z := z.gh d
    obtain ⟨q1, q2⟩ := table_st z (fg_of f1 f2.f1 rfl) e1 e2
    exact ⟨d, S2, ⟨r1, r2, S1, e1, e2⟩, b, up_y hL q2⟩
  | 8, x, _ => by
    obtain ⟨d, r1, r2, S1, S2, e1, e2, b, w, f1, f2⟩ := sc_8 (x := x) h.1 hk
    obtain ⟨n, np, nt, L, hL, z⟩ := h.2
    have z := z.gh d
    obtain ⟨q1, q2⟩ := route_st z (fg_of f1 f2.f1 rfl) e1 e2
    exact ⟨d, S2, ⟨r1, r2, S1, e1, e2⟩, b, up_y hL q2⟩
  | 9, x, _ => by
    obtain ⟨d, r1, r2, S1, S2, e1, e2, b, w, f1, f2⟩ := sc_9 (x := x) h.1 hk
    obtain ⟨n, np, nt, L, hL, z⟩ := h.2
    have z := z.gh d
    obtain ⟨q1, q2⟩ := via_st z w (fg_of f1 f2.f1 rfl) e1 e2
    exact ⟨d, S2, ⟨r1, r2, S1, e1, e2⟩, b, up_y hL q2⟩
  | 10, x, _ => by
    obtain ⟨d, r1, r2, S1, S2, e1, e2, b, w, f1, f2⟩ := sc_10 (x := x) h.1 hk
    obtain ⟨n, np, nt, L, hL, z⟩ := h.2
    have z := z.gh d
    obtain ⟨q1, q2⟩ := load_st z w (fg_of f1 f2.f1 rfl) e1 e2
    exact ⟨d, S2, ⟨r1, r2, S1, e1, e2⟩, b, up_y hL q2⟩
  | 11, x, _ => by
    obtain ⟨d, r1, r2, S1, S2, e1, e2, b, w, f1, f2⟩ := sc_11 (x := x) h.1 hk
    obtain ⟨n, np, nt, L, hL, z⟩ := h.2
    have z := z.gh d
    obtain ⟨q1, q2⟩ := piece_st z w (fg_of f1 f2.f1 rfl) e1 e2
    exact ⟨d, S2, ⟨r1, r2, S1, e1, e2⟩, b, up_y hL q2⟩
  | 12, x, _ => by
    obtain ⟨d, r1, r2, S1, S2, e1, e2, b, w, f1, f2⟩ := sc_12 (x := x) h.1 hk
    obtain ⟨n, np, nt, L, hL, z⟩ := h.2
    have z := z.gh d
    obtain ⟨q1, q2⟩ := (danger_st z (by omega) h.1.1 w b.1 (fz_of f1 f2.f1 rfl) e1 e2).y
    exact ⟨d, S2, ⟨r1, r2, S1, e1, e2⟩, b, up_y hL q2⟩
  | 13, x, _ => by
    obtain ⟨d, r1, r2, S1, S2, e1, e2, b, w, f1, f2⟩ := sc_13 (x := x) h.1 hk
    obtain ⟨n, np, nt, L, hL, z⟩ := h.2
    have z := z.gh d
    obtain ⟨q1, q2⟩ := (hold_st z (by omega) h.1.1 w b.1 (fz_of f1 f2.f1 rfl) e1 e2).y
    exact ⟨d, S2, ⟨r1, r2, S1, e1, e2⟩, b, up_y hL q2⟩
  | 14, x, _ => by
    obtain ⟨d, r1, r2, S1, S2, e1, e2, b, w, f1, f2⟩ := sc_14 (x := x) h.1 hk
    obtain ⟨n, np, nt, L, hL, z⟩ := h.2
    have z := z.gh d
    obtain ⟨q1, q2⟩ := (jam_st z (by omega) h.1.1 w b.1 (fz_of f1 f2.f1 rfl) e1 e2).y
    exact ⟨d, S2, ⟨r1, r2, S1, e1, e2⟩, b, up_y hL q2⟩
  | 15, x, _ => by
    obtain ⟨d, r1, r2, S1, S2, e1, e2, b, w, f1, f2⟩ := sc_15 (x := x) h.1 hk
    obtain ⟨n, np, nt, L, hL, z⟩ := h.2
    have z := z.gh d
    obtain ⟨q1, q2⟩ := raise_st z w (fg_of f1 f2.f1 rfl) e1 e2
    exact ⟨d, S2, ⟨r1, r2, S1, e1, e2⟩, b, up_y hL q2⟩
  | 16, x, _ => by
    obtain ⟨d, r1, r2, S1, S2, e1, e2, b, w, f1, f2⟩ := sc_16 (x := x) h.1 hk
    obtain ⟨n, np, nt, L, hL, z⟩ := h.2
    have z := z.gh d
    obtain ⟨q1, q2⟩ := (turn_st z (by omega) h.1.1 w b.1 (fz_of f1 f2.f1 rfl) e1 e2).y
    exact ⟨d, S2, ⟨r1, r2, S1, e1, e2⟩, b, up_y hL q2⟩
  | 17, x, _ => by
    obtain ⟨d, r1, r2, S1, S2, e1, e2, b, w, f1, f2⟩ := sc_17 (x := x) h.1 hk
    obtain ⟨n, np, nt, L, hL, z⟩ := h.2
    have z := z.gh d
    obtain ⟨q1, q2⟩ := (lock_st z (by omega) h.1.1 w b.1 (fz_of f1 f2.f1 rfl) e1 e2).y
    exact ⟨d, S2, ⟨r1, r2, S1, e1, e2⟩, b, up_y hL q2⟩
  | 18, x, _ => by
    obtain ⟨d, r1, r2, S1, S2, e1, e2, b, w, f1, f2⟩ := sc_18 (x := x) h.1 hk
    obtain ⟨n, np, nt, L, hL, z⟩ := h.2
    have z := z.gh d
    obtain ⟨q1, q2⟩ := (free_st z (by omega) h.1.1 w b.1 (fz_of f1 f2.f1 rfl) e1 e2).y
    exact ⟨d, S2, ⟨r1, r2, S1, e1, e2⟩, b, up_y hL q2⟩
  | 19, x, _ => by
    obtain ⟨d, r1, r2, S1, S2, e1, e2, b, w, f1, f2⟩ := sc_19 (x := x) h.1 hk
    obtain ⟨n, np, nt, L, hL, z⟩ := h.2
    have z := z.gh d
    obtain ⟨q1, q2⟩ := (couple_st z (by omega) h.1.1 w b.1 (fz_of f1 f2.f1 rfl) e1 e2).y
    exact ⟨d, S2, ⟨r1, r2, S1, e1, e2⟩, b, up_y hL q2⟩
  | 20, x, _ => by
    obtain ⟨d, r1, r2, S1, S2, e1, e2, b, w, f1, f2⟩ := sc_20 (x := x) h.1 hk
    obtain ⟨n, np, nt, L, hL, z⟩ := h.2
    have z := z.gh d
    obtain ⟨q1, q2⟩ := (part_st z (by omega) h.1.1 w b.1 (fz_of f1 f2.f1 rfl) e1 e2).y
    exact ⟨d, S2, ⟨r1, r2, S1, e1, e2⟩, b, up_y hL q2⟩
  | 21, x, _ => by
    obtain ⟨d, r1, r2, S1, S2, e1, e2, b, w, f1, f2⟩ := sc_21 (x := x) h.1 hk
    obtain ⟨n, np, nt, L, hL, z⟩ := h.2
    have z := z.gh d
    obtain ⟨q1, q2⟩ := (pull_st z (by omega) h.1.1 w b.1 (fz_of f1 f2.f1 rfl) e1 e2).y
    exact ⟨d, S2, ⟨r1, r2, S1, e1, e2⟩, b, up_y hL q2⟩
  | 22, x, _ => by
    obtain ⟨d, r1, r2, S1, S2, e1, e2, b, w, f1, f2⟩ := sc_22 (x := x) h.1 hk
    obtain ⟨n, np, nt, L, hL, z⟩ := h.2
    have z := z.gh d
    obtain ⟨q1, q2⟩ := (kick_st z (by omega) h.1.1 w b.1 (fz_of f1 f2.f1 rfl) e1 e2).y
    exact ⟨d, S2, ⟨r1, r2, S1, e1, e2⟩, b, up_y hL q2⟩
  | 23, x, _ => by
    obtain ⟨d, r1, r2, S1, S2, e1, e2, b, w, f1, f2⟩ := sc_23 (x := x) h.1 hk
    obtain ⟨n, np, nt, L, hL, z⟩ := h.2
    have z := z.gh d
    obtain ⟨q1, q2⟩ := (step_st z (by omega) h.1.1 w b.1 (fz_of f1 f2.f1 rfl) e1 e2).y
    exact ⟨d, S2, ⟨r1, r2, S1, e1, e2⟩, b, up_y hL q2⟩
  | 24, x, _ => by
    obtain ⟨d, r1, r2, S1, S2, e1, e2, b, w, f1, f2⟩ := sc_24 (x := x) h.1 hk
    obtain ⟨n, np, nt, L, hL, z⟩ := h.2
    have z := z.gh d
    obtain ⟨q1, q2⟩ := (test_st z (by omega) h.1.1 w b.1 (fz_of f1 f2.f1 rfl) e1 e2).y
    exact ⟨d, S2, ⟨r1, r2, S1, e1, e2⟩, b, up_y hL q2⟩
  | 25, x, _ => by
    obtain ⟨d, r1, r2, S1, S2, e1, e2, b, w, f1, f2⟩ := sc_25 (x := x) h.1 hk
    obtain ⟨n, np, nt, L, hL, z⟩ := h.2
    have z := z.gh d
    obtain ⟨q1, q2⟩ := (leave_st z (by omega) h.1.1 w b.1 (fz_of f1 f2.f1 rfl) e1 e2).y
    exact ⟨d, S2, ⟨r1, r2, S1, e1, e2⟩, b, up_y hL q2⟩
  | 26, x, _ => by
    obtain ⟨d, r1, r2, S1, S2, e1, e2, b, w, f1, f2⟩ := sc_26 (x := x) h.1 hk
    obtain ⟨n, np, nt, L, hL, z⟩ := h.2
    have z := z.gh d
    obtain ⟨q1, q2⟩ := roll_st z w (fg_of f1 f2.f1 rfl) e1 e2
    exact ⟨d, S2, ⟨r1, r2, S1, e1, e2⟩, b, up_y hL q2⟩
  | 27, x, _ => by
    obtain ⟨d, r1, r2, S1, S2, e1, e2, b, w, f1, f2⟩ := sc_27 (x := x) h.1 hk
    obtain ⟨n, np, nt, L, hL, z⟩ := h.2
    have z := z.gh d
    obtain ⟨q1, q2⟩ := store_st z w (fg_of f1 f2.f1 rfl) e1 e2
    exact ⟨d, S2, ⟨r1, r2, S1, e1, e2⟩, b, up_y hL q2⟩
  | 28, x, _ => by
    obtain ⟨d, r1, r2, S1, S2, e1, e2, b, w, f1, f2⟩ := sc_28 (x := x) h.1 hk
    obtain ⟨n, np, nt, L, hL, z⟩ := h.2
    have z := z.gh d
    obtain ⟨q1, q2⟩ := rolled_st z w (fg_of f1 f2.f1 rfl) e1 e2
    exact ⟨d, S2, ⟨r1, r2, S1, e1, e2⟩, b, up_y hL q2⟩
  | 29, x, _ => by
    obtain ⟨d, r1, r2, S1, S2, e1, e2, b, w, f1, f2⟩ := sc_29 (x := x) h.1 hk
    obtain ⟨n, np, nt, L, hL, z⟩ := h.2
    have z := z.gh d
    obtain ⟨q1, q2⟩ := at_st z w (fg_of f1 f2.f1 rfl) e1 e2
    exact ⟨d, S2, ⟨r1, r2, S1, e1, e2⟩, b, up_y hL q2⟩
  | 30, x, _ => by
    obtain ⟨d, r1, r2, S1, S2, e1, e2, b, w, f1, f2⟩ := sc_30 (x := x) h.1 hk
    obtain ⟨n, np, nt, L, hL, z⟩ := h.2
    have z := z.gh d
    obtain ⟨q1, q2⟩ := thing_st z w (fg_of f1 f2.f1 rfl) e1 e2
    exact ⟨d, S2, ⟨r1, r2, S1, e1, e2⟩, b, up_y hL q2⟩
  | 31, x, _ => by
    obtain ⟨d, r1, r2, S1, S2, e1, e2, b, w, f1, f2⟩ := sc_31 (x := x) h.1 hk
    obtain ⟨n, np, nt, L, hL, z⟩ := h.2
    have z := z.gh d
    obtain ⟨q1, q2⟩ := pointed_st z w (fg_of f1 f2.f1 rfl) e1 e2
    exact ⟨d, S2, ⟨r1, r2, S1, e1, e2⟩, b, up_y hL q2⟩
  | 32, x, _ => by
    obtain ⟨d, r1, r2, S1, S2, e1, e2, b, w, f1, f2⟩ := sc_32 (x := x) h.1 hk
    obtain ⟨n, np, nt, L, hL, z⟩ := h.2
    have z := z.gh d
    obtain ⟨q1, q2⟩ := ask_st z w (fg_of f1 f2.f1 rfl) e1 e2
    exact ⟨d, S2, ⟨r1, r2, S1, e1, e2⟩, b, up_y hL q2⟩
  | 33, x, _ => by
    obtain ⟨d, r1, r2, S1, S2, e1, e2, b, w, f1, f2⟩ := sc_33 (x := x) h.1 hk
    obtain ⟨n, np, nt, L, hL, z⟩ := h.2
    have z := z.gh d
    obtain ⟨q1, q2⟩ := meet_st z w (fg_of f1 f2.f1 rfl) e1 e2
    exact ⟨d, S2, ⟨r1, r2, S1, e1, e2⟩, b, up_y hL q2⟩
  | 34, x, _ => by
    obtain ⟨d, r1, r2, S1, S2, e1, e2, b, w, f1, f2⟩ := sc_34 (x := x) h.1 hk
    obtain ⟨n, np, nt, L, hL, z⟩ := h.2
    have z := z.gh d
    obtain ⟨q1, q2⟩ := weigh_st z w (fg_of f1 f2.f1 rfl) e1 e2
    exact ⟨d, S2, ⟨r1, r2, S1, e1, e2⟩, b, up_y hL q2⟩
  | 35, x, _ => by
    obtain ⟨d, r1, r2, S1, S2, e1, e2, b, w, f1, f2⟩ := sc_35 (x := x) h.1 hk
    obtain ⟨n, np, nt, L, hL, z⟩ := h.2
    have z := z.gh d
    obtain ⟨q1, q2⟩ := share_st z w (fg_of f1 f2.f1 rfl) e1 e2
    exact ⟨d, S2, ⟨r1, r2, S1, e1, e2⟩, b, up_y hL q2⟩
  | 36, x, _ => by
    obtain ⟨d, r1, r2, S1, S2, e1, e2, b, w, f1, f2⟩ := sc_36 (x := x) h.1 hk
    obtain ⟨n, np, nt, L, hL, z⟩ := h.2
    have z := z.gh d
    obtain ⟨q1, q2⟩ := consist_st z w (fg_of f1 f2.f1 rfl) e1 e2
    subst q1
    exact ⟨d, S2, ⟨r1, S1, e1, e2⟩, b, up_y hL q2⟩
  | 37, x, _ => by
    obtain ⟨d, r1, r2, S1, S2, e1, e2, b, w, f1, f2⟩ := sc_37 (x := x) h.1 hk
    obtain ⟨n, np, nt, L, hL, z⟩ := h.2
    have z := z.gh d
    have q2 := kf_of z f1 f2.f1 rfl rfl
    exact ⟨d, S2, ⟨r1, r2, S1, e1, e2⟩, b, up_y hL q2⟩
  | 38, x, _ => by
    obtain ⟨d, r1, r2, S1, S2, e1, e2, b, w, f1, f2⟩ := sc_38 (x := x) h.1 hk
    obtain ⟨n, np, nt, L, hL, z⟩ := h.2
    have z := z.gh d
    have q2 := kf_of z f1 f2.f1 rfl rfl
    exact ⟨d, S2, ⟨r1, r2, S1, e1, e2⟩, b, up_y hL q2⟩
  | 39, x, _ => by
    obtain ⟨d, r1, r2, S1, S2, e1, e2, b, w, f1, f2⟩ := sc_39 (x := x) h.1 hk
    obtain ⟨n, np, nt, L, hL, z⟩ := h.2
    have z := z.gh d
    obtain ⟨q1, q2⟩ := trace_st z e1 e2
    exact ⟨d, S2, ⟨r1, r2, S1, e1, e2⟩, b, up_y hL q2⟩
  | 40, x, _ => by
    obtain ⟨d, r1, r2, S1, S2, e1, e2, b, w, f1, f2⟩ := sc_40 (x := x) h.1 hk
    obtain ⟨n, np, nt, L, hL, z⟩ := h.2
    have z := z.gh d
    obtain ⟨q1, q⟩ := undo_st z.r e1 e2 (fz_of f1 f2.f1 rfl) (f2.1 0 47 rfl)
    have q2 := ub_of z q f1 f2.f1 rfl rfl
    exact ⟨d, S2, ⟨r1, r2, S1, e1, e2⟩, b, up_y hL q2⟩
  | 41, x, _ => by
    obtain ⟨d, r1, r2, S1, S2, e1, e2, b, w, f1, f2⟩ := sc_41 (x := x) h.1 hk
    obtain ⟨n, np, nt, L, hL, z⟩ := h.2
    have z := z.gh d
    obtain ⟨q1, q⟩ := back_st z.r e1 e2 (fz_of f1 f2.f1 rfl) (f2.1 0 47 rfl)
    have q2 := ub_of z q f1 f2.f1 rfl rfl
    exact ⟨d, S2, ⟨r1, r2, S1, e1, e2⟩, b, up_y hL q2⟩
  | 42, x, _ => by
    obtain ⟨d, r1, r2, S1, S2, e1, e2, b, w, f1, f2⟩ := sc_42 (x := x) h.1 hk
    obtain ⟨n, np, nt, L, hL, z⟩ := h.2
    have z := z.gh d
    obtain ⟨q1, -⟩ := digest_st z h.1.1 w (fg_of f1 f2.f1 rfl) e1 e2
    have q2 := kf_of z f1 f2.f1 rfl rfl
    exact ⟨d, S2, ⟨r1, r2, S1, e1, e2⟩, b, up_y hL q2⟩
  | 43, x, _ => by
    obtain ⟨d, r1, r2, S1, S2, e1, e2, b, w, f1, f2⟩ := sc_43 (x := x) h.1 hk
    obtain ⟨n, np, nt, L, hL, z⟩ := h.2
    have z := z.gh d
    obtain ⟨q1, q2⟩ := log_st z e1 e2
    exact ⟨d, S2, ⟨r1, r2, S1, e1, e2⟩, b, up_y hL q2⟩
  | 44, x, _ => by
    obtain ⟨d, r1, r2, S1, S2, e1, e2, b, w, f1, f2⟩ := sc_44 (x := x) h.1 hk
    obtain ⟨n, np, nt, L, hL, z⟩ := h.2
    have z := z.gh d
    have q2 := kf_of z f1 f2.f1 rfl rfl
    exact ⟨d, S2, ⟨r1, r2, S1, e1, e2⟩, b, up_y hL q2⟩
  | 45, x, _ => by
    obtain ⟨d, r1, r2, S1, S2, e1, e2, b, w, f1, f2⟩ := sc_45 (x := x) h.1 hk
    obtain ⟨n, np, nt, L, hL, z⟩ := h.2
    have z := z.gh d
    have q2 := kf_of z f1 f2.f1 rfl rfl
    exact ⟨d, S2, ⟨r1, r2, S1, e1, e2⟩, b, up_y hL q2⟩
  | 46, x, _ => by
    obtain ⟨d, r1, r2, S1, S2, e1, e2, b, w, f1, f2⟩ := sc_46 (x := x) h.1 hk
    obtain ⟨n, np, nt, L, hL, z⟩ := h.2
    have z := z.gh d
    have q2 := kf_of z f1 f2.f1 rfl rfl
    exact ⟨d, S2, ⟨r1, r2, S1, e1, e2⟩, b, up_y hL q2⟩
  | 47, x, _ => by
    obtain ⟨d, r1, r2, S1, S2, e1, e2, b, w, f1, f2⟩ := sc_47 (x := x) h.1 hk
    obtain ⟨n, np, nt, L, hL, z⟩ := h.2
    have z := z.gh d
    have q2 := kf_of z f1 f2.f1 rfl rfl
    exact ⟨d, S2, ⟨r1, r2, S1, e1, e2⟩, b, up_y hL q2⟩
  | 48, x, _ => by
    obtain ⟨d, r1, r2, S1, S2, e1, e2, b, w, f1, f2⟩ := sc_48 (x := x) h.1 hk
    obtain ⟨n, np, nt, L, hL, z⟩ := h.2
    have z := z.gh d
    have q2 := kf_of z f1 f2.f1 rfl rfl
    exact ⟨d, S2, ⟨r1, r2, S1, e1, e2⟩, b, up_y hL q2⟩
  | 49, x, _ => by
    obtain ⟨d, r1, r2, S1, S2, e1, e2, b, w, f1, f2⟩ := sc_49 (x := x) h.1 hk
    obtain ⟨n, np, nt, L, hL, z⟩ := h.2
    have z := z.gh d
    have q2 := kf_of z f1 f2.f1 rfl rfl
    exact ⟨d, S2, ⟨r1, r2, S1, e1, e2⟩, b, up_y hL q2⟩
  | 50, x, _ => by
    obtain ⟨d, r1, r2, S1, S2, e1, e2, b, w, f1, f2⟩ := sc_50 (x := x) h.1 hk
    obtain ⟨n, np, nt, L, hL, z⟩ := h.2
    have z := z.gh d
    have q2 := kf_of z f1 f2.f1 rfl rfl
    exact ⟨d, S2, ⟨r1, r2, S1, e1, e2⟩, b, up_y hL q2⟩
  | 51, x, _ => by
    obtain ⟨d, r1, r2, S1, S2, e1, e2, b, w, f1, f2⟩ := sc_51 (x := x) h.1 hk
    obtain ⟨n, np, nt, L, hL, z⟩ := h.2
    have z := z.gh d
    have q2 := kf_of z f1 f2.f1 rfl rfl
    exact ⟨d, S2, ⟨r1, r2, S1, e1, e2⟩, b, up_y hL q2⟩
  | 52, x, _ => by
    obtain ⟨d, r1, r2, S1, S2, e1, e2, b, w, f1, f2⟩ := sc_52 (x := x) h.1 hk
    obtain ⟨n, np, nt, L, hL, z⟩ := h.2
    have z := z.gh d
    have q2 := kf_of z f1 f2.f1 rfl rfl
    exact ⟨d, S2, ⟨r1, r2, S1, e1, e2⟩, b, up_y hL q2⟩
  | 53, x, _ => ⟨0, gho S 0, rfl, (h.1.gh 0).up, by
      obtain ⟨n, np, nt, L, hL, z⟩ := h.2
      exact ⟨n, np, nt, L, by omega, z.gh 0⟩⟩
  | 54, x, _ => ⟨0, gho S 0, rfl, (h.1.gh 0).up, by
      obtain ⟨n, np, nt, L, hL, z⟩ := h.2
      exact ⟨n, np, nt, L, by omega, z.gh 0⟩⟩
  | 55, x, _ => ⟨0, gho S 0, rfl, (h.1.gh 0).up, by
      obtain ⟨n, np, nt, L, hL, z⟩ := h.2
      exact ⟨n, np, nt, L, by omega, z.gh 0⟩⟩
  | 56, x, _ => ⟨0, gho S 0, rfl, (h.1.gh 0).up, by
      obtain ⟨n, np, nt, L, hL, z⟩ := h.2
      exact ⟨n, np, nt, L, by omega, z.gh 0⟩⟩
  | 57, x, _ => ⟨0, gho S 0, rfl, (h.1.gh 0).up, by
      obtain ⟨n, np, nt, L, hL, z⟩ := h.2
      exact ⟨n, np, nt, L, by omega, z.gh 0⟩⟩
  | 58, x, _ => ⟨0, gho S 0, rfl, (h.1.gh 0).up, by
      obtain ⟨n, np, nt, L, hL, z⟩ := h.2
      exact ⟨n, np, nt, L, by omega, z.gh 0⟩⟩
  | 59, x, _ => ⟨0, gho S 0, rfl, (h.1.gh 0).up, by
      obtain ⟨n, np, nt, L, hL, z⟩ := h.2
      exact ⟨n, np, nt, L, by omega, z.gh 0⟩⟩
  | 60, x, _ => ⟨0, gho S 0, rfl, (h.1.gh 0).up, by
      obtain ⟨n, np, nt, L, hL, z⟩ := h.2
      exact ⟨n, np, nt, L, by omega, z.gh 0⟩⟩
  | 61, x, _ => ⟨0, gho S 0, rfl, (h.1.gh 0).up, by
      obtain ⟨n, np, nt, L, hL, z⟩ := h.2
      exact ⟨n, np, nt, L, by omega, z.gh 0⟩⟩
  | 62, x, _ => ⟨0, gho S 0, rfl, (h.1.gh 0).up, by
      obtain ⟨n, np, nt, L, hL, z⟩ := h.2
      exact ⟨n, np, nt, L, by omega, z.gh 0⟩⟩
  | 63, x, _ => ⟨0, gho S 0, rfl, (h.1.gh 0).up, by
      obtain ⟨n, np, nt, L, hL, z⟩ := h.2
      exact ⟨n, np, nt, L, by omega, z.gh 0⟩⟩
  | n + 64, x, hn => absurd hn (by omega)
theorem rel2_0 : rel2 0 0 S0 := ⟨s0_Bs, 0, 0, 0, 0, by omega, s0_dz⟩
