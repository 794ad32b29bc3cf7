-- ===== YOUR PART BEGINS =====
/-- YOUR PART: from the entry, for every script of at most 3072 ints, the law comes to its end with true -/
theorem whole_start {p : Program} {e : Env} {s : State} {m : MethodId} {below : List Frame} {meth : Method} {c : Code} (l : Launch) {b L : Nat} {xs : Nat → Int32} (hL : L ≤ 3072) (C0 : lw_At p s m meth c b L xs) : W p l e room_1 s m #[Value.ref b] below meth c s.heap [] 0 0 (lw_Z below #[Value.ref b] s) (entryFrame m ([Value.ref b] : List Value).toArray 4) := by
  refine lw_entry C0 (fun dC dI cs ad H locs ls F w hl => ?_)
  obtain ⟨hx, hb, hr, hml, hown, hts, hX, hbl, hlocks, hgv⟩ := id C0
  have hbA : ¬ (fun q : Nat => s.heap.size ≤ q) b := Nat.not_le.mpr hbl
  refine law_loop F hX hbl hbA (Nat.le_of_ble_eq_true rfl) (Nat.le_of_ble_eq_true rfl) 128 69713 hL 3072 hL rel2 (fun k g S h => ?_) (fun k g S h hk n x hn => rel2_step h (by omega) n x hn) (fun k g S ad D0 H locs ls h w => ?_) 3100 0 0 S0 ad _ H locs ls (by omega) (by omega) rel2_0 w hl
  · show _ ≤ 600000 ∧ _ ≤ 7302250
    have := h.1.g6
    omega
  · have hf : ∀ q ∈ locs, s.heap.size ≤ q.base := fun q hq => w.2.2.1.2.2 q hq
    have := h.1.g6
    refine lv_iconst (pc := 1969) (v := 1) hx hb dL_law_1969 (by decide) ?_
    refine va_forget hf ?_
    refine W.widen (k := 600000) (n := 7302250) ?_ ?_ (lw_ret hx hb hr hlocks dL_law_1970)
    · omega
    · omega
