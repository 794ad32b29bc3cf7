/-- behind one call on the first world -/
def rel1 : Nat → Nat → SS → Prop := fun k g S => (k = 0 ∧ g = 0 ∧ S = S0) ∨ (1 ≤ k ∧ g ≤ 1)
-- ===== YOUR PART BEGINS =====
/-- YOUR PART: from the entry, for every script of at most 6 ints, the law comes to its end with true -/
theorem whole_start {p : Program} {e : Env} {s : State} {m : MethodId} {below : List Frame} {meth : Method} {c : Code} (l : Launch) {b L : Nat} {xs : Nat → Int32} (hL : L ≤ 6) (C0 : lw_At p s m meth c b L xs) : W p l e room_1 s m #[Value.ref b] below meth c s.heap [] 0 0 (lw_Z below #[Value.ref b] s) (entryFrame m ([Value.ref b] : List Value).toArray 4) := by
  have hL2 : L ≤ 3072 := by omega
  refine lw_entry C0 (fun dC dI cs ad H locs ls F w hl => ?_)
  obtain ⟨hx, hb, hr, hml, hown, hts, hX, hbl, hlocks, hgv⟩ := id C0
  have hbA : ¬ (fun q : Nat => s.heap.size ≤ q) b := Nat.not_le.mpr hbl
  refine law_loop F hX hbl hbA (Nat.le_of_ble_eq_true rfl) (Nat.le_of_ble_eq_true rfl) 128 69713 hL2 6 hL rel1 (fun k g S h => ?_) (fun k g S h hk n x hn => ?_) (fun k g S ad D0 H locs ls h w => ?_) 10 0 0 S0 ad _ H locs ls (by omega) (by omega) (Or.inl ⟨rfl, rfl, rfl⟩) w hl
  · show _ ≤ 600000 ∧ _ ≤ 7302250
    rcases h with ⟨-, rfl, -⟩ | ⟨-, h⟩ <;> omega
  · have h0 : k = 0 := by omega
    subst h0
    rcases h with ⟨-, rfl, rfl⟩ | ⟨h, -⟩
    · obtain ⟨d, S2, hd, hc⟩ := first_call n x hn
      exact ⟨d, S2, hc, Or.inr ⟨by omega, by omega⟩⟩
    · omega
  · have hf : ∀ q ∈ locs, s.heap.size ≤ q.base := fun q hq => w.2.2.1.2.2 q hq
    refine lv_iconst (pc := 1970) (v := 1) hx hb dL_law_1970 (by decide) ?_
    refine va_forget hf ?_
    refine W.widen (k := 600000) (n := 7302250) ?_ ?_ (lw_ret hx hb hr hlocks dL_law_1971)
    · rcases h with ⟨-, rfl, -⟩ | ⟨-, h⟩ <;> omega
    · rcases h with ⟨-, rfl, -⟩ | ⟨-, h⟩ <;> omega
