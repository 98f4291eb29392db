theorem kz_ay_of {s : State} {h : qz_H} {dA : Nat → ClassId} {x : Int} {k N : Nat} {f : Nat → Value} (hc : ∃ cell : Cell, s.heap[qz_ad h x]? = some cell ∧ s.isArrayOf cell (kz_aT k) ∧ cell.vm ≠ .unknown ∧ N ≤ cell.slots.size ∧ cell.slots.size.toInt32 = Int32.ofNat N ∧ ∀ j : Nat, j < N → cell.slots[j]? = some (f j)) (hx : x ≤ -1) (hl : h x (-1) = (N : Int)) (hN : N < 2147483648) (hf : ∀ j : Nat, j < N → f j = qz_tv h (kz_ae k) (h x j)) (hr : ∀ j : Nat, j < N → qz_rg h (kz_ae k) (h x j)) : qz_ay2 dA s h s.heap x k := by
  obtain ⟨cell, c1, c2, c3, c4, c5, c6⟩ := hc
  refine ⟨⟨cell, c1, c2, c3, fun z => absurd z (by omega), by rw [hl]; exact c4, by rw [hl, c5]; rfl, fun j hj => ?_⟩, by rw [hl]; omega, by rw [hl]; omega, fun j hj => ?_⟩
  · rw [hl] at hj
    have hj' : j < N := hj
    rw [c6 j hj', hf j hj']
  · rw [hl] at hj
    exact hr j (by omega)
