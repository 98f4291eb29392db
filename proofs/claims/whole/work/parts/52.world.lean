theorem kz_sc_ay {s : State} {b L : Nat} {xs : Nat → Int32} {ad : Int → Nat} {dA : Nat → ClassId} (hX : va_X b L xs s s.heap) (hL : L ≤ 1536) (hb : ad (-34) = b) : qz_ay2 dA s (kz_h0 ad s.heap.size L xs) s.heap (-34) 40 := by
  obtain ⟨scr, h1, h2, h3, h4, h5⟩ := hX
  have e : ∀ j : Nat, kz_h0 ad s.heap.size L xs (-34) (j : Int) = (xs j).toInt := by
    intro j
    unfold kz_h0
    rw [if_neg (by omega), if_neg (by omega), if_neg (by omega), if_pos rfl, if_neg (by omega), if_neg (by omega)]
    rfl
  refine kz_ay_of (N := L) (f := fun j => .int (xs j)) ⟨scr, by rw [kz_h0_ad, hb]; exact h1, h2, h3, Nat.le_of_eq h4.symm, by rw [h4], h5⟩ (by omega) rfl (by omega) (fun j hj => ?_) (fun j hj => ?_)
  · rw [e]
    show Value.int (xs j) = Value.int (Int32.ofInt (xs j).toInt)
    rw [Int32.ofInt_toInt]
  · rw [e]
    exact ⟨Int32.le_toInt (xs j), Int.le_of_lt_add_one (Int32.toInt_lt (xs j))⟩
