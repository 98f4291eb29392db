theorem kz_tm_st {n : Nat} (h : n < 46) : kz_tm (-35 - 2 * (n : Int)) = kz_sT n := by
  unfold kz_tm
  rw [if_neg (by omega), if_neg (by omega), if_neg (by omega), if_neg (by omega), if_neg (by omega), if_pos (by omega)]
  congr 1
  omega
theorem kz_h0_op {ad : Int → Nat} {sz L : Nat} {xs : Nat → Int32} {x : Int} (h1 : -30 ≤ x) (h2 : x ≤ -1) {j : Int} (hj : 0 ≤ j) : kz_h0 ad sz L xs x j = (if j = 0 then -35 - 2 * ((kz_opw.getD (-x - 1).toNat 0 : Nat) : Int) else kz_ov (-x - 1).toNat (j - 1).toNat) := by
  unfold kz_h0 kz_dt
  rw [if_neg (by omega), if_neg (by omega), if_neg (by omega), if_neg (by omega), if_pos h1, if_neg (by omega)]
  by_cases c : j = 0
  · rw [if_pos c, if_pos c]
  · rw [if_neg c, if_neg c, if_pos (by omega)]
theorem kz_ov_32 : ∀ i, i < 30 → ∀ j, j < 6 → qz_b32 (kz_ov i j) = true := by decide +kernel
