theorem kz_sb_ok : ∀ n, n < 46 → (kz_sb n).length < 100 ∧ ∀ j, j < (kz_sb n).length → -128 ≤ (kz_sb n).getD j 0 ∧ (kz_sb n).getD j 0 ≤ 127 := by decide +kernel
theorem kz_h0_sv {ad : Int → Nat} {sz L : Nat} {xs : Nat → Int32} {n : Nat} {j : Int} (hj : -1 ≤ j) : kz_h0 ad sz L xs (-36 - 2 * (n : Int)) j = (if j = -1 then ((kz_sb n).length : Int) else (kz_sb n).getD j.toNat 0) := by
  unfold kz_h0 kz_dt
  have e : ((-36 - (-36 - 2 * (n : Int))) / 2).toNat = n := by omega
  rw [if_neg (by omega), if_neg (by omega), if_neg (by omega), if_neg (by omega), if_neg (by omega), if_neg (by omega), if_neg (by omega), if_neg (by omega), if_neg (by omega), e]
  by_cases c : j = -1
  · rw [if_pos c, if_pos c]
  · rw [if_neg c, if_neg c, if_neg (by omega)]
theorem kz_sv_ay {s : State} {b L : Nat} {xs : Nat → Int32} {ad : Int → Nat} {dA : Nat → ClassId} (hn : ∀ w ∈ kz_wnw, w.before #[Value.ref b] s = true) (had : ∀ x : Int, -126 ≤ x → x ≤ -1 → (kz_tm x).eval #[Value.ref b] s none [] s = some (.ref (ad x))) {n : Nat} (hi : n < 46) : qz_ay2 dA s (kz_h0 ad s.heap.size L xs) s.heap (-36 - 2 * (n : Int)) 43 := by
  have ht := had (-36 - 2 * (n : Int)) (by omega) (by omega)
  rw [kz_tm_sv] at ht
  obtain ⟨k1, k2⟩ := kz_sb_ok n hi
  have hc := kz_aro (N := (kz_sb n).length) (f := fun j => .int (Int32.ofInt ((kz_sb n).getD j 0))) (by omega) (hn _ (kz_m_st hi (List.mem_append_left _ (List.mem_of_getElem? (i := 2) rfl)))) (hn _ (kz_m_st hi (List.mem_append_left _ (List.mem_of_getElem? (i := 3) rfl)))) (fun j hj => va_eqt (hn _ (kz_m_st hi (List.mem_append_right _ (kz_elw_in hj))))) ht
  refine kz_ay_of (N := (kz_sb n).length) (f := fun j => .int (Int32.ofInt ((kz_sb n).getD j 0))) (by rw [kz_h0_ad]; exact hc) (by omega) (by rw [kz_h0_sv (by omega), if_pos rfl]) (by omega) (fun j hj => ?_) (fun j hj => ?_)
  · rw [kz_h0_sv (by omega), if_neg (by omega)]
    rfl
  · rw [kz_h0_sv (by omega), if_neg (by omega)]
    exact k2 j hj
