theorem kz_tm_sv {n : Nat} : kz_tm (-36 - 2 * (n : Int)) = kz_sV n := by
  unfold kz_tm
  rw [if_neg (by omega), if_neg (by omega), if_neg (by omega), if_neg (by omega), if_neg (by omega), if_neg (by omega)]
  congr 1
  omega
theorem kz_h0_st {ad : Int → Nat} {sz L : Nat} {xs : Nat → Int32} {n : Nat} {j : Int} (hj : 0 ≤ j) : kz_h0 ad sz L xs (-35 - 2 * (n : Int)) j = (if j = 0 then -36 - 2 * (n : Int) else 0) := by
  unfold kz_h0 kz_dt
  rw [if_neg (by omega), if_neg (by omega), if_neg (by omega), if_neg (by omega), if_neg (by omega), if_neg (by omega), if_neg (by omega), if_neg (by omega), if_pos (by omega), if_neg (by omega)]
  by_cases c : j = 0
  · rw [if_pos c, if_pos c]; omega
  · rw [if_neg c, if_neg c]
theorem kz_st_ob {s : State} {b L : Nat} {xs : Nat → Int32} {ad : Int → Nat} {D : va_G} (hn : ∀ w ∈ kz_wnw, w.before #[Value.ref b] s = true) (hD : ∀ (c : Nat) (q : vw_C), kz_cl[c]? = some q → kz_P s c q (D.1 c, D.2 c)) (had : ∀ x : Int, -126 ≤ x → x ≤ -1 → (kz_tm x).eval #[Value.ref b] s none [] s = some (.ref (ad x))) {n : Nat} (hi : n < 46) : qz_ob2 D (kz_h0 ad s.heap.size L xs) s.heap (-35 - 2 * (n : Int)) 13 := by
  have ht := had (-35 - 2 * (n : Int)) (by omega) (by omega)
  rw [kz_tm_st hi] at ht
  have hs := had (-36 - 2 * (n : Int)) (by omega) (by omega)
  rw [kz_tm_sv] at hs
  have hex := hn _ (kz_m_st hi (List.mem_append_left _ (List.mem_of_getElem? (i := 0) rfl)))
  obtain ⟨cell, c1, c2, c3, c4, c5⟩ := kz_obj (hD 13 _ rfl) hex ht (fun j => match j with | 0 => .ref (ad (-36 - 2 * (n : Int))) | _ + 1 => .int 0)
    (fun j hj => match j, hj with
      | 0, _ => hs
      | 1, _ => va_eqt (hn _ (kz_m_st hi (List.mem_append_left _ (List.mem_of_getElem? (i := 1) rfl))))
      | j + 2, hj => absurd hj (by show ¬ j + 2 < 2; omega)) (by decide)
  refine ⟨⟨cell, by rw [kz_h0_ad]; exact c1, c2, c3, c4, fun z => absurd z (by omega), fun j hj => ?_⟩, fun j hj => ?_⟩
  · rw [c5 j hj, kz_h0_st (Int.natCast_nonneg j)]
    match j, hj with
    | 0, _ =>
      show some (Value.ref _) = some (va_rf (if (-36 - 2 * (n : Int)) = 0 then none else some (qz_ad (kz_h0 ad s.heap.size L xs) (-36 - 2 * (n : Int)))))
      rw [if_neg (by omega), kz_h0_ad]
      rfl
    | 1, _ => rfl
    | j + 2, hj => exact absurd hj (by show ¬ j + 2 < 2; omega)
  · rw [kz_h0_st (Int.natCast_nonneg j)]
    match j, hj with
    | 0, _ =>
      refine Or.inr ⟨Or.inr ⟨?_, ?_⟩, ?_⟩
      · show -((126 : Nat) : Int) ≤ -36 - 2 * (n : Int)
        omega
      · show -36 - 2 * (n : Int) ≤ -1
        omega
      · show kz_h0 ad s.heap.size L xs (-36 - 2 * (n : Int)) (-2) = _
        rw [kz_h0_kd ad s.heap.size L xs _ (by show -((126 : Nat) : Int) ≤ _; omega) (by omega)]
        unfold kz_kc
        rw [if_neg (by omega), if_neg (by omega), if_neg (by omega), if_neg (by omega)]
        rfl
    | 1, _ =>
      rw [if_neg (by omega)]
      exact ⟨by decide, by decide⟩
    | j + 2, hj => exact absurd hj (by show ¬ j + 2 < 2; omega)
