theorem kz_op_ob {s : State} {b L : Nat} {xs : Nat → Int32} {ad : Int → Nat} {D : va_G} (hn : ∀ w ∈ kz_wnw, w.before #[Value.ref b] s = true) (hD : ∀ (c : Nat) (q : vw_C), kz_cl[c]? = some q → kz_P s c q (D.1 c, D.2 c)) (had : ∀ x : Int, -126 ≤ x → x ≤ -1 → (kz_tm x).eval #[Value.ref b] s none [] s = some (.ref (ad x))) {x : Int} (h1 : -30 ≤ x) (h2 : x ≤ -1) : qz_ob2 D (kz_h0 ad s.heap.size L xs) s.heap x 7 := by
  have hi : (-x - 1).toNat < 30 := by omega
  have hw := kz_opw_lt _ hi
  have ht := had x (by omega) h2
  have e1 : kz_tm x = kz_opT (-x - 1).toNat := by unfold kz_tm; rw [if_pos h1]
  rw [e1] at ht
  have hs := had (-35 - 2 * ((kz_opw.getD (-x - 1).toNat 0 : Nat) : Int)) (by omega) (by omega)
  rw [kz_tm_st hw] at hs
  have hex := hn _ (kz_m_op hi (List.mem_of_getElem? (i := 0) rfl))
  obtain ⟨cell, c1, c2, c3, c4, c5⟩ := kz_obj (hD 7 _ rfl) hex ht (fun j => match j with | 0 => .ref (ad (-35 - 2 * ((kz_opw.getD (-x - 1).toNat 0 : Nat) : Int))) | j + 1 => .int (Int32.ofInt (kz_ov (-x - 1).toNat j)))
    (fun j hj => match j, hj with
      | 0, _ => kz_opW hn hi hs
      | j + 1, hj => kz_opE hn hi j (Nat.lt_of_succ_lt_succ hj)) (by decide)
  refine ⟨⟨cell, by rw [kz_h0_ad]; exact c1, c2, c3, c4, fun z => absurd z (by omega), fun j hj => ?_⟩, fun j hj => ?_⟩
  · rw [c5 j hj, kz_h0_op h1 h2 (Int.natCast_nonneg j)]
    match j, hj with
    | 0, _ =>
      show some (Value.ref _) = some (va_rf (if (-35 - 2 * ((kz_opw.getD (-x - 1).toNat 0 : Nat) : Int)) = 0 then none else some (qz_ad (kz_h0 ad s.heap.size L xs) (-35 - 2 * ((kz_opw.getD (-x - 1).toNat 0 : Nat) : Int)))))
      rw [if_neg (by omega), kz_h0_ad]
      rfl
    | j + 1, hj =>
      have hj6 : j < 6 := Nat.lt_of_succ_lt_succ hj
      rw [if_neg (by omega), show (((j + 1 : Nat) : Int) - 1).toNat = j from by omega]
      match j, hj6 with
      | 0, _ => rfl
      | 1, _ => rfl
      | 2, _ => rfl
      | 3, _ => rfl
      | 4, _ => rfl
      | 5, _ => rfl
      | n + 6, z => exact absurd z (by omega)
  · rw [kz_h0_op h1 h2 (Int.natCast_nonneg j)]
    match j, hj with
    | 0, _ =>
      refine Or.inr ⟨Or.inr ⟨?_, ?_⟩, ?_⟩
      · show -((126 : Nat) : Int) ≤ -35 - 2 * ((kz_opw.getD (-x - 1).toNat 0 : Nat) : Int)
        omega
      · show -35 - 2 * ((kz_opw.getD (-x - 1).toNat 0 : Nat) : Int) ≤ -1
        omega
      · show kz_h0 ad s.heap.size L xs (-35 - 2 * ((kz_opw.getD (-x - 1).toNat 0 : Nat) : Int)) (-2) = _
        rw [kz_h0_kd ad s.heap.size L xs _ (by show -((126 : Nat) : Int) ≤ _; omega) (by omega)]
        unfold kz_kc
        rw [if_neg (by omega), if_neg (by omega), if_neg (by omega), if_pos (by omega)]
        rfl
    | j + 1, hj =>
      have hj6 : j < 6 := Nat.lt_of_succ_lt_succ hj
      rw [if_neg (by omega), show (((j + 1 : Nat) : Int) - 1).toNat = j from by omega]
      have z := kz_ov_32 _ hi j hj6
      simp only [qz_b32, Bool.and_eq_true, decide_eq_true_eq] at z
      match j, hj6 with
      | 0, _ => exact z
      | 1, _ => exact z
      | 2, _ => exact z
      | 3, _ => exact z
      | 4, _ => exact z
      | 5, _ => exact z
      | n + 6, z => exact absurd z (by omega)
