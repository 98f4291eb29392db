theorem kz_tm_op {i : Nat} (h : i < 30) : kz_tm (-((i : Int) + 1)) = kz_opT i := by
  unfold kz_tm
  rw [if_pos (by omega)]
  congr 1
  omega
theorem kz_al_ay {s : State} {b L : Nat} {xs : Nat → Int32} {ad : Int → Nat} {dA : Nat → ClassId} (hn : ∀ w ∈ kz_wnw, w.before #[Value.ref b] s = true) (had : ∀ x : Int, -126 ≤ x → x ≤ -1 → (kz_tm x).eval #[Value.ref b] s none [] s = some (.ref (ad x))) : qz_ay2 dA s (kz_h0 ad s.heap.size L xs) s.heap (-31) 46 := by
  have ht : kz_tAL.eval #[Value.ref b] s none [] s = some (.ref (ad (-31))) := by
    have z := had (-31) (by omega) (by omega)
    have e : kz_tm (-31) = kz_tAL := by unfold kz_tm; simp
    rwa [e] at z
  have hel : ∀ j : Nat, j < 30 → (Term.elem kz_tAL (.int (Int32.ofNat j))).eval #[Value.ref b] s none [] s = some (.ref (ad (-((j : Int) + 1)))) := by
    intro j hj
    have z := had (-((j : Int) + 1)) (by omega) (by omega)
    rw [kz_tm_op hj] at z
    exact va_eqv (hn _ (kz_m_al (List.mem_append_right _ (List.mem_map.mpr ⟨j, List.mem_range.mpr hj, rfl⟩)))) z
  have hc := kz_aro (N := 30) (f := fun j => .ref (ad (-((j : Int) + 1)))) (by omega) (hn _ (kz_m_al (List.mem_of_getElem? (i := 0) rfl))) (hn _ (kz_m_al (List.mem_of_getElem? (i := 1) rfl))) hel ht
  have e : ∀ j : Nat, kz_h0 ad s.heap.size L xs (-31) (j : Int) = -((j : Int) + 1) := by
    intro j
    unfold kz_h0 kz_dt
    rw [if_neg (by omega), if_neg (by omega), if_neg (by omega), if_neg (by omega), if_neg (by omega), if_pos rfl, if_neg (by omega), if_neg (by omega)]
  refine kz_ay_of (N := 30) (f := fun j => .ref (ad (-((j : Int) + 1)))) (by rw [kz_h0_ad]; exact hc) (by omega) rfl (by omega) (fun j hj => ?_) (fun j hj => ?_)
  · rw [e]
    show Value.ref _ = va_rf (if (-((j : Int) + 1)) = 0 then none else some (qz_ad (kz_h0 ad s.heap.size L xs) (-((j : Int) + 1))))
    rw [if_neg (by omega), kz_h0_ad]
    rfl
  · rw [e]
    refine Or.inr ⟨Or.inr ⟨?_, by omega⟩, ?_⟩
    · show -((126 : Nat) : Int) ≤ -((j : Int) + 1)
      omega
    · show kz_h0 ad s.heap.size L xs (-((j : Int) + 1)) (-2) = _
      rw [kz_h0_kd ad s.heap.size L xs _ (by show -((126 : Nat) : Int) ≤ _; omega) (by omega)]
      unfold kz_kc
      rw [if_pos (by omega)]
      rfl
