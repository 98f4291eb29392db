theorem kz_hd_ok : (kz_hdr.length < 100 ∧ ∀ j, j < kz_hdr.length → qz_b32 (kz_hdr.getD j 0) = true) ∧ (kz_swm.length < 100 ∧ ∀ j, j < kz_swm.length → qz_b32 (kz_swm.getD j 0) = true) := by decide +kernel
theorem kz_b32 {z : Int} (h : qz_b32 z = true) : qz_32 z := by
  simp only [qz_b32, Bool.and_eq_true, decide_eq_true_eq] at h
  exact h
theorem kz_hd_ay {s : State} {b L : Nat} {xs : Nat → Int32} {ad : Int → Nat} {dA : Nat → ClassId} (hn : ∀ w ∈ kz_wnw, w.before #[Value.ref b] s = true) (had : ∀ x : Int, -126 ≤ x → x ≤ -1 → (kz_tm x).eval #[Value.ref b] s none [] s = some (.ref (ad x))) : qz_ay2 dA s (kz_h0 ad s.heap.size L xs) s.heap (-32) 40 := by
  have ht : kz_tHD.eval #[Value.ref b] s none [] s = some (.ref (ad (-32))) := by
    have z := had (-32) (by omega) (by omega)
    have e : kz_tm (-32) = kz_tHD := by unfold kz_tm; simp
    rwa [e] at z
  obtain ⟨⟨k1, k2⟩, -⟩ := kz_hd_ok
  have hc := kz_aro (N := kz_hdr.length) (f := fun j => .int (Int32.ofInt (kz_hdr.getD j 0))) (by omega) (hn _ (kz_m_hd (List.mem_of_getElem? (i := 0) rfl))) (hn _ (kz_m_hd (List.mem_of_getElem? (i := 1) rfl))) (fun j hj => va_eqt (hn _ (kz_m_hd (List.mem_append_right _ (kz_elw_in hj))))) ht
  have e : ∀ j : Nat, kz_h0 ad s.heap.size L xs (-32) (j : Int) = kz_hdr.getD j 0 := by
    intro j
    unfold kz_h0 kz_dt
    rw [if_neg (by omega), if_neg (by omega), if_neg (by omega), if_neg (by omega), if_neg (by omega), if_neg (by omega), if_pos rfl, if_neg (by omega), if_neg (by omega)]
    rfl
  refine kz_ay_of (N := kz_hdr.length) (f := fun j => .int (Int32.ofInt (kz_hdr.getD j 0))) (by rw [kz_h0_ad]; exact hc) (by omega) rfl (by omega) (fun j hj => ?_) (fun j hj => ?_)
  · rw [e]; rfl
  · rw [e]; exact kz_b32 (k2 j hj)
theorem kz_sw_ay {s : State} {b L : Nat} {xs : Nat → Int32} {ad : Int → Nat} {dA : Nat → ClassId} (hn : ∀ w ∈ kz_wnw, w.before #[Value.ref b] s = true) (had : ∀ x : Int, -126 ≤ x → x ≤ -1 → (kz_tm x).eval #[Value.ref b] s none [] s = some (.ref (ad x))) : qz_ay2 dA s (kz_h0 ad s.heap.size L xs) s.heap (-33) 40 := by
  have ht : kz_tSW.eval #[Value.ref b] s none [] s = some (.ref (ad (-33))) := by
    have z := had (-33) (by omega) (by omega)
    have e : kz_tm (-33) = kz_tSW := by unfold kz_tm; simp
    rwa [e] at z
  obtain ⟨-, k1, k2⟩ := kz_hd_ok
  have hc := kz_aro (N := kz_swm.length) (f := fun j => .int (Int32.ofInt (kz_swm.getD j 0))) (by omega) (hn _ (kz_m_sw (List.mem_of_getElem? (i := 0) rfl))) (hn _ (kz_m_sw (List.mem_of_getElem? (i := 1) rfl))) (fun j hj => va_eqt (hn _ (kz_m_sw (List.mem_append_right _ (kz_elw_in hj))))) ht
  have e : ∀ j : Nat, kz_h0 ad s.heap.size L xs (-33) (j : Int) = kz_swm.getD j 0 := by
    intro j
    unfold kz_h0 kz_dt
    rw [if_neg (by omega), if_neg (by omega), if_neg (by omega), if_neg (by omega), if_neg (by omega), if_neg (by omega), if_neg (by omega), if_pos rfl, if_neg (by omega), if_neg (by omega)]
    rfl
  refine kz_ay_of (N := kz_swm.length) (f := fun j => .int (Int32.ofInt (kz_swm.getD j 0))) (by rw [kz_h0_ad]; exact hc) (by omega) rfl (by omega) (fun j hj => ?_) (fun j hj => ?_)
  · rw [e]; rfl
  · rw [e]; exact kz_b32 (k2 j hj)
