section SC
variable {t : Int → Int} {hc hm hc' hm' : qz_H} {M c m d b q e u : Int}
theorem cz_lb.same {i : Int} (h : cz_lb t hc hm i) (fc : ∀ j : Int, j ≠ 1 → hc' (38 + i) j = hc (38 + i) j) (fm : ∀ o : Int, 93 ≤ o → o ≤ 97 → hm' o i = hm o i) : cz_lb t hc' hm' i := by
  unfold cz_lb at h ⊢
  rw [fc _ (by omega), fc _ (by omega), fm _ (by omega) (by omega), fm _ (by omega) (by omega), fm _ (by omega) (by omega), fm _ (by omega) (by omega), fm _ (by omega) (by omega)]
  exact h
theorem cz_lf.same {i q' : Int} (h : cz_lf hc hm q i) (fc : ∀ j : Int, j ≠ 1 → hc' (38 + i) j = hc (38 + i) j) (fm : ∀ o : Int, 93 ≤ o → o ≤ 99 → hm' o i = hm o i) (hq : q ≤ q') (f90 : 0 ≤ hm 99 i → hm 99 i < q → hm 92 (hm 99 i) = -1 → hm' 92 (hm 99 i) = -1 ∧ hm' 90 (hm 99 i) = hm 90 (hm 99 i)) : cz_lf hc' hm' q' i := by
  obtain ⟨h1, h2, h3, h4, h5⟩ := h
  unfold cz_lf
  rw [fc _ (by omega), fc _ (by omega), fc _ (by omega), fm _ (by omega) (by omega), fm _ (by omega) (by omega), fm _ (by omega) (by omega), fm _ (by omega) (by omega)]
  refine ⟨h1, h2, h3, h4, ?_⟩
  rcases h5 with h5 | ⟨a1, a2, a3, a4, a5⟩
  · exact Or.inl h5
  · obtain ⟨x, y⟩ := f90 a2 a3 a4
    exact Or.inr ⟨a1, a2, by omega, x, by rw [y]; exact a5⟩
theorem cz_G5.same (g : cz_G5 t hc hm d b q e) (fc : ∀ o i : Int, 35 ≤ o → o ≤ 37 + d → ¬ (o = 37 + d ∧ i = 1) → hc' o i = hc o i) (f1 : hm' 67 39 = hm 67 39) (fm : ∀ o i : Int, 90 ≤ o → o ≤ 99 → hm' o i = hm o i) : cz_G5 t hc' hm' d b q e := by
  obtain ⟨g1, g2, g3, g4, g5, g6, g7, g8, g9, g10, g11, g12, g13, g14⟩ := g
  refine ⟨by rw [f1]; exact g1, g2, g3, g4, by rw [fc _ _ (by omega) (by omega) (by omega)]; exact g5, by rw [fc _ _ (by omega) (by omega) (by omega)]; exact g6, by rw [fc _ _ (by omega) (by omega) (by omega)]; exact g7, by rw [fc _ _ (by omega) (by omega) (by omega)]; exact g8, fun i i0 i1 => ?_, fun i i0 i1 => ?_, fun i i0 i1 i2 => ?_, fun i j i0 i1 i2 => ?_, fun j j0 j1 => ?_, ?_⟩
  · exact (g9 i i0 i1).same (fun j hj => fc _ _ (by omega) (by omega) (by omega)) fun o o1 o2 => fm _ _ (by omega) (by omega)
  · exact (g10 i i0 i1).same (fun j hj => fc _ _ (by omega) (by omega) (by omega)) (fun o o1 o2 => fm _ _ (by omega) (by omega)) (Int.le_refl _) fun h1 h2 h3 => ⟨by rw [fm _ _ (by omega) (by omega)]; exact h3, fm _ _ (by omega) (by omega)⟩
  · rw [fc _ _ (by omega) (by omega) (by omega)]; exact g11 i i0 i1 i2
  · rw [fm _ _ (by omega) (by omega), fm _ _ (by omega) (by omega)]; exact g12 i j i0 i1 i2
  · rw [fm _ _ (by omega) (by omega)]
    intro h
    rcases g13 j j0 j1 h with h | ⟨i, i0, i1, i2⟩
    · exact Or.inl h
    · exact Or.inr ⟨i, i0, i1, by rw [fm _ _ (by omega) (by omega)]; exact i2⟩
  · rcases g14 with h | ⟨h1, h2, h3, h4⟩
    · exact Or.inl h
    · exact Or.inr ⟨h1, h2, by rw [fm _ _ (by omega) (by omega)]; exact h3, fun i i0 i1 => by rw [fm _ _ (by omega) (by omega)]; exact h4 i i0 i1⟩
theorem cz_G5.call (g : cz_G5 t hc hm d b q (-1)) (q0 : 0 ≤ q) (fc : ∀ o i : Int, 35 ≤ o → o ≤ 37 + d → ¬ (o = 37 + d ∧ i = 1) → hc' o i = hc o i) (f1 : hm' 67 39 = hm 67 39) (fm : ∀ o i : Int, 90 ≤ o → o ≤ 99 → ¬ ((o = 90 ∨ o = 91 ∨ o = 92) ∧ i = q) → hm' o i = hm o i) (x2 : hm' 92 q = -1) : cz_G5 t hc' hm' d b (q + 1) q := by
  obtain ⟨g1, g2, g3, g4, g5, g6, g7, g8, g9, g10, g11, g12, g13, g14⟩ := g
  have h99 : ∀ i : Int, b ≤ i → i < d → hm 99 i < q := by
    intro i i0 i1
    rcases (g10 i i0 i1).2.2.2.2 with h | h
    · omega
    · exact h.2.2.1
  refine ⟨by rw [f1]; exact g1, g2, g3, g4, by rw [fc _ _ (by omega) (by omega) (by omega)]; exact g5, by rw [fc _ _ (by omega) (by omega) (by omega)]; exact g6, by rw [fc _ _ (by omega) (by omega) (by omega)]; exact g7, by rw [fc _ _ (by omega) (by omega) (by omega)]; exact g8, fun i i0 i1 => ?_, fun i i0 i1 => ?_, fun i i0 i1 i2 => ?_, fun i j i0 i1 i2 => ?_, fun j j0 j1 => ?_, Or.inr ⟨q0, by omega, x2, fun i i0 i1 => ?_⟩⟩
  · exact (g9 i i0 i1).same (fun j hj => fc _ _ (by omega) (by omega) (by omega)) fun o o1 o2 => fm _ _ (by omega) (by omega) (by omega)
  · exact (g10 i i0 i1).same (fun j hj => fc _ _ (by omega) (by omega) (by omega)) (fun o o1 o2 => fm _ _ (by omega) (by omega) (by omega)) (by omega) fun h1 h2 h3 => ⟨by rw [fm _ _ (by omega) (by omega) (by omega)]; exact h3, fm _ _ (by omega) (by omega) (by omega)⟩
  · rw [fc _ _ (by omega) (by omega) (by omega)]; exact g11 i i0 i1 i2
  · rw [fm _ _ (by omega) (by omega) (by omega), fm _ _ (by omega) (by omega) (by omega)]; exact g12 i j i0 i1 i2
  · by_cases h : j = q
    · exact fun _ => Or.inl h
    · rw [fm _ _ (by omega) (by omega) (by omega)]
      intro h'
      rcases g13 j j0 (by omega) h' with h | ⟨i, i0, i1, i2⟩
      · omega
      · exact Or.inr ⟨i, i0, i1, by rw [fm _ _ (by omega) (by omega) (by omega)]; exact i2⟩
  · rw [fm _ _ (by omega) (by omega) (by omega)]
    have := h99 i i0 i1
    omega
/-- the call that waits has its row -/
theorem cz_G5.res (g : cz_G5 t hc hm d b q e) (e0 : 0 ≤ e) (fc : ∀ o i : Int, 35 ≤ o → o ≤ 37 + d → ¬ (o = 37 + d ∧ i = 1) → hc' o i = hc o i) (f1 : hm' 67 39 = hm 67 39) (fm : ∀ o i : Int, 90 ≤ o → o ≤ 99 → ¬ (o = 92 ∧ i = e) → hm' o i = hm o i) (x2 : hm' 92 e ≠ -1) : cz_G5 t hc' hm' d b q (-1) := by
  obtain ⟨g1, g2, g3, g4, g5, g6, g7, g8, g9, g10, g11, g12, g13, g14⟩ := g
  rcases g14 with h | ⟨h1, h2, h3, h4⟩
  · omega
  refine ⟨by rw [f1]; exact g1, g2, g3, g4, by rw [fc _ _ (by omega) (by omega) (by omega)]; exact g5, by rw [fc _ _ (by omega) (by omega) (by omega)]; exact g6, by rw [fc _ _ (by omega) (by omega) (by omega)]; exact g7, by rw [fc _ _ (by omega) (by omega) (by omega)]; exact g8, fun i i0 i1 => ?_, fun i i0 i1 => ?_, fun i i0 i1 i2 => ?_, fun i j i0 i1 i2 => ?_, fun j j0 j1 => ?_, Or.inl rfl⟩
  · exact (g9 i i0 i1).same (fun j hj => fc _ _ (by omega) (by omega) (by omega)) fun o o1 o2 => fm _ _ (by omega) (by omega) (by omega)
  · have := h4 i i0 i1
    exact (g10 i i0 i1).same (fun j hj => fc _ _ (by omega) (by omega) (by omega)) (fun o o1 o2 => fm _ _ (by omega) (by omega) (by omega)) (by omega) fun h1 h2 h3 => ⟨by rw [fm _ _ (by omega) (by omega) (by omega)]; exact h3, fm _ _ (by omega) (by omega) (by omega)⟩
  · rw [fc _ _ (by omega) (by omega) (by omega)]; exact g11 i i0 i1 i2
  · rw [fm _ _ (by omega) (by omega) (by omega), fm _ _ (by omega) (by omega) (by omega)]; exact g12 i j i0 i1 i2
  · by_cases h : j = e
    · intro z; rw [h] at z; exact absurd z x2
    · rw [fm _ _ (by omega) (by omega) (by omega)]
      intro h'
      rcases g13 j j0 (by omega) h' with h | ⟨i, i0, i1, i2⟩
      · omega
      · exact Or.inr ⟨i, i0, i1, by rw [fm _ _ (by omega) (by omega) (by omega)]; exact i2⟩
theorem cz_G5.pushF (g : cz_G5 t hc hm d b q e) (d9 : d ≤ 9) (fc : ∀ o i : Int, 35 ≤ o → o ≤ 37 + d → ¬ (o = 37 + d ∧ i = 1) → hc' o i = hc o i) (ph : b = d → hc' (37 + d) 1 = 4) (f1 : hm' 67 39 = d + 1) (fm : ∀ o i : Int, 90 ≤ o → o ≤ 99 → ¬ (93 ≤ o ∧ i = d) → hm' o i = hm o i) (x99 : hm' 99 d = e) (xf : cz_lf hc' hm' q d) : cz_G5 t hc' hm' (d + 1) b q (-1) := by
  obtain ⟨g1, g2, g3, g4, g5, g6, g7, g8, g9, g10, g11, g12, g13, g14⟩ := g
  refine ⟨f1, g2, by omega, by omega, by rw [fc _ _ (by omega) (by omega) (by omega)]; exact g5, by rw [fc _ _ (by omega) (by omega) (by omega)]; exact g6, by rw [fc _ _ (by omega) (by omega) (by omega)]; exact g7, by rw [fc _ _ (by omega) (by omega) (by omega)]; exact g8, fun i i0 i1 => ?_, fun i i0 i1 => ?_, fun i i0 i1 i2 => ?_, fun i j i0 i1 i2 => ?_, fun j j0 j1 => ?_, Or.inl rfl⟩
  · exact (g9 i i0 i1).same (fun j hj => fc _ _ (by omega) (by omega) (by omega)) fun o o1 o2 => fm _ _ (by omega) (by omega) (by omega)
  · by_cases h : i = d
    · rw [h]; exact xf
    · exact (g10 i i0 (by omega)).same (fun j hj => fc _ _ (by omega) (by omega) (by omega)) (fun o o1 o2 => fm _ _ (by omega) (by omega) (by omega)) (by omega) fun h1 h2 h3 => ⟨by rw [fm _ _ (by omega) (by omega) (by omega)]; exact h3, fm _ _ (by omega) (by omega) (by omega)⟩
  · by_cases h : i = d
    · rw [h]; exact ph (by omega)
    · rw [fc _ _ (by omega) (by omega) (by omega)]; exact g11 i i0 i1 (by omega)
  · rw [fm 99 i (by omega) (by omega) (by omega)]
    by_cases h : j = d
    · rw [h, x99]
      intro z
      rcases g14 with h | ⟨_, _, _, h4⟩
      · omega
      · exact h4 i i0 (by omega)
    · rw [fm _ _ (by omega) (by omega) (by omega)]; exact g12 i j i0 i1 (by omega)
  · rw [fm _ _ (by omega) (by omega) (by omega)]
    intro h'
    rcases g13 j j0 (by omega) h' with h | ⟨i, i0, i1, i2⟩
    · exact Or.inr ⟨d, by omega, by omega, by omega⟩
    · exact Or.inr ⟨i, i0, by omega, by rw [fm _ _ (by omega) (by omega) (by omega)]; exact i2⟩
theorem cz_G5.popF (g : cz_G5 t hc hm d b q (-1)) (bd : b < d) (fc : ∀ o i : Int, 35 ≤ o → o ≤ 36 + d → hc' o i = hc o i) (f1 : hm' 67 39 = d - 1) (fm : ∀ o i : Int, 90 ≤ o → o ≤ 99 → hm' o i = hm o i) : cz_G5 t hc' hm' (d - 1) b q (hm 99 (d - 1)) := by
  obtain ⟨g1, g2, g3, g4, g5, g6, g7, g8, g9, g10, g11, g12, g13, g14⟩ := g
  refine ⟨f1, g2, by omega, by omega, by rw [fc _ _ (by omega) (by omega)]; exact g5, ?_, by rw [fc _ _ (by omega) (by omega)]; exact g7, by rw [fc _ _ (by omega) (by omega)]; exact g8, fun i i0 i1 => ?_, fun i i0 i1 => ?_, fun i i0 i1 i2 => ?_, fun i j i0 i1 i2 => ?_, fun j j0 j1 => ?_, ?_⟩
  · rw [fc _ _ (by omega) (by omega)]; exact g6
  · exact (g9 i i0 i1).same (fun j hj => fc _ _ (by omega) (by omega)) fun o o1 o2 => fm _ _ (by omega) (by omega)
  · exact (g10 i i0 (by omega)).same (fun j hj => fc _ _ (by omega) (by omega)) (fun o o1 o2 => fm _ _ (by omega) (by omega)) (by omega) fun h1 h2 h3 => ⟨by rw [fm _ _ (by omega) (by omega)]; exact h3, fm _ _ (by omega) (by omega)⟩
  · rw [fc _ _ (by omega) (by omega)]; exact g11 i i0 i1 (by omega)
  · rw [fm 99 i (by omega) (by omega), fm 99 j (by omega) (by omega)]; exact g12 i j i0 i1 (by omega)
  · rw [fm _ _ (by omega) (by omega)]
    intro h'
    rcases g13 j j0 (by omega) h' with h | ⟨i, i0, i1, i2⟩
    · omega
    · by_cases h : i = d - 1
      · left; rw [← h]; exact i2.symm
      · exact Or.inr ⟨i, i0, by omega, by rw [fm _ _ (by omega) (by omega)]; exact i2⟩
  · rcases (g10 (d - 1) (by omega) (by omega)).2.2.2.2 with h | h
    · exact Or.inl h.1
    · refine Or.inr ⟨h.2.1, h.2.2.1, by rw [fm _ _ (by omega) (by omega)]; exact h.2.2.2.1, fun i i0 i1 => ?_⟩
      rw [fm _ _ (by omega) (by omega)]
      by_cases hn : 0 ≤ hm 99 i
      · exact g12 i (d - 1) i0 i1 (by omega) hn
      · have := h.2.1; omega
theorem cz_G5.pushB (g : cz_G5 t hc hm d d q (-1)) (d9 : d ≤ 9) (fc : ∀ o i : Int, 35 ≤ o → o ≤ 37 + d → ¬ (o = 37 + d ∧ i = 1) → hc' o i = hc o i) (ph : hc' (37 + d) 1 = 4) (f1 : hm' 67 39 = d + 1) (fm : ∀ o i : Int, 90 ≤ o → o ≤ 99 → ¬ (93 ≤ o ∧ i = d) → hm' o i = hm o i) (xb : cz_lb t hc' hm' d) : cz_G5 t hc' hm' (d + 1) (d + 1) q (-1) := by
  obtain ⟨g1, g2, g3, g4, g5, g6, g7, g8, g9, g10, g11, g12, g13, g14⟩ := g
  refine ⟨f1, by omega, by omega, by omega, by rw [fc _ _ (by omega) (by omega) (by omega)]; exact g5, by rw [fc _ _ (by omega) (by omega) (by omega)]; exact g6, by rw [fc _ _ (by omega) (by omega) (by omega)]; exact g7, by rw [fc _ _ (by omega) (by omega) (by omega)]; exact g8, fun i i0 i1 => ?_, fun i i0 i1 => by omega, fun i i0 i1 i2 => ?_, fun i j i0 i1 i2 => by omega, fun j j0 j1 => ?_, Or.inl rfl⟩
  · by_cases h : i = d
    · rw [h]; exact xb
    · exact (g9 i i0 (by omega)).same (fun j hj => fc _ _ (by omega) (by omega) (by omega)) fun o o1 o2 => fm _ _ (by omega) (by omega) (by omega)
  · by_cases h : i = d
    · rw [h]; exact ph
    · rw [fc _ _ (by omega) (by omega) (by omega)]; exact g11 i i0 (by omega) (by omega)
  · rw [fm _ _ (by omega) (by omega) (by omega)]
    intro h'
    rcases g13 j j0 (by omega) h' with h | ⟨i, i0, i1, i2⟩
    · omega
    · omega
theorem cz_G5.popB (g : cz_G5 t hc hm d d q (-1)) (d1 : 1 ≤ d) (fc : ∀ o i : Int, 35 ≤ o → o ≤ 36 + d → hc' o i = hc o i) (f1 : hm' 67 39 = d - 1) (fm : ∀ o i : Int, 90 ≤ o → o ≤ 99 → ¬ (o = 95 ∧ i = d - 1) → hm' o i = hm o i) : cz_G5 t hc' hm' (d - 1) (d - 1) q (-1) := by
  obtain ⟨g1, g2, g3, g4, g5, g6, g7, g8, g9, g10, g11, g12, g13, g14⟩ := g
  refine ⟨f1, by omega, by omega, by omega, by rw [fc _ _ (by omega) (by omega)]; exact g5, by rw [fc _ _ (by omega) (by omega)]; exact g6, by rw [fc _ _ (by omega) (by omega)]; exact g7, by rw [fc _ _ (by omega) (by omega)]; exact g8, fun i i0 i1 => ?_, fun i i0 i1 => by omega, fun i i0 i1 i2 => ?_, fun i j i0 i1 i2 => by omega, fun j j0 j1 => ?_, Or.inl rfl⟩
  · exact (g9 i i0 (by omega)).same (fun j hj => fc _ _ (by omega) (by omega)) fun o o1 o2 => fm _ _ (by omega) (by omega) (by omega)
  · rw [fc _ _ (by omega) (by omega)]; exact g11 i i0 (by omega) (by omega)
  · rw [fm _ _ (by omega) (by omega) (by omega)]
    intro h'
    rcases g13 j j0 (by omega) h' with h | ⟨i, i0, i1, i2⟩
    · omega
    · omega
/-- the top block changes: an else, a name -/
theorem cz_G5.top (g : cz_G5 t hc hm d d q (-1)) (d1 : 1 ≤ d) (fc : ∀ o i : Int, 35 ≤ o → o ≤ 36 + d → hc' o i = hc o i) (f1 : hm' 67 39 = d) (fm : ∀ o i : Int, 90 ≤ o → o ≤ 99 → ¬ ((o = 95 ∨ o = 96 ∨ o = 97) ∧ i = d - 1) → hm' o i = hm o i) (xb : cz_lb t hc' hm' (d - 1)) : cz_G5 t hc' hm' d d q (-1) := by
  obtain ⟨g1, g2, g3, g4, g5, g6, g7, g8, g9, g10, g11, g12, g13, g14⟩ := g
  refine ⟨f1, by omega, by omega, by omega, by rw [fc _ _ (by omega) (by omega)]; exact g5, by rw [fc _ _ (by omega) (by omega)]; exact g6, by rw [fc _ _ (by omega) (by omega)]; exact g7, by rw [fc _ _ (by omega) (by omega)]; exact g8, fun i i0 i1 => ?_, fun i i0 i1 => by omega, fun i i0 i1 i2 => ?_, fun i j i0 i1 i2 => by omega, fun j j0 j1 => ?_, Or.inl rfl⟩
  · by_cases h : i = d - 1
    · rw [h]; exact xb
    · exact (g9 i i0 (by omega)).same (fun j hj => fc _ _ (by omega) (by omega)) fun o o1 o2 => fm _ _ (by omega) (by omega) (by omega)
  · rw [fc _ _ (by omega) (by omega)]; exact g11 i i0 (by omega) (by omega)
  · rw [fm _ _ (by omega) (by omega) (by omega)]
    intro h'
    rcases g13 j j0 (by omega) h' with h | ⟨i, i0, i1, i2⟩
    · omega
    · omega
theorem cz_G6.same (g : cz_G6 hm c m b) (fm : ∀ o i : Int, (o = 83 ∨ o = 84) → hm' o i = hm o i) : cz_G6 hm' c m b := by
  have e84 : hm' 84 = hm 84 := funext fun i => fm 84 i (by omega)
  have e83 : hm' 83 = hm 83 := funext fun i => fm 83 i (by omega)
  unfold cz_G6
  rw [e83, e84]
  have en : ∀ (s : Int) (n : Nat), cz_nd hm' s n = cz_nd hm s n := fun s n => cz_nd_same fun i _ => by rw [e84]
  refine ⟨fun f f0 f1 n hn => ?_, fun h => ?_⟩
  · rw [en]; exact g.1 f f0 f1 n hn
  · rw [en]; exact g.2 h
theorem cz_G6.row (g : cz_G6 hm c m b) (c1 : 1 ≤ c) (h83 : ∀ f : Int, 0 ≤ f → f < c → 0 ≤ hm 83 f ∧ hm 83 f ≤ m ∧ (f + 1 < c → hm 83 (f + 1) ≤ m)) (fm83 : ∀ i : Int, hm' 83 i = hm 83 i) (fm84 : ∀ i : Int, i ≠ m → hm' 84 i = hm 84 i) (k1 : 2 ≤ hm' 84 m ∧ hm' 84 m ≤ 4 → b ≤ 9) (k2 : hm' 84 m = 5 ∨ hm' 84 m = 11 → 1 ≤ b) : cz_G6 hm' c (m + 1) (b + bz_dl (hm' 84 m)) := by
  have en : ∀ (s : Int) (n : Nat), s + (n : Int) ≤ m → cz_nd hm' s n = cz_nd hm s n := fun s n hs => cz_nd_same fun i hi => fm84 _ (by omega)
  have g2 := g.2 c1
  have hl := h83 (c - 1) (by omega) (by omega)
  refine ⟨fun f f0 f1 n hn => ?_, fun h => ?_⟩
  · rw [fm83, fm83] at hn
    rw [fm83]
    have hf := h83 f f0 f1
    by_cases z : hm 83 f + (n : Int) = m
    · by_cases z2 : f + 1 < c
      · rw [if_pos z2] at hn
        have := hf.2.2 z2
        omega
      · have ef : f = c - 1 := by omega
        have en' : n = (m - hm 83 (c - 1)).toNat := by rw [← ef]; omega
        have eq : cz_nd hm' (hm 83 f) n = b := by rw [en _ _ (by omega), en', ef]; exact g2
        rw [z, eq]
        exact ⟨k1, k2⟩
    · rw [fm84 _ z, en _ _ (by split at hn <;> omega)]
      refine g.1 f f0 f1 n ?_
      by_cases z2 : f + 1 < c
      · rw [if_pos z2] at hn ⊢; exact hn
      · rw [if_neg z2] at hn ⊢; omega
  · rw [fm83, show (m + 1 - hm 83 (c - 1)).toNat = (m - hm 83 (c - 1)).toNat + 1 by omega, cz_nd, en _ _ (by omega), g2, show hm 83 (c - 1) + (((m - hm 83 (c - 1)).toNat : Nat) : Int) = m by omega]
end SC
