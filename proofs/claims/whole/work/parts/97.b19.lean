/-! A variable of a function. -/
section SC
variable {t : Int → Int} {N T M : Int} {hc0 hm0 hc hm hc' hm' : qz_H}
theorem cz_Gvar {c m d b q e u x v a : Int} (g : cz_G t hc hm M c m d b q e u) (hM : M = 6 ∨ M = 18) (hx : hm 80 (c - 1) = x) (x8 : x < 8) (ha : a = 0 ∨ a = 1 ∧ hm 79 (c - 1) < 6) (hv : v = 1 ∨ v = 2) (fc : ∀ o i : Int, (o = M ∨ M + 2 ≤ o ∧ o ≤ M + 11 ∨ o = 32 ∨ o = 33 ∨ 35 ≤ o ∧ o ≤ 37 + d ∧ ¬ (o = 37 + d ∧ i = 1)) → ¬ (o = 33 ∧ i = x) → ¬ (o = M + 3 + 2 * c ∧ i = x) → ¬ (o = M + 2 + 2 * c ∧ (i = 1 ∨ i = 2)) → hc' o i = hc o i) (fm : ∀ o i : Int, (79 ≤ o ∧ o ≤ 99 ∨ o = 67 ∧ (i = 15 ∨ i = 23 ∨ i = 28 ∨ i = 39)) → ¬ (o = 82 ∧ i = 8 * (c - 1) + x) → ¬ ((o = 88 ∨ o = 89) ∧ i = x) → ¬ ((o = 79 ∨ o = 80) ∧ i = c - 1) → hm' o i = hm o i) (y1 : hc' (M + 2 + 2 * c) 1 = hc (M + 2 + 2 * c) 1 + a) (y2 : hc' (M + 2 + 2 * c) 2 = x + 1) (y3 : hc' (M + 3 + 2 * c) x = v) (y4 : cz_nm t (hc' 33 x) (hm' 88 x) (hm' 89 x)) (z1 : hm' 79 (c - 1) = hm 79 (c - 1) + a) (z2 : hm' 80 (c - 1) = x + 1) (z3 : hm' 82 (8 * (c - 1) + x) = v) {u' : Int} (hu : u ≤ u') : cz_G t hc' hm' M c m d b q e u' := by
  obtain ⟨⟨g1, g2, g3, g4, g6, c1⟩, g5, gq⟩ := g
  obtain ⟨a1, a2, a3, a4, a5, a6, a7, a8, a9⟩ := g1
  have x0 : 0 ≤ x := by have := (a9 (c - 1) (by omega) (by omega)).1.2.2.2.2.1; have := (a9 (c - 1) (by omega) (by omega)).1.2.2.2.2.2.2.1; omega
  refine ⟨⟨⟨by rw [fc _ _ (by omega) (by omega) (by omega) (by omega)]; exact a1, by rw [fm _ _ (by omega) (by omega) (by omega) (by omega)]; exact a2, a3, a4, by rw [fc _ _ (by omega) (by omega) (by omega) (by omega)]; exact a5, by rw [fm _ _ (by omega) (by omega) (by omega) (by omega)]; exact a6, a7, a8, fun f f0 f1 => ?_⟩, g2.same (fun i => fc 32 i (by omega) (by omega) (by omega) (by omega)) (fun o i h1 h2 => fm o i (by omega) (by omega) (by omega) (by omega)), ?_, g4.same (fun o i h => fc o i (by omega) (by omega) (by omega) (by omega)) (fun o i h => fm o i (by omega) (by omega) (by omega) (by omega)) (fm _ _ (by omega) (by omega) (by omega) (by omega)) hu, g6.same (fun o i h => fm o i (by omega) (by omega) (by omega) (by omega)), c1⟩, g5.same (fun o i h1 h2 h3 => fc o i (by omega) (by omega) (by omega) (by omega)) (fm _ _ (by omega) (by omega) (by omega) (by omega)) (fun o i h1 h2 => fm o i (by omega) (by omega) (by omega) (by omega)), gq⟩
  · obtain ⟨⟨b1, b2, b3, b4, b5, b6, b7, b8, b9, b10, b11⟩, b12, b13, b14, b15⟩ := a9 f f0 f1
    have gz : cz_Gz hc' hm' M c m f := by
      refine ⟨?_, ?_, fun h => ⟨?_, ?_⟩, fun h => ?_⟩
      · rw [fm _ _ (by omega) (by omega) (by omega) (by omega)]; exact b12
      · rw [fm _ _ (by omega) (by omega) (by omega) (by omega)]; exact b13
      · rw [fm _ _ (by omega) (by omega) (by omega) (by omega), fm _ _ (by omega) (by omega) (by omega) (by omega)]; exact (b14 h).1
      · rw [fc _ _ (by omega) (by omega) (by omega) (by omega), fm _ _ (by omega) (by omega) (by omega) (by omega), fm _ _ (by omega) (by omega) (by omega) (by omega)]; exact (b14 h).2
      · rw [fc _ _ (by omega) (by omega) (by omega) (by omega), fm _ _ (by omega) (by omega) (by omega) (by omega)]; exact b15 h
    refine ⟨?_, gz⟩
    have e3 : hc' (M + 4 + 2 * f) 3 = hm' 81 f := by rw [fc _ _ (by omega) (by omega) (by omega) (by omega), fm _ _ (by omega) (by omega) (by omega) (by omega)]; exact b3
    have e4 : hc' (M + 4 + 2 * f) 4 = hm' 83 f := by rw [fc _ _ (by omega) (by omega) (by omega) (by omega), fm _ _ (by omega) (by omega) (by omega) (by omega)]; exact b4
    have e81 : hm' 81 f = hm 81 f := fm _ _ (by omega) (by omega) (by omega) (by omega)
    by_cases hf : f = c - 1
    · subst hf
      rw [show M + 4 + 2 * (c - 1) = M + 2 + 2 * c by omega] at b1 b2
      refine ⟨?_, ?_, e3, e4, ?_, ?_, ?_, ?_, by omega, by omega, fun k k0 k1 => ?_⟩
      · rw [show M + 4 + 2 * (c - 1) = M + 2 + 2 * c by omega, y1, z1, b1]
      · rw [show M + 4 + 2 * (c - 1) = M + 2 + 2 * c by omega, y2, z2]
      · omega
      · omega
      · omega
      · omega
      · rw [show M + 5 + 2 * (c - 1) = M + 3 + 2 * c by omega]
        by_cases hk : k = x
        · rw [hk, y3, z3]
          exact ⟨rfl, hv⟩
        · rw [fc _ _ (by omega) (by omega) (by omega) (by omega), fm _ _ (by omega) (by omega) (by omega) (by omega)]
          have := b11 k k0 (by omega)
          rw [show M + 5 + 2 * (c - 1) = M + 3 + 2 * c by omega] at this
          exact this
    · have e79 : hm' 79 f = hm 79 f := fm _ _ (by omega) (by omega) (by omega) (by omega)
      have e80 : hm' 80 f = hm 80 f := fm _ _ (by omega) (by omega) (by omega) (by omega)
      refine ⟨?_, ?_, e3, e4, by omega, by omega, by omega, by omega, by omega, by omega, fun k k0 k1 => ?_⟩
      · rw [fc _ _ (by omega) (by omega) (by omega) (by omega), e79]; exact b1
      · rw [fc _ _ (by omega) (by omega) (by omega) (by omega), e80]; exact b2
      · rw [fc _ _ (by omega) (by omega) (by omega) (by omega), fm _ _ (by omega) (by omega) (by omega) (by omega)]
        exact b11 k k0 (by omega)
  · intro k k0 k1
    rw [z2] at k1
    by_cases hk : k = x
    · rw [hk]; exact y4
    · rw [fc _ _ (by omega) (by omega) (by omega) (by omega), fm _ _ (by omega) (by omega) (by omega) (by omega), fm _ _ (by omega) (by omega) (by omega) (by omega)]
      exact g3 k k0 (by omega)
theorem cz_decC (e : cz_en t N T M hc0 hm0 hc hm) {c x : Int} (m3 : hc M 3 = c) (c1 : 1 ≤ c) (c4 : c ≤ 4) (f2 : hc (M + 2 + 2 * c) 2 = x) (x0 : 0 ≤ x) (x8 : x ≤ 8) (p0 : 0 ≤ hc (M + 2 + 2 * c) 1) (p6 : hc (M + 2 + 2 * c) 1 ≤ 6) (kk : hc 38 0 = 4 ∨ hc 38 0 = 5) (v : Int) : ((x < 8 ∧ ¬ (hc 38 0 = 4 ∧ hc (M + 2 + 2 * c) 1 = 6)) → fn_Reader_declare 30 38 v hc = some (1, if hc 38 0 = 4 then qz_up (qz_up (qz_up (qz_up hc 33 x (hc 38 2)) (M + 3 + 2 * c) x v) (M + 2 + 2 * c) 2 (x + 1)) (M + 2 + 2 * c) 1 (hc (M + 2 + 2 * c) 1 + 1) else qz_up (qz_up (qz_up hc 33 x (hc 38 2)) (M + 3 + 2 * c) x v) (M + 2 + 2 * c) 2 (x + 1))) ∧ (¬ (x < 8 ∧ ¬ (hc 38 0 = 4 ∧ hc (M + 2 + 2 * c) 1 = 6)) → ∃ X, fn_Reader_declare 30 38 v hc = some (0, X) ∧ ∀ o i : Int, ¬ (o = 33 ∧ 0 ≤ i) → X o i = hc o i) := by
  have hM := e.hM
  have hl := cz_lat e.tc.1 hM m3 c1 c4
  have c33 := bz_c30_3 e.tc.1
  have c33m := bz_c33_m1 e.tc.1
  have e1 : cz_en t N T M hc0 hm0 (qz_up hc 33 x (hc 38 2)) hm := e.uc (by omega)
  have hf := bz_fun e1.tc.1 hM (f := c - 1) (by omega) (by omega)
  rw [show M + 4 + 2 * (c - 1) = M + 2 + 2 * c by omega, show M + 5 + 2 * (c - 1) = M + 3 + 2 * c by omega] at hf
  have fD : fn_Reader_declare 30 38 v hc = fn_Reader_declare_37 38 v (M + 2 + 2 * c) (if x < 8 then qz_up hc 33 x (hc 38 2) else hc) := by
    unfold fn_Reader_declare
    rw [e.m4, bz_ck (by omega), hl, bz_bc, bz_bn, bz_ck (by omega), f2, bz_bn, if_neg (by omega)]
    by_cases h : x < 8
    · rw [if_neg (by omega), if_pos h, bz_ck (by omega), c33, bz_ck (by omega), c33m, bz_ck (by omega), bz_bn]
    · rw [if_pos (by omega), if_neg h]
  have aL : x < 8 → fn_Function_addLocal (M + 2 + 2 * c) v (qz_up hc 33 x (hc 38 2)) = some (1, qz_up (qz_up (qz_up hc 33 x (hc 38 2)) (M + 3 + 2 * c) x v) (M + 2 + 2 * c) 2 (x + 1)) := by
    intro h
    unfold fn_Function_addLocal
    rw [show (qz_up hc 33 x (hc 38 2)) (M + 2 + 2 * c) 2 = x by rw [cz_un (by omega)]; exact f2, if_neg (by omega), if_pos h, hf.2.1, bz_ck (by omega), hf.2.2, bz_ck (by omega), bz_bn, bz_ck (by omega), bz_bn, show (qz_up (qz_up hc 33 x (hc 38 2)) (M + 3 + 2 * c) x v) (M + 2 + 2 * c) 2 = x by rw [cz_un (by omega), cz_un (by omega)]; exact f2, bz_w (by omega) (by omega), bz_ck (by omega)]
  have k38 : (if x < 8 then qz_up hc 33 x (hc 38 2) else hc) 38 0 = hc 38 0 := by
    split
    · exact cz_un (by omega)
    · rfl
  have f1' : (if x < 8 then qz_up hc 33 x (hc 38 2) else hc) (M + 2 + 2 * c) 1 = hc (M + 2 + 2 * c) 1 := by
    split
    · exact cz_un (by omega)
    · rfl
  rw [fD]
  unfold fn_Reader_declare_37 fn_Reader_declare_58
  rw [bz_ck (by omega), k38]
  constructor
  · rintro ⟨h8, hn⟩
    rw [if_pos h8]
    rcases kk with h4 | h5
    · rw [if_neg (show ¬ ¬ hc 38 0 = 4 by omega), if_pos h4, bz_ck (by omega)]
      unfold fn_Function_addParameter
      rw [show (qz_up hc 33 x (hc 38 2)) (M + 2 + 2 * c) 1 = hc (M + 2 + 2 * c) 1 by exact cz_un (by omega), if_neg (by omega), aL h8, bz_bc, if_pos (show ¬ (1 : Int) = 0 by omega), bz_ck (by omega), bz_bn, bz_ck (by omega), bz_bc, bz_ck (by omega), show (qz_up (qz_up (qz_up hc 33 x (hc 38 2)) (M + 3 + 2 * c) x v) (M + 2 + 2 * c) 2 (x + 1)) (M + 2 + 2 * c) 1 = hc (M + 2 + 2 * c) 1 by simp (disch := omega) only [cz_un], bz_w (by omega) (by omega)]
    · rw [if_pos (show ¬ hc 38 0 = 4 by omega), if_neg (show ¬ hc 38 0 = 4 by omega), bz_ck (by omega), aL h8, bz_bc, bz_ck (by omega)]
  · intro hn
    refine ⟨if x < 8 then qz_up hc 33 x (hc 38 2) else hc, ?_, fun o i h => ?_⟩
    · have f2' : ¬ x < 8 → fn_Function_addLocal (M + 2 + 2 * c) v hc = some (0, hc) := by
        intro h
        unfold fn_Function_addLocal fn_Function_addLocal_16
        rw [f2, if_neg (by omega), if_neg h, bz_ck (by omega)]
      rcases kk with h4 | h5
      · rw [if_neg (show ¬ ¬ hc 38 0 = 4 by omega), bz_ck (by omega)]
        unfold fn_Function_addParameter fn_Function_addParameter_17
        rw [f1']
        by_cases h6 : hc (M + 2 + 2 * c) 1 = 6
        · rw [if_pos (by omega), bz_ck (by omega), bz_bc, bz_ck (by omega)]
        · have h8 : ¬ x < 8 := by omega
          rw [if_neg (by omega), if_neg h8, f2' h8, bz_bc, if_neg (show ¬ ¬ (0 : Int) = 0 by omega), bz_ck (by omega), bz_bc, bz_ck (by omega)]
      · have h8 : ¬ x < 8 := by omega
        rw [if_pos (show ¬ hc 38 0 = 4 by omega), bz_ck (by omega), if_neg h8, f2' h8, bz_bc, bz_ck (by omega)]
    · split
      · exact cz_un (by omega)
      · rfl
end SC
