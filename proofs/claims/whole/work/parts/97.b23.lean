/-! The head of a function. -/
section SC
variable {t : Int → Int} {N T M : Int} {hc0 hm0 hc hm hc' hm' : qz_H}
theorem cz_Gres {c m d b q e u v : Int} (g : cz_G t hc hm M c m d b q e u) (hM : M = 6 ∨ M = 18) (hv : 0 ≤ v ∧ v ≤ 2) (fc : ∀ o i : Int, (o = M ∨ M + 2 ≤ o ∧ o ≤ M + 11 ∨ o = 32 ∨ o = 33 ∨ 35 ≤ o ∧ o ≤ 37 + d ∧ ¬ (o = 37 + d ∧ i = 1)) → ¬ (o = M + 2 + 2 * c ∧ i = 3) → hc' o i = hc o i) (fm : ∀ o i : Int, (79 ≤ o ∧ o ≤ 99 ∨ o = 67 ∧ (i = 15 ∨ i = 23 ∨ i = 28 ∨ i = 39)) → ¬ (o = 81 ∧ i = c - 1) → hm' o i = hm o i) (y : hc' (M + 2 + 2 * c) 3 = v) (z : hm' 81 (c - 1) = v) {u' : Int} (hu : u ≤ u') : cz_G t hc' hm' M c m d b q e u' := by
  obtain ⟨⟨g1, g2, g3, g4, g6, c1⟩, g5, gq⟩ := g
  obtain ⟨a1, a2, a3, a4, a5, a6, a7, a8, a9⟩ := g1
  refine ⟨⟨⟨by rw [fc _ _ (by omega) (by omega)]; exact a1, by rw [fm _ _ (by omega) (by omega)]; exact a2, a3, a4, by rw [fc _ _ (by omega) (by omega)]; exact a5, by rw [fm _ _ (by omega) (by omega)]; exact a6, a7, a8, fun f f0 f1 => ?_⟩, g2.same (fun i => fc 32 i (by omega) (by omega)) (fun o i h1 h2 => fm o i (by omega) (by omega)), g3.same (fun i => fc 33 i (by omega) (by omega)) (fun o i h => fm o i (by omega) (by omega)), g4.same (fun o i h => fc o i (by omega) (by omega)) (fun o i h => fm o i (by omega) (by omega)) (fm _ _ (by omega) (by omega)) hu, g6.same (fun o i h => fm o i (by omega) (by omega)), c1⟩, g5.same (fun o i h1 h2 h3 => fc o i (by omega) (by omega)) (fm _ _ (by omega) (by omega)) (fun o i h1 h2 => fm o i (by omega) (by omega)), gq⟩
  obtain ⟨⟨b1, b2, b3, b4, b5, b6, b7, b8, b9, b10, b11⟩, b12, b13, b14, b15⟩ := a9 f f0 f1
  have e79 : hm' 79 f = hm 79 f := fm _ _ (by omega) (by omega)
  have e80 : hm' 80 f = hm 80 f := fm _ _ (by omega) (by omega)
  have e83 : ∀ i : Int, hm' 83 i = hm 83 i := fun i => fm _ _ (by omega) (by omega)
  refine ⟨⟨?_, ?_, ?_, ?_, by omega, by omega, by omega, by omega, ?_, ?_, fun k k0 k1 => ?_⟩, ?_, ?_, fun h => ⟨?_, ?_⟩, fun h => ?_⟩
  · rw [fc _ _ (by omega) (by omega), e79]; exact b1
  · rw [fc _ _ (by omega) (by omega), e80]; exact b2
  · by_cases hf : f = c - 1
    · subst hf
      rw [show M + 4 + 2 * (c - 1) = M + 2 + 2 * c by omega, y, z]
    · rw [fc _ _ (by omega) (by omega), fm _ _ (by omega) (by omega)]; exact b3
  · rw [fc _ _ (by omega) (by omega), e83]; exact b4
  · by_cases hf : f = c - 1
    · subst hf; omega
    · rw [fm _ _ (by omega) (by omega)]; exact b9
  · by_cases hf : f = c - 1
    · subst hf; omega
    · rw [fm _ _ (by omega) (by omega)]; exact b10
  · rw [fc _ _ (by omega) (by omega), fm _ _ (by omega) (by omega)]; exact b11 k k0 (by omega)
  · rw [e83]; exact b12
  · rw [e83]; exact b13
  · rw [e83, e83]; exact (b14 h).1
  · rw [fc _ _ (by omega) (by omega), e83, e83]; exact (b14 h).2
  · rw [fc _ _ (by omega) (by omega), e83]; exact b15 h
/-- a parenthesis in the head of a function -/
theorem cz_behindF (e : cz_en t N T M hc0 hm0 hc hm) {kd s : Int} {L : Nat} (tk : cz_tk t N hc hm kd s L) (h5 : hc 30 5 = 3) (h6 : hc 30 6 = 0) (b0 : hc 38 0 = 1) (hk : hc 37 0 = 3) (hp : hc 37 1 ≤ 3) (k : Nat) : cz_go k hc = cz_rest k (if hc 37 1 ≤ 1 ∧ cz_kb t kd s L 2 = 1 then some (0, qz_up (qz_up hc 37 1 1) 38 0 4) else if hc 37 1 ≤ 2 ∧ cz_kb t kd s L 3 = 1 then some (0, qz_up (qz_up hc 37 1 3) 38 0 6) else if cz_kb t kd s L 4 = 1 then some (0, qz_up (qz_up hc 37 1 3) 38 0 5) else fn_Reader_beginFolded 30 38 (qz_up hc 37 1 4)) := by
  unfold cz_go
  rw [h5, bz_lev e.tc.1 (by omega) (by omega), show (35 : Int) + 3 = 38 by omega]
  have mx : qz_max 0 (3 - 1) = 2 := by decide +kernel
  unfold fn_Reader_judge
  rw [if_pos h6, bz_ck (by omega), b0]
  simp only [qz_swt]
  rw [if_neg (by omega), if_pos trivial, cz_bb]
  unfold fn_Reader_behindOpening
  rw [bz_c30_1 e.tc.1, bz_ck (by omega), bz_c31_m1 e.tc.1, h5, bz_w (by omega) (by omega), mx, bz_ck (by omega), bz_lev e.tc.1 (by omega) (by omega), show (35 : Int) + 2 = 37 by omega, bz_bn, bz_ck (by omega)]
  simp only [qz_swt]
  rw [if_neg (by omega), if_neg (by omega), if_neg (by omega), cz_bb]
  have z119 : fn_Reader_beginPart_119 30 38 37 hc = fn_Reader_beginFolded 30 38 (qz_up hc 37 1 4) := by
    unfold fn_Reader_beginPart_119
    rw [bz_ck (by omega), bz_ck (by omega), bz_bn, cz_bb]
  obtain ⟨_, _, i2, i3, i4⟩ := e.is3C tk
  have c30 := bz_c30_0 e.tc.1
  have z83 : fn_Reader_beginPart_83 30 38 37 1 hc = if cz_kb t kd s L 4 = 1 then some (0, qz_up (qz_up hc 37 1 3) 38 0 5) else fn_Reader_beginFolded 30 38 (qz_up hc 37 1 4) := by
    unfold fn_Reader_beginPart_83
    rw [if_neg (by omega), bz_ck (by omega), if_neg (by omega), c30, bz_ck (by omega), i4, bz_bc, z119, bz_ck (by omega), bz_ck (by omega), bz_bn, bz_ck (by omega), bz_ck (by omega), bz_bn]
    have := cz_kb01 (t := t) kd s L 4
    (repeat' split) <;> first | rfl | omega
  have z50 : fn_Reader_beginPart_50 30 38 37 1 hc = if hc 37 1 ≤ 2 ∧ cz_kb t kd s L 3 = 1 then some (0, qz_up (qz_up hc 37 1 3) 38 0 6) else if cz_kb t kd s L 4 = 1 then some (0, qz_up (qz_up hc 37 1 3) 38 0 5) else fn_Reader_beginFolded 30 38 (qz_up hc 37 1 4) := by
    unfold fn_Reader_beginPart_50
    rw [bz_ck (by omega), z83, c30, bz_ck (by omega), i3, bz_bc, bz_ck (by omega), bz_ck (by omega), bz_bn, bz_ck (by omega), bz_ck (by omega), bz_bn]
    have := cz_kb01 (t := t) kd s L 3
    by_cases h2 : 2 < hc 37 1
    · rw [if_pos h2, if_neg (show ¬ (hc 37 1 ≤ 2 ∧ cz_kb t kd s L 3 = 1) by omega)]
    · rw [if_neg h2]
      by_cases h3 : cz_kb t kd s L 3 = 0
      · rw [if_pos h3, if_neg (show ¬ (hc 37 1 ≤ 2 ∧ cz_kb t kd s L 3 = 1) by omega), z83]
      · rw [if_neg h3, if_pos (show hc 37 1 ≤ 2 ∧ cz_kb t kd s L 3 = 1 by omega)]
  unfold fn_Reader_beginPart fn_Reader_beginPart_13
  rw [bz_ck (by omega), if_neg (show ¬ ¬ hc 37 0 = 3 by omega), bz_bn, if_neg (show ¬ (1 : Int) = 0 by omega), bz_ck (by omega), z50, c30, bz_ck (by omega), i2, bz_bc, bz_ck (by omega), bz_ck (by omega), bz_bn, bz_ck (by omega), bz_ck (by omega), bz_bn]
  have := cz_kb01 (t := t) kd s L 2
  by_cases h1 : 1 < hc 37 1
  · rw [if_pos h1, if_neg (show ¬ (hc 37 1 ≤ 1 ∧ cz_kb t kd s L 2 = 1) by omega)]
  · rw [if_neg h1]
    by_cases h2 : cz_kb t kd s L 2 = 0
    · rw [if_pos h2, if_neg (show ¬ (hc 37 1 ≤ 1 ∧ cz_kb t kd s L 2 = 1) by omega), z50]
    · rw [if_neg h2, if_pos (show hc 37 1 ≤ 1 ∧ cz_kb t kd s L 2 = 1 by omega)]
theorem cz_setF (e : cz_en t N T M hc0 hm0 hc hm) (h5 : hc 30 5 = 3) (hk : hc 37 0 = 3) {c : Int} (m3 : hc M 3 = c) (c1 : 1 ≤ c) (c4 : c ≤ 4) (v : Int) : fn_Reader_setResult 30 v hc = some (0, qz_up hc (M + 2 + 2 * c) 3 v) := by
  have hM := e.hM
  have mx : qz_max 0 (3 - 1) = 2 := by decide +kernel
  unfold fn_Reader_setResult fn_Reader_setResult_44
  rw [bz_c30_1 e.tc.1, bz_ck (by omega), bz_c31_m1 e.tc.1, h5, bz_w (by omega) (by omega), mx, bz_ck (by omega), bz_lev e.tc.1 (by omega) (by omega), show (35 : Int) + 2 = 37 by omega, bz_bn, bz_ck (by omega), if_neg (show ¬ ¬ hc 37 0 = 3 by omega), e.m4, bz_ck (by omega), cz_lat e.tc.1 hM m3 c1 c4, bz_bc, bz_ck (by omega), bz_ck (by omega), bz_bn]
def cz_RF (k123 : Int → Int → Int → Int → qz_H → Option qz_R) (l1 : Int) (h4 : qz_H) : Option qz_R :=
      qz_bn (1 : Int) fun x5 =>
      qz_bc (fn_Md_readType 67 h4) fun r6 h7 =>
      qz_ck ((h4 67 18 : Int) ≠ 0) <|
      qz_ck (0 < h4 67 18 ∧ (0 : Int) ≤ l1 ∧ l1 < h7 (h4 67 18) (-1)) <|
      qz_bn (qz_up h7 (h4 67 18) l1 r6) fun h8 =>
      qz_ck ((h8 67 18 : Int) ≠ 0) <|
      qz_ck ((0 : Int) ≤ l1 ∧ l1 < h8 (h8 67 18) (-1)) <|
      if h8 (h8 67 18) l1 = 0 then
        fn_Md_readFunction_218 67 h8
      else
        qz_bc (fn_Md_pass 67 2 h8) fun r9 h10 =>
        if ¬ r9 = 0 then
          k123 67 l1 x5 0 h10
        else
          fn_Md_readFunction_218 67 h10
theorem cz_RF_eq {k : Nat} {kd s : Int} {L : Nat} {c : Int} (k123 : Int → Int → Int → Int → qz_H → Option qz_R) (S : cz_S t N T M hc0 hm0 k hc hm kd s L) (c1 : 1 ≤ c) (c4 : c ≤ 4) : cz_RF k123 (c - 1) hm = qz_bc (fn_Md_readType 67 hm) fun r h8 => if r = 0 then (qz_bc (fn_Md_fail 67 1 (qz_up h8 81 (c - 1) r)) fun r1 h2 => if r1 = 0 then some (0, h2) else none) else (qz_bc (fn_Md_pass 67 2 (qz_up h8 81 (c - 1) r)) fun r9 h => if ¬ r9 = 0 then k123 67 (c - 1) 1 0 h else (qz_bc (fn_Md_fail 67 1 h) fun r1 h2 => if r1 = 0 then some (0, h2) else none)) := by
  unfold cz_RF
  rw [bz_bn]
  refine cz_bcc (fun r h hr => ?_)
  obtain ⟨Lh, hr⟩ := cz_rtL S hr
  have Lu : bz_LM (qz_up h 81 (c - 1) r) := fun q hq => by
    have z : ∀ q ∈ bz_TM, ¬ (q.1 = 81 ∧ 0 ≤ q.2.1) := by decide +kernel
    rw [cz_un (fun hh => z q hq ⟨hh.1, by omega⟩)]; exact Lh q hq
  have ck0 : ∀ h : qz_H, fn_Md_readFunction_218 67 h = qz_bc (fn_Md_fail 67 1 h) fun r1 h2 => if r1 = 0 then some (0, h2) else none := by
    intro h
    unfold fn_Md_readFunction_218
    obtain ⟨h', hf⟩ := cz_fl 1 h
    rw [hf, bz_bc, bz_bc, if_pos rfl, bz_ck (by omega)]
  rw [bz_m67_18 S.en.tm.1, bz_m81_m1 Lh, bz_ck (by omega), bz_ck (by omega), bz_bn, bz_m67_18 Lu, bz_ck (by omega), bz_m81_m1 Lu, bz_ck (by omega), bz_us, ck0]
  by_cases h0 : r = 0
  · rw [if_pos h0, if_pos h0]
  · rw [if_neg h0, if_neg h0]
    refine cz_bcc (fun r9 h9 hr9 => ?_)
    by_cases h0 : r9 = 0
    · rw [if_neg (show ¬ ¬ r9 = 0 by omega), if_neg (show ¬ ¬ r9 = 0 by omega), ck0]
    · rw [if_pos h0, if_pos h0]
end SC
