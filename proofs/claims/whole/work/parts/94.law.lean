def bz_Scr (h : qz_H) (L : Nat) : Prop := h (-34) (-1) = (L : Int) ∧ ∀ j : Int, 0 ≤ j → j < L → -2147483648 ≤ h (-34) j ∧ h (-34) j ≤ 2147483647
theorem bz_Scr.to {h h1 h2 : qz_H} {L : Nat} (s : bz_Scr h L) (a : bz_fcc h h1) (b : bz_fmm h1 h2) : bz_Scr h2 L := by
  have e : ∀ j : Int, h2 (-34) j = h (-34) j := fun j => by rw [b (-34) j (by omega), a (-34) j (by omega)]
  exact ⟨by rw [e]; exact s.1, fun j j0 j1 => by rw [e]; exact s.2 j j0 j1⟩
section LAW
variable {h : qz_H} {L : Nat} {i : Int} (k23 : Int → Int → Int → Int → Int → qz_H → Option qz_R)
theorem bz_457 {h : qz_H} (i0 : 0 ≤ i) (i1 : i ≤ 2000) : fn_Law_law_457 k23 (-34) 1 67 109 i h = k23 (-34) 1 67 109 (i + 3) h := by
  unfold fn_Law_law_457
  rw [bz_bn, bz_w (by omega) (by omega)]
/-- one call: what is left of the law stands alike -/
theorem bz_step (rd : bz_Rd) (j : bz_J h h) (s : bz_Scr h L) (hL : L ≤ 1536) (i0 : 0 ≤ i) (i1 : i ≤ L - 3) : ∃ h', fn_Law_law_23_b k23 (-34) 1 67 109 i h = k23 (-34) 1 67 109 (i + 3) h' ∧ bz_J h' h' ∧ bz_Scr h' L := by
  unfold fn_Law_law_23_b
  rw [bz_ck (show (-34 : Int) ≠ 0 by omega), s.1, bz_w (show -2147483648 ≤ (L : Int) - 3 by omega) (by omega), if_neg (by omega), bz_ck (show (-34 : Int) ≠ 0 by omega), bz_ck (show 0 ≤ i ∧ i < (L : Int) by omega)]
  have w1 : qz_w (i + 1) = i + 1 := bz_w (by omega) (by omega)
  have w2 : qz_w (i + 2) = i + 2 := bz_w (by omega) (by omega)
  generalize qz_and (h (-34) i) 15 = c
  have r1 := s.2 (i + 1) (by omega) (by omega)
  have r2 := s.2 (i + 2) (by omega) (by omega)
  by_cases c0 : c = 0
  · rw [qz_swt, if_pos c0]
    obtain ⟨r, t, h1, h2, a1, a2, a3, a4, a5, a6⟩ := bz_run (bz_opType (qz_orJ (qz_shlJ (h (-34) (i + 1)) 32) (qz_andJ (h (-34) (i + 2)) 4294967295))) j
    have a3 : r = t := a3
    subst a3
    rw [w1, w2, bz_ck (show (-34 : Int) ≠ 0 by omega), bz_ck (show 0 ≤ i + 1 ∧ i + 1 < (L : Int) by omega), bz_ck (show (-34 : Int) ≠ 0 by omega), bz_ck (show 0 ≤ i + 2 ∧ i + 2 < (L : Int) by omega), bz_ck (show (1 : Int) ≠ 0 by omega), a1, bz_bc, a5 (-34) (-1) (by omega), s.1, bz_ck (show (-34 : Int) ≠ 0 by omega), bz_ck (show 0 ≤ i + 1 ∧ i + 1 < (L : Int) by omega), bz_ck (show (-34 : Int) ≠ 0 by omega), bz_ck (show 0 ≤ i + 2 ∧ i + 2 < (L : Int) by omega), bz_ck (show (67 : Int) ≠ 0 by omega), a5 (-34) (i + 1) (by omega), a5 (-34) (i + 2) (by omega), a2, bz_bc, if_pos rfl, bz_457 k23 i0 (by omega)]
    exact ⟨h2, rfl, a4, s.to a5 a6⟩
  by_cases c1 : c = 1
  · rw [qz_swt, if_neg (show ¬ c = 0 by omega), qz_swt, if_pos c1]
    obtain ⟨r, t, h1, h2, a1, a2, a3, a4, a5, a6⟩ := bz_run (bz_opWipe) j
    have a3 : r = t := a3
    subst a3
    rw [bz_ck (show (1 : Int) ≠ 0 by omega), a1, bz_bc, bz_ck (show (67 : Int) ≠ 0 by omega), a2, bz_bc, bz_457 k23 i0 (by omega)]
    exact ⟨h2, rfl, a4, s.to a5 a6⟩
  by_cases c2 : c = 2
  · rw [qz_swt, if_neg (show ¬ c = 0 by omega), qz_swt, if_neg (show ¬ c = 1 by omega), qz_swt, if_pos c2]
    obtain ⟨r, t, h1, h2, a1, a2, a3, a4, a5, a6⟩ := bz_run (bz_opChar (h (-34) (i + 1))) j
    have a3 : r = t := a3
    subst a3
    rw [w1, bz_ck (show (-34 : Int) ≠ 0 by omega), bz_ck (show 0 ≤ i + 1 ∧ i + 1 < (L : Int) by omega), bz_ck (show (1 : Int) ≠ 0 by omega), a1, bz_bc, a5 (-34) (-1) (by omega), s.1, bz_ck (show (-34 : Int) ≠ 0 by omega), bz_ck (show 0 ≤ i + 1 ∧ i + 1 < (L : Int) by omega), bz_ck (show (67 : Int) ≠ 0 by omega), a5 (-34) (i + 1) (by omega), a2, bz_bc, if_pos rfl, bz_457 k23 i0 (by omega)]
    exact ⟨h2, rfl, a4, s.to a5 a6⟩
  by_cases c3 : c = 3
  · rw [qz_swt, if_neg (show ¬ c = 0 by omega), qz_swt, if_neg (show ¬ c = 1 by omega), qz_swt, if_neg (show ¬ c = 2 by omega), qz_swt, if_pos c3]
    obtain ⟨r, t, h1, h2, a1, a2, ⟨a3, a3b⟩, a4, a5, a6⟩ := bz_run (bz_opAsm rd) j
    rw [a1, bz_bc, bz_bn, bz_ck (show (67 : Int) ≠ 0 by omega), a2, bz_bc, bz_bn, bz_ck (show (67 : Int) ≠ 0 by omega)]
    unfold fn_Md_thrown fn_Law_law_234
    rw [bz_bc, a3, if_pos rfl]
    by_cases z : r = 0
    · have e : h2 109 0 = t := by rw [a6 109 0 (by omega)]; exact a3b z
      have e1 : h2 109 (-1) = 1 := a4.2.2.1
      rw [if_neg (fun w => w z), bz_ck (show (109 : Int) ≠ 0 by omega), e1, bz_ck (by omega), e, bz_cmp_eq, if_pos rfl, bz_457 k23 i0 (by omega)]
      exact ⟨h2, rfl, a4, s.to a5 a6⟩
    · rw [if_pos z, bz_457 k23 i0 (by omega)]
      exact ⟨h2, rfl, a4, s.to a5 a6⟩
  by_cases c4 : c = 4
  · rw [qz_swt, if_neg (show ¬ c = 0 by omega), qz_swt, if_neg (show ¬ c = 1 by omega), qz_swt, if_neg (show ¬ c = 2 by omega), qz_swt, if_neg (show ¬ c = 3 by omega), qz_swt, if_pos c4]
    obtain ⟨r, t, h1, h2, a1, a2, a3, a4, a5, a6⟩ := bz_run (bz_opEnc) j
    have a3 : r = t := a3
    subst a3
    rw [bz_ck (show (1 : Int) ≠ 0 by omega), a1, bz_bc, bz_ck (show (67 : Int) ≠ 0 by omega), a2, bz_bc, if_pos rfl, bz_457 k23 i0 (by omega)]
    exact ⟨h2, rfl, a4, s.to a5 a6⟩
  by_cases c5 : c = 5
  · rw [qz_swt, if_neg (show ¬ c = 0 by omega), qz_swt, if_neg (show ¬ c = 1 by omega), qz_swt, if_neg (show ¬ c = 2 by omega), qz_swt, if_neg (show ¬ c = 3 by omega), qz_swt, if_neg (show ¬ c = 4 by omega), qz_swt, if_pos c5]
    obtain ⟨r, t, h1, h2, a1, a2, a3, a4, a5, a6⟩ := bz_run (bz_opOct (h (-34) (i + 1))) j
    have a3 : r = t := a3
    subst a3
    rw [w1, bz_ck (show (-34 : Int) ≠ 0 by omega), bz_ck (show 0 ≤ i + 1 ∧ i + 1 < (L : Int) by omega), bz_ck (show (1 : Int) ≠ 0 by omega), a1, bz_bc, a5 (-34) (-1) (by omega), s.1, bz_ck (show (-34 : Int) ≠ 0 by omega), bz_ck (show 0 ≤ i + 1 ∧ i + 1 < (L : Int) by omega), bz_ck (show (67 : Int) ≠ 0 by omega), a5 (-34) (i + 1) (by omega), a2, bz_bc, if_pos rfl, bz_457 k23 i0 (by omega)]
    exact ⟨h2, rfl, a4, s.to a5 a6⟩
  by_cases c6 : c = 6
  · rw [qz_swt, if_neg (show ¬ c = 0 by omega), qz_swt, if_neg (show ¬ c = 1 by omega), qz_swt, if_neg (show ¬ c = 2 by omega), qz_swt, if_neg (show ¬ c = 3 by omega), qz_swt, if_neg (show ¬ c = 4 by omega), qz_swt, if_neg (show ¬ c = 5 by omega), qz_swt, if_pos c6]
    obtain ⟨r, t, h1, h2, a1, a2, ⟨a3, a3b⟩, a4, a5, a6⟩ := bz_run (bz_opPrt) j
    rw [a1, bz_bc, bz_bn, bz_ck (show (67 : Int) ≠ 0 by omega), a2, bz_bc, bz_bn, bz_ck (show (67 : Int) ≠ 0 by omega)]
    unfold fn_Md_thrown fn_Law_law_316
    rw [bz_bc, a3, if_pos rfl]
    by_cases z : r = 0
    · have e : h2 109 0 = t := by rw [a6 109 0 (by omega)]; exact a3b z
      have e1 : h2 109 (-1) = 1 := a4.2.2.1
      rw [if_neg (fun w => w z), bz_ck (show (109 : Int) ≠ 0 by omega), e1, bz_ck (by omega), e, bz_cmp_eq, if_pos rfl, bz_457 k23 i0 (by omega)]
      exact ⟨h2, rfl, a4, s.to a5 a6⟩
    · rw [if_pos z, bz_457 k23 i0 (by omega)]
      exact ⟨h2, rfl, a4, s.to a5 a6⟩
  by_cases c7 : c = 7
  · rw [qz_swt, if_neg (show ¬ c = 0 by omega), qz_swt, if_neg (show ¬ c = 1 by omega), qz_swt, if_neg (show ¬ c = 2 by omega), qz_swt, if_neg (show ¬ c = 3 by omega), qz_swt, if_neg (show ¬ c = 4 by omega), qz_swt, if_neg (show ¬ c = 5 by omega), qz_swt, if_neg (show ¬ c = 6 by omega), qz_swt, if_pos c7]
    obtain ⟨r, t, h1, h2, a1, a2, a3, a4, a5, a6⟩ := bz_run (bz_opPlace) j
    have a3 : r = t := a3
    subst a3
    rw [bz_ck (show (1 : Int) ≠ 0 by omega), a1, bz_bc, bz_ck (show (67 : Int) ≠ 0 by omega), a2, bz_bc, if_pos rfl, bz_457 k23 i0 (by omega)]
    exact ⟨h2, rfl, a4, s.to a5 a6⟩
  by_cases c8 : c = 8
  · rw [qz_swt, if_neg (show ¬ c = 0 by omega), qz_swt, if_neg (show ¬ c = 1 by omega), qz_swt, if_neg (show ¬ c = 2 by omega), qz_swt, if_neg (show ¬ c = 3 by omega), qz_swt, if_neg (show ¬ c = 4 by omega), qz_swt, if_neg (show ¬ c = 5 by omega), qz_swt, if_neg (show ¬ c = 6 by omega), qz_swt, if_neg (show ¬ c = 7 by omega), qz_swt, if_pos c8]
    obtain ⟨r, t, h1, h2, a1, a2, a3, a4, a5, a6⟩ := bz_run (bz_opFns) j
    have a3 : r = t := a3
    subst a3
    rw [bz_ck (show (1 : Int) ≠ 0 by omega), a1, bz_bc, bz_ck (show (67 : Int) ≠ 0 by omega), a2, bz_bc, if_pos rfl, bz_457 k23 i0 (by omega)]
    exact ⟨h2, rfl, a4, s.to a5 a6⟩
  by_cases c9 : c = 9
  · rw [qz_swt, if_neg (show ¬ c = 0 by omega), qz_swt, if_neg (show ¬ c = 1 by omega), qz_swt, if_neg (show ¬ c = 2 by omega), qz_swt, if_neg (show ¬ c = 3 by omega), qz_swt, if_neg (show ¬ c = 4 by omega), qz_swt, if_neg (show ¬ c = 5 by omega), qz_swt, if_neg (show ¬ c = 6 by omega), qz_swt, if_neg (show ¬ c = 7 by omega), qz_swt, if_neg (show ¬ c = 8 by omega), qz_swt, if_pos c9]
    obtain ⟨r, t, h1, h2, a1, a2, a3, a4, a5, a6⟩ := bz_run (bz_opFn (f := h (-34) (i + 1)) r2.1 r2.2) j
    have a3 : r = t := a3
    subst a3
    rw [w1, w2, bz_ck (show (-34 : Int) ≠ 0 by omega), bz_ck (show 0 ≤ i + 1 ∧ i + 1 < (L : Int) by omega), bz_ck (show (-34 : Int) ≠ 0 by omega), bz_ck (show 0 ≤ i + 2 ∧ i + 2 < (L : Int) by omega), bz_ck (show (1 : Int) ≠ 0 by omega), a1, bz_bc, a5 (-34) (-1) (by omega), s.1, bz_ck (show (-34 : Int) ≠ 0 by omega), bz_ck (show 0 ≤ i + 1 ∧ i + 1 < (L : Int) by omega), bz_ck (show (-34 : Int) ≠ 0 by omega), bz_ck (show 0 ≤ i + 2 ∧ i + 2 < (L : Int) by omega), bz_ck (show (67 : Int) ≠ 0 by omega), a5 (-34) (i + 1) (by omega), a5 (-34) (i + 2) (by omega), a2, bz_bc, if_pos rfl, bz_457 k23 i0 (by omega)]
    exact ⟨h2, rfl, a4, s.to a5 a6⟩
  by_cases c10 : c = 10
  · rw [qz_swt, if_neg (show ¬ c = 0 by omega), qz_swt, if_neg (show ¬ c = 1 by omega), qz_swt, if_neg (show ¬ c = 2 by omega), qz_swt, if_neg (show ¬ c = 3 by omega), qz_swt, if_neg (show ¬ c = 4 by omega), qz_swt, if_neg (show ¬ c = 5 by omega), qz_swt, if_neg (show ¬ c = 6 by omega), qz_swt, if_neg (show ¬ c = 7 by omega), qz_swt, if_neg (show ¬ c = 8 by omega), qz_swt, if_neg (show ¬ c = 9 by omega), qz_swt, if_pos c10]
    obtain ⟨r, t, h1, h2, a1, a2, a3, a4, a5, a6⟩ := bz_run (bz_opIns (f := h (-34) (i + 1)) r2.1 r2.2) j
    have a3 : r = t := a3
    subst a3
    rw [w1, w2, bz_ck (show (-34 : Int) ≠ 0 by omega), bz_ck (show 0 ≤ i + 1 ∧ i + 1 < (L : Int) by omega), bz_ck (show (-34 : Int) ≠ 0 by omega), bz_ck (show 0 ≤ i + 2 ∧ i + 2 < (L : Int) by omega), bz_ck (show (1 : Int) ≠ 0 by omega), a1, bz_bc, a5 (-34) (-1) (by omega), s.1, bz_ck (show (-34 : Int) ≠ 0 by omega), bz_ck (show 0 ≤ i + 1 ∧ i + 1 < (L : Int) by omega), bz_ck (show (-34 : Int) ≠ 0 by omega), bz_ck (show 0 ≤ i + 2 ∧ i + 2 < (L : Int) by omega), bz_ck (show (67 : Int) ≠ 0 by omega), a5 (-34) (i + 1) (by omega), a5 (-34) (i + 2) (by omega), a2, bz_bc, if_pos rfl, bz_457 k23 i0 (by omega)]
    exact ⟨h2, rfl, a4, s.to a5 a6⟩
  by_cases c11 : c = 11
  · rw [qz_swt, if_neg (show ¬ c = 0 by omega), qz_swt, if_neg (show ¬ c = 1 by omega), qz_swt, if_neg (show ¬ c = 2 by omega), qz_swt, if_neg (show ¬ c = 3 by omega), qz_swt, if_neg (show ¬ c = 4 by omega), qz_swt, if_neg (show ¬ c = 5 by omega), qz_swt, if_neg (show ¬ c = 6 by omega), qz_swt, if_neg (show ¬ c = 7 by omega), qz_swt, if_neg (show ¬ c = 8 by omega), qz_swt, if_neg (show ¬ c = 9 by omega), qz_swt, if_neg (show ¬ c = 10 by omega), qz_swt, if_pos c11]
    obtain ⟨r, t, h1, h2, a1, a2, a3, a4, a5, a6⟩ := bz_run (bz_opImm (f := h (-34) (i + 1)) r2.1 r2.2) j
    have a3 : r = t := a3
    subst a3
    rw [w1, w2, bz_ck (show (-34 : Int) ≠ 0 by omega), bz_ck (show 0 ≤ i + 1 ∧ i + 1 < (L : Int) by omega), bz_ck (show (-34 : Int) ≠ 0 by omega), bz_ck (show 0 ≤ i + 2 ∧ i + 2 < (L : Int) by omega), bz_ck (show (1 : Int) ≠ 0 by omega), a1, bz_bc, a5 (-34) (-1) (by omega), s.1, bz_ck (show (-34 : Int) ≠ 0 by omega), bz_ck (show 0 ≤ i + 1 ∧ i + 1 < (L : Int) by omega), bz_ck (show (-34 : Int) ≠ 0 by omega), bz_ck (show 0 ≤ i + 2 ∧ i + 2 < (L : Int) by omega), bz_ck (show (67 : Int) ≠ 0 by omega), a5 (-34) (i + 1) (by omega), a5 (-34) (i + 2) (by omega), a2, bz_bc, bz_cmp_eq, if_pos rfl, bz_457 k23 i0 (by omega)]
    exact ⟨h2, rfl, a4, s.to a5 a6⟩
  rw [qz_swt, if_neg (show ¬ c = 0 by omega), qz_swt, if_neg (show ¬ c = 1 by omega), qz_swt, if_neg (show ¬ c = 2 by omega), qz_swt, if_neg (show ¬ c = 3 by omega), qz_swt, if_neg (show ¬ c = 4 by omega), qz_swt, if_neg (show ¬ c = 5 by omega), qz_swt, if_neg (show ¬ c = 6 by omega), qz_swt, if_neg (show ¬ c = 7 by omega), qz_swt, if_neg (show ¬ c = 8 by omega), qz_swt, if_neg (show ¬ c = 9 by omega), qz_swt, if_neg (show ¬ c = 10 by omega), qz_swt, if_neg (show ¬ c = 11 by omega), qz_swt, bz_457 k23 i0 (by omega)]
  exact ⟨h, rfl, j, s⟩
end LAW
theorem bz_loop (rd : bz_Rd) {L : Nat} (hL : L ≤ 1536) : ∀ (m n : Nat) (i : Int) (h : qz_H), bz_J h h → bz_Scr h L → 0 ≤ i → i ≤ 1536 → (L : Int) - 3 < i + 3 * m → ∃ h', fn_Law_law_23 (n + m + 1) (-34) 1 67 109 i h = some (1, h') := by
  have fin : ∀ (q : Nat) (i : Int) (h : qz_H), bz_Scr h L → (L : Int) - 3 < i → fn_Law_law_23 (q + 1) (-34) 1 67 109 i h = some (1, h) := by
    intro q i h s hi
    rw [fn_Law_law_23]
    unfold fn_Law_law_23_b
    rw [bz_ck (show (-34 : Int) ≠ 0 by omega), s.1, bz_w (show -2147483648 ≤ (L : Int) - 3 by omega) (by omega), if_pos hi, bz_ck (by omega)]
  intro m
  induction m with
  | zero =>
    intro n i h j s i0 i1 hm
    exact ⟨h, fin _ i h s (by omega)⟩
  | succ m ih =>
    intro n i h j s i0 i1 hm
    by_cases q : (L : Int) - 3 < i
    · exact ⟨h, fin _ i h s q⟩
    · obtain ⟨h1, e1, e2, e3⟩ := bz_step (fn_Law_law_23 (n + m + 1)) rd j s hL i0 (by omega)
      obtain ⟨h', e4⟩ := ih n (i + 3) h1 e2 e3 (by omega) (by omega) (by omega)
      refine ⟨h', ?_⟩
      rw [show n + (m + 1) + 1 = (n + m + 1) + 1 from by omega, fn_Law_law_23, e1, e4]
