section CKC
variable {h0 m0 hc hm P : qz_H} {M f d t b : Int}
theorem bz_tres (hM : M = 6 ∨ M = 18) (wf : bz_wf P) (k : bz_K h0 m0 hc hm M P f d t b) {r : Int} (c0 : 0 ≤ r) (c1 : r ≤ 2) : ∃ t' b' hc' hm', fn_Checker_takeResult 48 r hc = some (0, hc') ∧ fn_Md_takeResult 67 r hm = some (0, hm') ∧ bz_K h0 m0 hc' hm' M P f d t' b' ∧ t' ≤ t ∧ (b = 1 → b' = 1) := by
  unfold fn_Checker_takeResult fn_Checker_takeResult_10 fn_Md_takeResult fn_Md_takeResult_13
  dsimp only [qz_bn]
  by_cases q : r = 0
  · rw [if_pos q, if_pos (by omega)]
    exact ⟨t, b, hc, hm, rfl, rfl, k, Int.le_refl _, id⟩
  · obtain ⟨gc, t', b', hc', hm', e1, e2, e3, e4, e5, e6⟩ := bz_take hM wf k (show 1 ≤ r by omega) (by omega)
    have sv : bz_sv r = r := if_neg (by omega)
    rw [sv] at e2
    rw [if_neg q, if_neg (by omega), e1, e2]
    exact ⟨t', b', hc', hm', rfl, rfl, e3, e5, e6⟩
theorem bz_die (hM : M = 6 ∨ M = 18) (wf : bz_wf P) (k : bz_K h0 m0 hc hm M P f d t b) : ∃ t' hc' hm', fn_Checker_makeUnreachable 48 hc = some (0, hc') ∧ fn_Md_die 67 hm = some (0, hm') ∧ bz_K h0 m0 hc' hm' M P f d t' b ∧ t' ≤ t := by
  obtain ⟨xk, xl, r⟩ := k
  obtain ⟨⟨r1, r2, r3, r4, r5, r6⟩, ⟨q1, q2, q3, q4, q5⟩, s1, s2, s3, s4⟩ := id r
  obtain ⟨f1, f2, f3, f4, f5, f6, f7, f8, f9, f10⟩ := s2 d q2 (Int.le_refl _)
  have fr := bz_frm xk.1 q2 (show d ≤ 11 by omega)
  have rr := r.hgt (v := hc (51 + d) 2) (by omega) (by omega)
  have xk1 : bz_XK h0 (qz_up hc 48 4 (hc (51 + d) 2)) M P f := xk.up hM wf (by omega)
  refine ⟨hc (51 + d) 2, qz_up (qz_up hc 48 4 (hc (51 + d) 2)) (51 + d) 3 1, qz_up (qz_up hm 105 d 1) 67 49 (hc (51 + d) 2), ?_, ?_, ⟨xk1.up hM wf (by omega), (xl.up (o := 105) (i := d) (v := 1) (by omega)).up (by omega), ?_⟩, s4⟩
  · unfold fn_Checker_makeUnreachable
    dsimp only [qz_bn]
    rw [bz_c48_1 xk.1, bz_c50_m1 xk.1, r3, fr, bz_ck (by omega), bz_ck (by omega), bz_ck (by omega), bz_ck (by omega), bz_c48_1 xk1.1, bz_c50_m1 xk1.1, bz_ui (by omega), r3, bz_frm xk1.1 q2 (show d ≤ 11 by omega), bz_ck (by omega), bz_ck (by omega), bz_ck (by omega), bz_ck (by omega), bz_ck (by omega)]
  · unfold fn_Md_die
    dsimp only [qz_bn]
    have xl1 : bz_XL m0 (qz_up hm 105 d 1) P := xl.up (by omega)
    rw [show qz_nz 1 = 1 from by decide +kernel, r4, show d + 1 - 1 = d from by omega, bz_w (show -2147483648 ≤ d by omega) (by omega), bz_m67_56 xl.1, bz_m105_m1 xl.1, bz_ck (by omega), bz_ck (by omega), bz_m67_54 xl1.1, bz_m103_m1 xl1.1, bz_uo (show (67 : Int) ≠ 105 by omega), r4, show d + 1 - 1 = d from by omega, bz_w (show -2147483648 ≤ d by omega) (by omega), bz_ck (by omega), bz_ck (by omega), bz_ck (by omega), bz_uo (show (103 : Int) ≠ 105 by omega), f3]
  · obtain ⟨⟨a1, a2, a3, a4, a5, a6⟩, ⟨b1, b2, b3, b4, b5⟩, c1, c2, c3, c4⟩ := rr
    refine ⟨⟨?_, ?_, ?_, ?_, ?_, ?_⟩, ⟨b1, b2, b3, b4, b5⟩, fun k k0 k1 => ?_, fun j j0 j1 => ?_, fun j j0 j1 => ?_, ?_⟩
    · rw [bz_uo (by omega)]; exact a1
    · rw [bz_us]
    · rw [bz_uo (by omega)]; exact a3
    · rw [bz_ui (by omega), bz_uo (by omega)]; exact r4
    · rw [bz_uo (by omega)]; exact a5
    · rw [bz_ui (by omega), bz_uo (by omega)]; exact r6
    · have e1 : qz_up (qz_up hc 48 4 (hc (51 + d) 2)) (51 + d) 3 1 49 k = hc 49 k := by rw [bz_uo (by omega), bz_uo (by omega)]
      have e2 : qz_up (qz_up hm 105 d 1) 67 49 (hc (51 + d) 2) 100 k = hm 100 k := by rw [bz_uo (by omega), bz_uo (by omega)]
      rw [e1, e2]
      exact s1 k k0 (by omega)
    · unfold bz_fm1
      obtain ⟨g1, g2, g3, g4, g5, g6, g7, g8, g9, g10⟩ := s2 j j0 j1
      have e : ∀ i : Int, i ≠ 3 → qz_up (qz_up hc 48 4 (hc (51 + d) 2)) (51 + d) 3 1 (51 + j) i = hc (51 + j) i := fun i hi => by rw [bz_ui hi, bz_uo (by omega)]
      have e2 : ∀ o : Int, o ≠ 105 → o ≠ 67 → qz_up (qz_up hm 105 d 1) 67 49 (hc (51 + d) 2) o j = hm o j := fun o h1 h2 => by rw [bz_uo h2, bz_uo h1]
      rw [e 0 (by omega), e 1 (by omega), e 2 (by omega), e 4 (by omega), e2 101 (by omega) (by omega), e2 102 (by omega) (by omega), e2 103 (by omega) (by omega), e2 104 (by omega) (by omega)]
      have e3 : qz_up (qz_up hm 105 d 1) 67 49 (hc (51 + d) 2) 105 j = qz_up hm 105 d 1 105 j := bz_uo (by omega)
      rw [e3]
      by_cases q : j = d
      · subst q
        rw [bz_us, bz_us]
        exact ⟨g1, g2, g3, rfl, g5, g6, g7, g8, g9, Or.inr rfl⟩
      · rw [bz_ui q, bz_uo (show 51 + j ≠ 51 + d by omega), bz_uo (by omega)]
        exact ⟨g1, g2, g3, g4, g5, g6, g7, g8, g9, g10⟩
    · have e : ∀ i : Int, qz_up (qz_up hc 48 4 (hc (51 + d) 2)) (51 + d) 3 1 (51 + i) 2 = hc (51 + i) 2 := fun i => by rw [bz_ui (by omega), bz_ui (by omega)]
      rw [e, e]
      exact s3 j j0 j1
    · rw [bz_ui (by omega), bz_uo (by omega)]
      exact Int.le_refl _
end CKC
