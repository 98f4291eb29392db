theorem bz_up_id {h : qz_H} {o i v : Int} (e : h o i = v) : qz_up h o i v = h := by
  funext a x
  unfold qz_up
  by_cases z : a = o ∧ x = i
  · rw [if_pos z, z.1, z.2, e]
  · rw [if_neg z]
/-- both have found a fault -/
def bz_Iv (h0 m0 hc hm : qz_H) (M : Int) (P : qz_H) (f : Int) : Prop := bz_XK h0 hc M P f ∧ bz_XL m0 hm P ∧ hc 48 6 = 1 ∧ hm 67 57 = 1
section CKE
variable {h0 m0 hc hm P : qz_H} {M f d t : Int}
theorem bz_endf (hM : M = 6 ∨ M = 18) (wf : bz_wf P) (k : bz_K h0 m0 hc hm M P f d t 0) : ∃ hc' hm', fn_Checker_endFrame 48 hc = some (0, hc') ∧ fn_Md_endFrame 67 hm = some (0, hm') ∧ ((∃ t', bz_K h0 m0 hc' hm' M P f d t' 0 ∧ t' = hc' (51 + d) 2 ∧ t' ≤ t) ∨ (bz_Iv h0 m0 hc' hm' M P f ∧ hc' 48 5 = d ∧ hm' 67 51 = d + 1 ∧ (0 ≤ d ∧ d ≤ 10) ∧ bz_fm1 hc' hm' d ∧ (0 ≤ hc' 48 4 ∧ hc' 48 4 ≤ 64) ∧ 0 ≤ hm' 67 49 ∧ hm' 67 49 ≤ 64)) := by
  obtain ⟨⟨a1, a2, a3, a4, a5, a6⟩, ⟨q1, q2, q3, q4, q5⟩, s1, s2, s3, s4⟩ := id k.2.2
  obtain ⟨f1, f2, f3, f4, f5, f6, f7, f8, f9, f10⟩ := s2 d q2 (Int.le_refl _)
  have fr := bz_frm k.1.1 q2 (show d ≤ 11 by omega)
  obtain ⟨t', b', h1, m1, e1, e2, e3, e4, e5⟩ := bz_tres hM wf k f8.1 f8.2
  obtain ⟨⟨c1, c2, c3, c4, c5, c6⟩, ⟨p1, p2, p3, p4, p5⟩, u1, u2, u3, u4⟩ := id e3.2.2
  obtain ⟨g1, g2, g3, g4, g5, g6, g7, g8, g9, g10⟩ := u2 d p2 (Int.le_refl _)
  have fr1 := bz_frm e3.1.1 q2 (show d ≤ 11 by omega)
  have hcS : fn_Checker_endFrame 48 hc = if t' = h1 (51 + d) 2 then some (0, h1) else some (0, qz_up h1 48 6 1) := by
    unfold fn_Checker_endFrame fn_Checker_endFrame_40
    dsimp only [qz_bn]
    rw [bz_c48_1 k.1.1, bz_c50_m1 k.1.1, a3, fr, bz_ck (by omega), bz_ck (by omega), bz_ck (by omega), e1, bz_bc, bz_c48_1 e3.1.1, bz_c50_m1 e3.1.1, c3, fr1, bz_ck (by omega), bz_ck (by omega), bz_ck (by omega), c1, bz_ck (by omega), bz_ck (by omega)]
  have hmS : fn_Md_endFrame 67 hm = if ¬ b' = 0 then some (0, qz_up (qz_up m1 67 57 1) 67 49 (h1 (51 + d) 2)) else if t' = h1 (51 + d) 2 then some (0, qz_up (qz_up m1 67 57 0) 67 49 (h1 (51 + d) 2)) else some (0, qz_up (qz_up m1 67 57 1) 67 49 (h1 (51 + d) 2)) := by
    have w : ∀ v : Int, (v = 0 ∨ v = 1) → fn_Md_endFrame_43 67 d 67 v m1 = some (0, qz_up (qz_up m1 67 57 v) 67 49 (h1 (51 + d) 2)) := by
      intro v hv
      have y : bz_XL m0 (qz_up m1 67 57 v) P := e3.2.1.up (by omega)
      unfold fn_Md_endFrame_43
      dsimp only [qz_bn]
      rw [bz_ck hv, bz_ck (by omega), bz_m67_54 y.1, bz_m103_m1 y.1, bz_ck (by omega), bz_ck (by omega), bz_ck (by omega), bz_uo (show (103 : Int) ≠ 67 by omega), g3]
    unfold fn_Md_endFrame fn_Md_endFrame_38
    dsimp only [qz_bn]
    rw [a4, show d + 1 - 1 = d from by omega, bz_w (show -2147483648 ≤ d by omega) (by omega), bz_m67_53 k.2.1.1, bz_m102_m1 k.2.1.1, bz_ck (by omega), bz_ck (by omega), f2, e2, bz_bc, c6, bz_m67_54 e3.2.1.1, bz_m103_m1 e3.2.1.1, bz_ck (by omega), bz_ck (by omega), c2, g3, w 0 (Or.inl rfl), w 1 (Or.inr rfl)]
  have fm1k : ∀ (v w : Int), bz_fm1 (qz_up h1 48 6 v) (qz_up (qz_up m1 67 57 v) 67 49 w) d ∧ bz_fm1 h1 (qz_up (qz_up m1 67 57 v) 67 49 w) d := by
    intro v w
    constructor
    · unfold bz_fm1
      simp (disch := omega) only [bz_uo]
      exact u2 d p2 (Int.le_refl _)
    · unfold bz_fm1
      simp (disch := omega) only [bz_uo]
      exact u2 d p2 (Int.le_refl _)
  have xl1 : ∀ (v w : Int), bz_XL m0 (qz_up (qz_up m1 67 57 v) 67 49 w) P := fun v w => (e3.2.1.up (by omega)).up (by omega)
  have xk1 : bz_XK h0 (qz_up h1 48 6 1) M P f := e3.1.up hM wf (by omega)
  rw [hcS, hmS]
  by_cases cb : b' = 0
  · subst cb
    rw [if_neg (show ¬ ¬ (0 : Int) = 0 from fun z => z rfl)]
    by_cases ct : t' = h1 (51 + d) 2
    · rw [if_pos ct, if_pos ct]
      have id1 : qz_up (qz_up m1 67 57 0) 67 49 (h1 (51 + d) 2) = m1 := by
        rw [bz_up_id c6]
        exact bz_up_id (by rw [c2]; exact ct)
      rw [id1]
      exact ⟨h1, m1, rfl, rfl, Or.inl ⟨t', e3, ct, e4⟩⟩
    · rw [if_neg ct, if_neg ct]
      refine ⟨_, _, rfl, rfl, Or.inr ⟨⟨xk1, xl1 1 _, bz_us _ _ _ _, by rw [bz_ui (by omega), bz_us]⟩, by rw [bz_ui (by omega)]; exact c3, by rw [bz_ui (by omega), bz_ui (by omega)]; exact c4, ⟨p2, p3⟩, (fm1k 1 _).1, by rw [bz_ui (by omega), c1]; omega, by rw [bz_us]; omega⟩⟩
  · have hb : b' = 1 := by omega
    subst hb
    rw [if_pos cb]
    by_cases ct : t' = h1 (51 + d) 2
    · rw [if_pos ct]
      refine ⟨_, _, rfl, rfl, Or.inr ⟨⟨e3.1, xl1 1 _, c5, by rw [bz_ui (by omega), bz_us]⟩, c3, by rw [bz_ui (by omega), bz_ui (by omega)]; exact c4, ⟨p2, p3⟩, (fm1k 1 _).2, by rw [c1]; omega, by rw [bz_us]; omega⟩⟩
    · rw [if_neg ct]
      refine ⟨_, _, rfl, rfl, Or.inr ⟨⟨xk1, xl1 1 _, bz_us _ _ _ _, by rw [bz_ui (by omega), bz_us]⟩, by rw [bz_ui (by omega)]; exact c3, by rw [bz_ui (by omega), bz_ui (by omega)]; exact c4, ⟨p2, p3⟩, (fm1k 1 _).1, by rw [bz_ui (by omega), c1]; omega, by rw [bz_us]; omega⟩⟩
/-- else -/
theorem bz_else (hM : M = 6 ∨ M = 18) (wf : bz_wf P) (k : bz_K h0 m0 hc hm M P f d t 0) : ∃ h1 hc' hm', fn_Checker_endFrame 48 hc = some (0, h1) ∧ fn_Checker_restartFrame 48 h1 = some (0, hc') ∧ fn_Md_control_10 67 5 0 hm = some (0, hm') ∧ ((∃ t', bz_K h0 m0 hc' hm' M P f d t' 0 ∧ t' ≤ t) ∨ bz_Iv h0 m0 hc' hm' M P f) := by
  obtain ⟨h1, m1, e1, e2, e3⟩ := bz_endf hM wf k
  -- what both do then
  have rst : ∀ (h1 : qz_H), bz_XK h0 h1 M P f → h1 48 5 = d → 0 ≤ d → d ≤ 10 → fn_Checker_restartFrame 48 h1 = some (0, qz_up (qz_up (qz_up h1 48 4 (h1 (51 + d) 2)) (51 + d) 3 0) (51 + d) 4 0) := by
    intro h1 xk d1 d2 d3
    have fr := bz_frm xk.1 d2 (show d ≤ 11 by omega)
    unfold fn_Checker_restartFrame
    dsimp only [qz_bn]
    rw [bz_c48_1 xk.1, bz_c50_m1 xk.1, d1, fr, bz_ck (by omega), bz_ck (by omega), bz_ck (by omega), bz_ck (by omega), bz_ck (by omega), bz_ck (by omega), bz_ck (by omega), bz_ck (by omega), bz_ck (by omega), bz_ck (by omega)]
  have mst : bz_XL m0 m1 P → m1 67 51 = d + 1 → 0 ≤ d → d ≤ 10 → fn_Md_control_10 67 5 0 hm = some (0, qz_up (qz_up m1 105 d 0) 104 d 5) := by
    intro xl d1 d2 d3
    have y : bz_XL m0 (qz_up m1 105 d 0) P := xl.up (by omega)
    unfold fn_Md_control_10
    dsimp only [qz_bn]
    rw [if_pos (by omega), e2, bz_bc, d1, show d + 1 - 1 = d from by omega, bz_w (show -2147483648 ≤ d by omega) (by omega), if_neg (fun z => z rfl), bz_m67_56 xl.1, bz_m105_m1 xl.1, bz_ck (by omega), bz_ck (by omega), show qz_nz 0 = 0 from by decide +kernel, bz_m67_55 y.1, bz_m104_m1 y.1, bz_ck (by omega), bz_ck (by omega)]
  rcases e3 with ⟨t', k1, ht, htt⟩ | ⟨iv, w1, w2, w3, w4, w5, w6⟩
  · obtain ⟨⟨c1, c2, c3, c4, c5, c6⟩, ⟨p1, p2, p3, p4, p5⟩, u1, u2, u3, u4⟩ := id k1.2.2
    refine ⟨h1, _, _, e1, rst h1 k1.1 c3 p2 p3, mst k1.2.1 c4 p2 p3, Or.inl ⟨t', ⟨((k1.1.up hM wf (by omega)).up hM wf (by omega)).up hM wf (by omega), (k1.2.1.up (by omega)).up (by omega), ?_⟩, htt⟩⟩
    rw [bz_up_id (show h1 48 4 = h1 (51 + d) 2 by rw [c1]; exact ht)]
    refine ⟨⟨?_, ?_, ?_, ?_, ?_, ?_⟩, ⟨p1, p2, p3, p4, p5⟩, fun k k0 k1 => ?_, fun j j0 j1 => ?_, fun j j0 j1 => ?_, ?_⟩
    · simp (disch := omega) only [bz_uo]; exact c1
    · simp (disch := omega) only [bz_uo]; exact c2
    · simp (disch := omega) only [bz_uo]; exact c3
    · simp (disch := omega) only [bz_uo]; exact c4
    · simp (disch := omega) only [bz_uo]; exact c5
    · simp (disch := omega) only [bz_uo]; exact c6
    · simp (disch := omega) only [bz_uo]; exact u1 k k0 k1
    · unfold bz_fm1
      obtain ⟨g1, g2, g3, g4, g5, g6, g7, g8, g9, g10⟩ := u2 j j0 j1
      by_cases q : j = d
      · subst q
        simp (disch := omega) only [bz_uo, bz_ui, bz_us]
        exact ⟨g1, g2, g3, trivial, by simp, Or.inl trivial, g7, g8, g9, Or.inl trivial⟩
      · simp (disch := omega) only [bz_uo, bz_ui]
        exact ⟨g1, g2, g3, g4, g5, g6, g7, g8, g9, g10⟩
    · simp (disch := omega) only [bz_ui]; exact u3 j j0 j1
    · simp (disch := omega) only [bz_ui]; exact u4
  · refine ⟨h1, _, _, e1, rst h1 iv.1 w1 w3.1 w3.2, mst iv.2.1 w2 w3.1 w3.2, Or.inr ⟨((iv.1.up hM wf (by omega)).up hM wf (by omega)).up hM wf (by omega), (iv.2.1.up (by omega)).up (by omega), ?_, ?_⟩⟩
    · rw [bz_uo (by omega), bz_uo (by omega), bz_ui (by omega)]; exact iv.2.2.1
    · rw [bz_uo (by omega), bz_uo (by omega)]; exact iv.2.2.2
/-- end -/
theorem bz_lv33 {h : qz_H} (hh : h 48 5 = d) (hd : 1 ≤ d) (hd10 : d ≤ 10) : fn_Checker_leaveFrame_33 48 (51 + d) h = qz_bc (fn_Checker_put 48 (h (51 + d) 1) (qz_up h 48 5 (d - 1))) fun _ h3 => some (0, h3) := by
  have mx : qz_max 0 (d - 1) = d - 1 := by
    unfold qz_max
    by_cases z : 0 < d - 1
    · exact if_pos z
    · rw [if_neg z]; omega
  unfold fn_Checker_leaveFrame_33
  dsimp only [qz_bn]
  rw [hh, bz_w (show -2147483648 ≤ d - 1 by omega) (by omega), mx, bz_ck (by omega), bz_ck (by omega), bz_uo (show 51 + d ≠ 48 by omega)]
theorem bz_lv95 {m1 : qz_H} {v : Int} (hv : v = 0 ∨ v = 1) (xl : bz_XL m0 m1 P) (h51 : m1 67 51 = d + 1) (hd : 1 ≤ d) (hd10 : d ≤ 10) : fn_Md_control_95 67 d 67 v m1 = if m1 102 d ≤ 0 then some (0, qz_up (qz_up m1 67 57 v) 67 51 d) else qz_bc (fn_Md_put 67 (m1 102 d) (qz_up (qz_up m1 67 57 v) 67 51 d)) fun _ h4 => some (0, h4) := by
  have y : bz_XL m0 (qz_up (qz_up m1 67 57 v) 67 51 d) P := (xl.up (by omega)).up (by omega)
  unfold fn_Md_control_95 fn_Md_control_127
  dsimp only [qz_bn]
  rw [bz_ck hv, bz_ck (by omega), bz_ck (by omega), bz_ui (show (51 : Int) ≠ 57 by omega), h51, show d + 1 - 1 = d from by omega, bz_w (show -2147483648 ≤ d by omega) (by omega), bz_m67_53 y.1, bz_m102_m1 y.1, bz_ck (by omega), bz_ck (by omega), bz_ck (by omega), bz_ck (by omega), bz_uo (show (102 : Int) ≠ 67 by omega), bz_uo (show (102 : Int) ≠ 67 by omega)]
theorem bz_lvp (hM : M = 6 ∨ M = 18) (wf : bz_wf P) {h2 : qz_H} (xk : bz_XK h0 h2 M P f) (b1 : h2 48 6 = 1) (b5 : 0 ≤ h2 48 4 ∧ h2 48 4 ≤ 64) (v : Int) : ∃ h3, fn_Checker_put 48 v h2 = some (0, h3) ∧ bz_XK h0 h3 M P f ∧ h3 48 6 = 1 := by
  unfold fn_Checker_put fn_Checker_put_40
  dsimp only [qz_bn]
  by_cases z1 : v = 0
  · rw [if_pos z1]
    exact ⟨_, rfl, xk, b1⟩
  rw [if_neg z1, if_neg (by omega)]
  by_cases z2 : 64 ≤ h2 48 4
  · rw [if_pos z2]
    exact ⟨_, rfl, xk, b1⟩
  · rw [if_neg z2, bz_c48_0 xk.1, bz_c49_m1 xk.1, bz_ck (by omega), bz_ck (by omega), bz_ck (by omega)]
    exact ⟨_, rfl, (xk.up hM wf (by omega)).up hM wf (by omega), by rw [bz_ui (by omega), bz_uo (by omega)]; exact b1⟩
theorem bz_lvbad (hM : M = 6 ∨ M = 18) (wf : bz_wf P) {h2 m1 : qz_H} (xk : bz_XK h0 h2 M P f) (xl : bz_XL m0 m1 P) (b1 : h2 48 6 = 1) (b2 : h2 48 5 = d) (b3 : m1 67 51 = d + 1) (hd : 1 ≤ d) (b4 : d ≤ 10) (b5 : 0 ≤ h2 48 4 ∧ h2 48 4 ≤ 64) (b6 : 0 ≤ m1 67 49 ∧ m1 67 49 ≤ 64) : ∃ hc' hm', fn_Checker_leaveFrame_33 48 (51 + d) h2 = some (0, hc') ∧ fn_Md_control_95 67 d 67 1 m1 = some (0, hm') ∧ bz_Iv h0 m0 hc' hm' M P f := by
  have y1 : bz_XK h0 (qz_up h2 48 5 (d - 1)) M P f := xk.up hM wf (by omega)
  have y2 : bz_XL m0 (qz_up (qz_up m1 67 57 1) 67 51 d) P := (xl.up (by omega)).up (by omega)
  obtain ⟨h3, pc1, pc2, pc3⟩ := bz_lvp hM wf y1 (by rw [bz_ui (by omega)]; exact b1) (by rw [bz_ui (by omega)]; exact b5) (h2 (51 + d) 1)
  rw [bz_lv33 b2 hd b4, pc1, bz_bc, bz_lv95 (Or.inr rfl) xl b3 hd b4]
  have m57 : qz_up (qz_up m1 67 57 1) 67 51 d 67 57 = 1 := by rw [bz_ui (by omega), bz_us]
  by_cases z : m1 102 d ≤ 0
  · rw [if_pos z]
    exact ⟨_, _, rfl, rfl, pc2, y2, pc3, m57⟩
  · rw [if_neg z]
    have g9 : qz_up (qz_up m1 67 57 1) 67 51 d 67 49 = m1 67 49 := by rw [bz_ui (by omega), bz_ui (by omega)]
    have pm : fn_Md_put 67 (m1 102 d) (qz_up (qz_up m1 67 57 1) 67 51 d) = some (0, qz_up (qz_up (qz_up (qz_up m1 67 57 1) 67 51 d) 100 (m1 67 49) (m1 102 d)) 67 49 (m1 67 49 + 1)) := by
      unfold fn_Md_put
      dsimp only [qz_bn]
      rw [bz_m67_50 y2.1, bz_m100_m1 y2.1, g9, bz_ck (by omega), bz_ck (by omega), bz_ck (by omega), bz_uo (show (67 : Int) ≠ 100 by omega), g9, bz_w (by omega) (by omega)]
    rw [pm, bz_bc]
    exact ⟨_, _, rfl, rfl, pc2, (y2.up (by omega)).up (by omega), pc3, by rw [bz_ui (by omega), bz_uo (by omega)]; exact m57⟩
theorem bz_lvC (k : bz_K h0 m0 hc hm M P f d t 0) {h1 : qz_H} (e : fn_Checker_endFrame 48 hc = some (0, h1)) (hd : 1 ≤ d) (hd10 : d ≤ 10) : fn_Checker_leaveFrame 48 hc = if h1 (51 + d) 4 = 0 then fn_Checker_leaveFrame_33 48 (51 + d) h1 else if h1 (51 + d) 1 = 0 then fn_Checker_leaveFrame_33 48 (51 + d) h1 else fn_Checker_leaveFrame_33 48 (51 + d) (qz_up h1 48 6 1) := by
  have k3 := k.2.2.1.2.2.1
  have frk := bz_frm k.1.1 (show 0 ≤ d by omega) (show d ≤ 11 by omega)
  unfold fn_Checker_leaveFrame
  rw [bz_c48_1 k.1.1, bz_c50_m1 k.1.1, k3, bz_ck (show (50 : Int) ≠ 0 by omega), bz_ck (show 0 ≤ d ∧ d < 12 by omega), bz_bn, e, bz_bc, frk, bz_ck (show 51 + d ≠ 0 by omega), bz_ck (show 51 + d ≠ 0 by omega), bz_ck (show (1 : Int) = 0 ∨ (1 : Int) = 1 by omega), bz_ck (show (0 : Int) < 48 by omega), bz_bn]
theorem bz_lvM {m1 : qz_H} (e2 : fn_Md_endFrame 67 hm = some (0, m1)) (xl : bz_XL m0 m1 P) (h51 : m1 67 51 = d + 1) (hd : 1 ≤ d) (hd10 : d ≤ 10) : fn_Md_control_10 67 11 0 hm = if ¬ m1 67 57 = 0 then fn_Md_control_95 67 d 67 1 m1 else if ¬ m1 104 d = 4 then fn_Md_control_95 67 d 67 0 m1 else if m1 102 d ≤ 0 then fn_Md_control_95 67 d 67 0 m1 else fn_Md_control_95 67 d 67 1 m1 := by
  unfold fn_Md_control_10 fn_Md_control_90 fn_Md_control_94
  dsimp only [qz_bn]
  rw [if_pos (by omega), e2, bz_bc, h51, show d + 1 - 1 = d from by omega, bz_w (show -2147483648 ≤ d by omega) (by omega), if_pos (by omega), bz_m67_55 xl.1, bz_m104_m1 xl.1, bz_m67_53 xl.1, bz_m102_m1 xl.1, bz_ck (by omega), bz_ck (by omega), bz_ck (by omega), bz_ck (by omega)]
theorem bz_RF.pop {h1 m1 : qz_H} {t' : Int} (r : bz_RF h1 m1 d t' 0) (hd : 1 ≤ d) : bz_RF (qz_up h1 48 5 (d - 1)) (qz_up m1 67 51 d) (d - 1) t' 0 := by
  obtain ⟨⟨c1, c2, c3, c4, c5, c6⟩, ⟨p1, p2, p3, p4, p5⟩, u1, u2, u3, u4⟩ := r
  refine ⟨⟨?_, ?_, bz_us _ _ _ _, by rw [bz_us]; omega, ?_, ?_⟩, ⟨p1, by omega, by omega, p4, p5⟩, fun k k0 k1 => ?_, fun j j0 j1 => ?_, fun j j0 j1 => ?_, ?_⟩
  · rw [bz_ui (by omega)]; exact c1
  · rw [bz_ui (by omega)]; exact c2
  · rw [bz_ui (by omega)]; exact c5
  · rw [bz_ui (by omega)]; exact c6
  · rw [bz_uo (by omega), bz_uo (by omega)]; exact u1 k k0 k1
  · unfold bz_fm1
    simp (disch := omega) only [bz_uo]
    exact u2 j j0 (by omega)
  · rw [bz_uo (by omega), bz_uo (by omega)]; exact u3 j j0 (by omega)
  · rw [bz_uo (by omega)]
    have := u3 (d - 1) (by omega) (by omega)
    rw [show d - 1 + 1 = d from by omega] at this
    omega
theorem bz_leave (hM : M = 6 ∨ M = 18) (wf : bz_wf P) (k : bz_K h0 m0 hc hm M P f d t 0) (hd : 1 ≤ d) (ht : t < 64) : ∃ hc' hm', fn_Checker_leaveFrame 48 hc = some (0, hc') ∧ fn_Md_control_10 67 11 0 hm = some (0, hm') ∧ ((∃ t', bz_K h0 m0 hc' hm' M P f (d - 1) t' 0 ∧ t' ≤ t + 1) ∨ bz_Iv h0 m0 hc' hm' M P f) := by
  obtain ⟨h1, m1, e1, e2, e3⟩ := bz_endf hM wf k
  have hd10 := k.2.2.2.1.2.2.1
  rw [bz_lvC k e1 hd hd10]
  rcases e3 with ⟨t', k1, htt, hle⟩ | ⟨iv, w1, w2, w3, w4, w5, w6⟩
  · obtain ⟨⟨c1, c2, c3, c4, c5, c6⟩, ⟨p1, p2, p3, p4, p5⟩, u1, u2, u3, u4⟩ := id k1.2.2
    obtain ⟨g1, g2, g3, g4, g5, g6, g7, g8, g9, g10⟩ := u2 d p2 (Int.le_refl _)
    rw [bz_lvM e2 k1.2.1 c4 hd hd10, if_neg (show ¬ ¬ m1 67 57 = 0 from fun z => z c6)]
    by_cases lack : h1 (51 + d) 4 = 1 ∧ h1 (51 + d) 1 ≠ 0
    · rw [if_neg (show ¬ h1 (51 + d) 4 = 0 by omega), if_neg lack.2, if_neg (show ¬ ¬ m1 104 d = 4 from fun z => z (g5.mpr lack.1)), if_neg (show ¬ m1 102 d ≤ 0 by rw [g2]; omega)]
      obtain ⟨hc', hm', b1, b2, b3⟩ := bz_lvbad hM wf (k1.1.up hM wf (o := 48) (i := 6) (v := 1) (by omega)) k1.2.1 (bz_us _ _ _ _) (by rw [bz_ui (by omega)]; exact c3) c4 hd hd10 (by rw [bz_ui (by omega), c1]; omega) (by rw [c2]; omega)
      exact ⟨hc', hm', b1, b2, Or.inr b3⟩
    · have lc : (if h1 (51 + d) 4 = 0 then fn_Checker_leaveFrame_33 48 (51 + d) h1 else if h1 (51 + d) 1 = 0 then fn_Checker_leaveFrame_33 48 (51 + d) h1 else fn_Checker_leaveFrame_33 48 (51 + d) (qz_up h1 48 6 1)) = fn_Checker_leaveFrame_33 48 (51 + d) h1 := by
        by_cases z : h1 (51 + d) 4 = 0
        · rw [if_pos z]
        · rw [if_neg z, if_pos (by omega)]
      have lm : (if ¬ m1 104 d = 4 then fn_Md_control_95 67 d 67 0 m1 else if m1 102 d ≤ 0 then fn_Md_control_95 67 d 67 0 m1 else fn_Md_control_95 67 d 67 1 m1) = fn_Md_control_95 67 d 67 0 m1 := by
        by_cases z : m1 104 d = 4
        · rw [if_neg (fun w => w z), if_pos (by have := g5.mp z; omega)]
        · rw [if_pos z]
      rw [lc, lm, bz_lv33 c3 hd hd10, bz_lv95 (Or.inl rfl) k1.2.1 c4 hd hd10, g2, bz_up_id c6]
      have kk : bz_K h0 m0 (qz_up h1 48 5 (d - 1)) (qz_up m1 67 51 d) M P f (d - 1) t' 0 := ⟨k1.1.up hM wf (by omega), k1.2.1.up (by omega), k1.2.2.pop hd⟩
      by_cases z : h1 (51 + d) 1 = 0
      · rw [z, if_pos (by omega)]
        refine ⟨_, _, ?_, rfl, Or.inl ⟨t', kk, by omega⟩⟩
        unfold fn_Checker_put fn_Checker_put_40
        rw [if_pos rfl, bz_bc]
      · rw [if_neg (by omega)]
        obtain ⟨hc', hm', b1, b2, b3⟩ := bz_put1 hM wf kk (by omega) (show 1 ≤ h1 (51 + d) 1 by omega) (by omega)
        rw [show bz_sv (h1 (51 + d) 1) = h1 (51 + d) 1 from if_neg (by omega)] at b2
        exact ⟨hc', hm', by rw [b1, bz_bc], by rw [b2, bz_bc], Or.inl ⟨t' + 1, b3, by omega⟩⟩
  · obtain ⟨g1, g2, g3, g4, g5, g6, g7, g8, g9, g10⟩ := w4
    rw [bz_lvM e2 iv.2.1 w2 hd hd10, if_pos (show ¬ m1 67 57 = 0 by rw [iv.2.2.2]; omega)]
    have same : qz_up h1 48 6 1 = h1 := bz_up_id iv.2.2.1
    rw [same]
    simp only [ite_self]
    obtain ⟨hc', hm', b1, b2, b3⟩ := bz_lvbad hM wf iv.1 iv.2.1 iv.2.2.1 w1 w2 hd hd10 w5 w6
    exact ⟨hc', hm', b1, b2, Or.inr b3⟩
end CKE
