section CKD
variable {h0 m0 hc hm P : qz_H} {M f d t b : Int}
/-- a frame more, in both -/
theorem bz_RF.frame (r : bz_RF hc hm d t b) (hd : d ≤ 9) {lb rs le cd : Int} (l0 : 0 ≤ lb) (l1 : lb ≤ 2) (r0 : 0 ≤ rs) (r1 : rs ≤ 2) (hle : le = 0 ∨ le = 1) (hcd : cd = 4 ↔ le = 1) :
    bz_RF (qz_up (qz_up (qz_up (qz_up (qz_up (qz_up (qz_up hc 48 5 (d + 1)) (51 + (d + 1)) 0 lb) (51 + (d + 1)) 1 rs) (51 + (d + 1)) 2 t) (51 + (d + 1)) 3 0) (51 + (d + 1)) 4 0) (51 + (d + 1)) 4 le)
      (qz_up (qz_up (qz_up (qz_up (qz_up (qz_up hm 101 (d + 1) lb) 102 (d + 1) rs) 103 (d + 1) t) 104 (d + 1) cd) 105 (d + 1) 0) 67 51 (d + 1 + 1)) (d + 1) t b := by
  obtain ⟨⟨a1, a2, a3, a4, a5, a6⟩, ⟨q1, q2, q3, q4, q5⟩, s1, s2, s3, s4⟩ := r
  refine ⟨⟨?_, ?_, ?_, ?_, ?_, ?_⟩, ⟨q1, by omega, by omega, q4, q5⟩, fun k k0 k1 => ?_, fun j j0 j1 => ?_, fun j j0 j1 => ?_, ?_⟩
  · simp (disch := omega) only [bz_uo, bz_ui]; exact a1
  · simp (disch := omega) only [bz_uo, bz_ui]; exact a2
  · simp (disch := omega) only [bz_uo, bz_us]
  · rw [bz_us]
  · simp (disch := omega) only [bz_uo, bz_ui]; exact a5
  · simp (disch := omega) only [bz_uo, bz_ui]; exact a6
  · simp (disch := omega) only [bz_uo]; exact s1 k k0 k1
  · unfold bz_fm1
    by_cases q : j = d + 1
    · subst q
      simp (disch := omega) only [bz_uo, bz_ui, bz_us]
      exact ⟨trivial, trivial, trivial, trivial, hcd, hle, ⟨l0, l1⟩, ⟨r0, r1⟩, q4, Or.inl trivial⟩
    · simp (disch := omega) only [bz_uo, bz_ui]
      exact s2 j j0 (by omega)
  · by_cases q : j = d
    · subst q
      simp (disch := omega) only [bz_uo, bz_ui, bz_us]
      exact s4
    · simp (disch := omega) only [bz_uo]
      exact s3 j j0 (by omega)
  · simp (disch := omega) only [bz_ui, bz_us]
    exact Int.le_refl _
theorem bz_bgn (hM : M = 6 ∨ M = 18) (wf : bz_wf P) (k : bz_K h0 m0 hc hm M P f d t b) (hd : d ≤ 9) {x rs cd : Int} (r0 : 0 ≤ rs) (r1 : rs ≤ 2) (hx : x = -3 ∧ cd = 2 ∨ x = -4 ∧ cd = 3 ∨ x = -5 ∧ cd = 4) : ∃ hc' hm', fn_Checker_beginFrame_13 48 x rs hc = some (0, hc') ∧ fn_Md_control_10 67 cd rs hm = some (0, hm') ∧ bz_K h0 m0 hc' hm' M P f (d + 1) t b := by
  obtain ⟨xk, xl, r⟩ := k
  obtain ⟨⟨a1, a2, a3, a4, a5, a6⟩, ⟨q1, q2, q3, q4, q5⟩, s1, s2, s3, s4⟩ := id r
  have xk1 : bz_XK h0 (qz_up hc 48 5 (d + 1)) M P f := xk.up hM wf (by omega)
  have e45 : qz_up hc 48 5 (d + 1) 48 4 = t := by rw [bz_ui (by omega)]; exact a1
  have go : ∀ (lb le : Int), 0 ≤ lb → lb ≤ 2 → (le = 0 ∨ le = 1) → (cd = 4 ↔ le = 1) → (x = -4 → lb = 0) → (x ≠ -4 → lb = rs) → (x = -5 → le = 1) → (x ≠ -5 → le = 0) → ∃ hc' hm', fn_Checker_beginFrame_13 48 x rs hc = some (0, hc') ∧ fn_Md_control_10 67 cd rs hm = some (0, hm') ∧ bz_K h0 m0 hc' hm' M P f (d + 1) t b := by
    intro lb le l0 l1 hle hcd hl1 hl2 hle1 hle2
    have xk2 : ∀ v : Int, bz_XK h0 (qz_up (qz_up (qz_up (qz_up (qz_up (qz_up (qz_up hc 48 5 (d + 1)) (51 + (d + 1)) 0 lb) (51 + (d + 1)) 1 rs) (51 + (d + 1)) 2 t) (51 + (d + 1)) 3 0) (51 + (d + 1)) 4 0) (51 + (d + 1)) 4 v) M P f := fun v => ((((((xk1.up hM wf (by omega)).up hM wf (by omega)).up hM wf (by omega)).up hM wf (by omega)).up hM wf (by omega)).up hM wf (by omega))
    have xk3 : bz_XK h0 (qz_up (qz_up (qz_up (qz_up (qz_up (qz_up hc 48 5 (d + 1)) (51 + (d + 1)) 0 lb) (51 + (d + 1)) 1 rs) (51 + (d + 1)) 2 t) (51 + (d + 1)) 3 0) (51 + (d + 1)) 4 0) M P f := (((((xk1.up hM wf (by omega)).up hM wf (by omega)).up hM wf (by omega)).up hM wf (by omega)).up hM wf (by omega))
    have y1 : bz_XL m0 (qz_up hm 101 (d + 1) lb) P := xl.up (by omega)
    have y2 : bz_XL m0 (qz_up (qz_up hm 101 (d + 1) lb) 102 (d + 1) rs) P := y1.up (by omega)
    have y3 : bz_XL m0 (qz_up (qz_up (qz_up hm 101 (d + 1) lb) 102 (d + 1) rs) 103 (d + 1) t) P := y2.up (by omega)
    have y4 : bz_XL m0 (qz_up (qz_up (qz_up (qz_up hm 101 (d + 1) lb) 102 (d + 1) rs) 103 (d + 1) t) 104 (d + 1) cd) P := y3.up (by omega)
    have y5 : bz_XL m0 (qz_up (qz_up (qz_up (qz_up (qz_up hm 101 (d + 1) lb) 102 (d + 1) rs) 103 (d + 1) t) 104 (d + 1) cd) 105 (d + 1) 0) P := y4.up (by omega)
    refine ⟨_, _, ?_, ?_, xk2 le, y5.up (o := 67) (i := 51) (v := d + 1 + 1) (by omega), r.frame hd l0 l1 r0 r1 hle hcd⟩
    · have fb : ∀ h : qz_H, fn_Frame_begin (51 + (d + 1)) lb rs t h = some (0, qz_up (qz_up (qz_up (qz_up (qz_up h (51 + (d + 1)) 0 lb) (51 + (d + 1)) 1 rs) (51 + (d + 1)) 2 t) (51 + (d + 1)) 3 0) (51 + (d + 1)) 4 0) := by
        intro h
        unfold fn_Frame_begin
        dsimp only [qz_bn]
        rw [bz_ck (by omega), bz_ck (by omega), bz_ck (by omega), bz_ck (by omega), bz_ck (by omega), bz_ck (by omega), bz_ck (by omega)]
      unfold fn_Checker_beginFrame_13 fn_Checker_beginFrame_61 fn_Checker_beginFrame_90
      dsimp only [qz_bn]
      have e1 : (if ¬ x = -4 then rs else 0) = lb := by
        by_cases z : x = -4
        · rw [if_neg (fun w => w z), hl1 z]
        · rw [if_pos z, hl2 z]
      have e2 : (if ¬ x = -5 then (0 : Int) else 1) = le := by
        by_cases z : x = -5
        · rw [if_neg (fun w => w z), hle1 z]
        · rw [if_pos z, hle2 z]
      have e7 : qz_up (qz_up (qz_up (qz_up (qz_up (qz_up hc 48 5 (d + 1)) (51 + (d + 1)) 0 lb) (51 + (d + 1)) 1 rs) (51 + (d + 1)) 2 t) (51 + (d + 1)) 3 0) (51 + (d + 1)) 4 0 48 5 = d + 1 := by
        simp (disch := omega) only [bz_uo, bz_us]
      rw [a3, bz_w (show -2147483648 ≤ d + 1 by omega) (by omega), if_pos (by omega), bz_ck (by omega), bz_c48_1 xk1.1, bz_c50_m1 xk1.1, bz_us, bz_ck (by omega), bz_ck (by omega), bz_frm xk1.1 (show 0 ≤ d + 1 by omega) (by omega), e45, bz_ck (show 51 + (d + 1) ≠ 0 by omega)]
      have tail : (qz_bc (fn_Frame_begin (51 + (d + 1)) lb rs t (qz_up hc 48 5 (d + 1))) fun _ h2 => qz_ck (h2 48 1 ≠ 0) (qz_ck (0 ≤ h2 48 5 ∧ h2 48 5 < h2 (h2 48 1) (-1)) (if ¬ x = -5 then qz_ck (h2 (h2 48 1) (h2 48 5) ≠ 0) (qz_ck ((0 : Int) = 0 ∨ (0 : Int) = 1) (qz_ck (0 < h2 (h2 48 1) (h2 48 5)) (some (0, qz_up h2 (h2 (h2 48 1) (h2 48 5)) 4 0)))) else qz_ck (h2 (h2 48 1) (h2 48 5) ≠ 0) (qz_ck ((1 : Int) = 0 ∨ (1 : Int) = 1) (qz_ck (0 < h2 (h2 48 1) (h2 48 5)) (some (0, qz_up h2 (h2 (h2 48 1) (h2 48 5)) 4 1))))))) = some (0, qz_up (qz_up (qz_up (qz_up (qz_up (qz_up (qz_up hc 48 5 (d + 1)) (51 + (d + 1)) 0 lb) (51 + (d + 1)) 1 rs) (51 + (d + 1)) 2 t) (51 + (d + 1)) 3 0) (51 + (d + 1)) 4 0) (51 + (d + 1)) 4 le) := by
        rw [fb, bz_bc, bz_c48_1 xk3.1, bz_c50_m1 xk3.1, e7, bz_frm xk3.1 (show 0 ≤ d + 1 by omega) (by omega), bz_ck (show (50 : Int) ≠ 0 by omega), bz_ck (show 0 ≤ d + 1 ∧ d + 1 < 12 by omega)]
        by_cases z5 : x = -5
        · rw [if_neg (fun w => w z5), hle1 z5, bz_ck (by omega), bz_ck (by omega), bz_ck (by omega)]
        · rw [if_pos z5, hle2 z5, bz_ck (by omega), bz_ck (by omega), bz_ck (by omega)]
      by_cases z : x = -4
      · rw [if_neg (fun w => w z), bz_ck (show 51 + (d + 1) ≠ 0 by omega)]
        rw [hl1 z] at tail ⊢
        exact tail
      · rw [if_pos z]
        rw [hl2 z] at tail ⊢
        exact tail
    · have fr : fn_Md_frame 67 cd lb rs hm = some (0, qz_up (qz_up (qz_up (qz_up (qz_up (qz_up hm 101 (d + 1) lb) 102 (d + 1) rs) 103 (d + 1) t) 104 (d + 1) cd) 105 (d + 1) 0) 67 51 (d + 1 + 1)) := by
        unfold fn_Md_frame
        dsimp only [qz_bn]
        rw [show qz_nz 0 = 0 from by decide +kernel, bz_m67_52 xl.1, bz_m101_m1 xl.1, a4, bz_ck (by omega), bz_ck (by omega)]
        rw [bz_m67_53 y1.1, bz_m102_m1 y1.1, show qz_up hm 101 (d + 1) lb 67 51 = d + 1 from by rw [bz_uo (by omega)]; exact a4, bz_ck (by omega), bz_ck (by omega)]
        rw [bz_m67_54 y2.1, bz_m103_m1 y2.1, show qz_up (qz_up hm 101 (d + 1) lb) 102 (d + 1) rs 67 51 = d + 1 from by rw [bz_uo (by omega), bz_uo (by omega)]; exact a4, show qz_up (qz_up hm 101 (d + 1) lb) 102 (d + 1) rs 67 49 = t from by rw [bz_uo (by omega), bz_uo (by omega)]; exact a2, bz_ck (by omega), bz_ck (by omega)]
        rw [bz_m67_55 y3.1, bz_m104_m1 y3.1, show qz_up (qz_up (qz_up hm 101 (d + 1) lb) 102 (d + 1) rs) 103 (d + 1) t 67 51 = d + 1 from by rw [bz_uo (by omega), bz_uo (by omega), bz_uo (by omega)]; exact a4, bz_ck (by omega), bz_ck (by omega)]
        rw [bz_m67_56 y4.1, bz_m105_m1 y4.1, show qz_up (qz_up (qz_up (qz_up hm 101 (d + 1) lb) 102 (d + 1) rs) 103 (d + 1) t) 104 (d + 1) cd 67 51 = d + 1 from by rw [bz_uo (by omega), bz_uo (by omega), bz_uo (by omega), bz_uo (by omega)]; exact a4, bz_ck (by omega), bz_ck (by omega)]
        rw [show qz_up (qz_up (qz_up (qz_up (qz_up hm 101 (d + 1) lb) 102 (d + 1) rs) 103 (d + 1) t) 104 (d + 1) cd) 105 (d + 1) 0 67 51 = d + 1 from by rw [bz_uo (by omega), bz_uo (by omega), bz_uo (by omega), bz_uo (by omega), bz_uo (by omega)]; exact a4, bz_ck (by omega), bz_w (by omega) (by omega)]
      unfold fn_Md_control_10 fn_Md_control_27
      rw [if_neg (by omega)]
      by_cases z : cd = 3
      · rw [if_neg (fun w => w z)]
        have : lb = 0 := hl1 (by omega)
        subst this
        rw [fr, bz_bc]
      · rw [if_pos z]
        have : lb = rs := hl2 (by omega)
        rw [this] at fr
        rw [fr, bz_bc, this]
  rcases hx with ⟨x1, x2⟩ | ⟨x1, x2⟩ | ⟨x1, x2⟩
  · exact go rs 0 r0 r1 (Or.inl rfl) (by omega) (by omega) (fun _ => rfl) (by omega) (fun _ => rfl)
  · exact go 0 0 (by omega) (by omega) (Or.inl rfl) (by omega) (fun _ => rfl) (by omega) (by omega) (fun _ => rfl)
  · exact go rs 1 r0 r1 (Or.inr rfl) (by omega) (by omega) (fun _ => rfl) (fun _ => rfl) (by omega)
end CKD
