/-! Both readers begin. -/
section SC
variable {t : Int → Int} {N T M : Int} {hc0 hm0 hc hm hc' hm' : qz_H}
theorem cz_first (e1 : cz_en t N T M hc0 hm0 hc hm) (c3 : hc 34 3 = 0) (d32 : hm 67 32 = 0) (d5 : hc 30 5 = 0) : ∃ hc2 hm2 kd' s' L', fn_Reader_read_48 qz_NF 30 0 hc = cz_go 0 hc2 ∧ fn_Md_next 67 hm = some (0, hm2) ∧ cz_S t N T M hc0 hm0 0 hc2 hm2 kd' s' L' ∧ cz_Fc hc hc2 ∧ cz_fm hm hm2 := by
  have wN := e1.w.2.1
  have w0 := e1.w.1
  obtain ⟨hc', hm', kd', s', L', n1, n2, n3, n4, n5, n6, n7, n8⟩ := cz_next e1.w e1.tc e1.tm (e := 0) (by omega) (by omega) c3 d32
  have c30 := bz_c30_0 e1.tc.1
  have t1 := n3.tc e1.tc
  have F : cz_Fc hc (qz_up hc' 30 9 s') := by
    intro o i h1 h2
    rw [cz_un h2]
    exact n3 o i h1
  refine ⟨qz_up hc' 30 9 s', hm', kd', s', L', ?_, n2, ⟨⟨F.tc e1.tc, n4.tm e1.tm, ?_, ?_, ?_, ?_, e1.hM, e1.w⟩, ?_, ?_, by omega, n7, n8⟩, F, n4⟩
  · unfold cz_go
    rw [show qz_NF = 3999 + 1 by rfl]
    show fn_Reader_read_48_b (fn_Reader_read_48 3999) 30 0 hc = _
    unfold fn_Reader_read_48_b
    have q0 : hc' 30 0 = 34 := bz_c30_0 t1.1
    have q2 : hc' 34 2 = s' := n5.2.1
    have q5 : hc' 30 5 = hc 30 5 := n3 _ _ (by omega)
    have q1 : (qz_up hc' 30 9 s') 30 1 = 31 := bz_c30_1 (F.tc e1.tc).1
    have q3 : (qz_up hc' 30 9 s') 31 (-1) = 13 := bz_c31_m1 (F.tc e1.tc).1
    rw [if_neg (by omega), c30, bz_ck (by omega), n1, bz_bc, q0, bz_ck (by omega), bz_ck (by omega), q2, bz_bn, q1, bz_ck (by omega), q3, show (qz_up hc' 30 9 s') 30 5 = hc 30 5 by rw [bz_ui (by omega)]; exact q5, bz_ck (by omega)]
    rfl
  · rw [bz_ui (by omega), n3 _ _ (by omega)]; exact e1.m4
  · rw [n4 _ _ (by omega)]; exact e1.w0
  · intro o i h1 h2
    rw [F o i (by omega) (by omega)]; exact e1.cr o i h1 h2
  · exact ⟨fun o i h1 h2 => by rw [n4 _ _ (by omega)]; exact e1.mr.1 o i h1 h2, fun i h => by rw [n4 _ _ (by omega)]; exact e1.mr.2 i h⟩
  · obtain ⟨k1, k2, k3, k4, k5, k6, k7⟩ := n5
    refine ⟨by rw [bz_uo (by omega)]; exact k1, by rw [bz_uo (by omega)]; exact k2, k3, k4, k5, k6, ?_⟩
    rw [bz_uo (by omega), bz_uo (by omega)]
    exact k7
  · rw [bz_us]
/-- from the first token to the module's words -/
theorem cz_runs {kd s : Int} {L : Nat} (S : cz_S t N T M hc0 hm0 0 hc hm kd s L) (h5 : hc 30 5 = 0) (h6 : hc 30 6 = 0) (h7 : hc 30 7 = -2) (k0 : hc 35 0 = 0) (p0 : hc 35 1 = 0) (m3 : hc M 3 = 0) (m4 : hc M 4 = 0) (m15 : hm 67 15 = 0) (m23 : hm 67 23 = 0) (m28 : hm 67 28 = 0) {D : Option qz_R} (hD : D = qz_bc (fn_Md_pass 67 1 hm) fun r8 h9 => if r8 = 0 then fn_Md_readModule_49 h9 else qz_bc (fn_Md_passWord 67 120325194214501 6 h9) fun r10 h11 => if ¬ r10 = 0 then fn_Md_readModule_51 qz_NF 67 h11 else fn_Md_readModule_49 h11) : cz_bad M hc0 hm0 (cz_go 0 hc) D ∨ ∃ hc' hm', cz_go 0 hc = fn_Reader_findFunctions 30 hc' ∧ D = some (1, hm') ∧ cz_fi t N T M hc0 hm0 hc' hm' := by
  have e := S.en
  have hM := e.hM
  have wN := e.w.2.1
  have t33 := S.tk.2.2.2.1
  have kd0 := S.k0
  have kd4 := S.k4
  have P1 : fn_Md_pass 67 1 hm = if kd = 0 then qz_bc (fn_Md_next 67 hm) fun _ h => some (1, h) else some (0, qz_up hm 67 38 1) := by
    unfold fn_Md_pass
    rw [cz_fail e.w0, bz_bc, bz_ck (show (0 : Int) = 0 ∨ (0 : Int) = 1 by omega)]
    by_cases h : kd = 0
    · rw [if_pos h, if_pos (by rw [t33, if_neg (by omega)]; omega)]
      cases fn_Md_next 67 hm with
      | none => rfl
      | some p => rfl
    · rw [if_neg h, if_neg (by rw [t33]; split <;> omega)]
  have IT : fn_Reader_inText 30 35 hc = if kd = 0 then some (0, cz_lv (qz_up hc 35 1 3) 0 1) else some (1, hc) := by
    have e1 : cz_en t N T M hc0 hm0 (qz_up hc 35 1 3) hm := e.uc (by omega)
    unfold fn_Reader_inText fn_Reader_inText_27 fn_Reader_inText_50 fn_Reader_inText_51
    rw [bz_ck (by omega), if_neg (show ¬ ¬ hc 35 1 = 0 by omega), bz_c30_0 e.tc.1, bz_ck (by omega), S.tk.1, bz_ck (by omega)]
    by_cases h : kd = 0
    · rw [if_neg (show ¬ ¬ kd = 0 by omega), if_pos h, bz_ck (by omega), bz_bn, cz_bb, cz_openC e1 (x := 0) (by rw [cz_un (by omega)]; exact h5) (by omega) (by omega), if_pos (by omega)]
      exact bz_ck (by omega)
    · rw [if_pos h, if_neg h, bz_ck (by omega), if_pos (show ¬ hc 35 1 = 3 by omega)]
  rw [hD, cz_goT e h5 h6 k0, IT, P1]
  by_cases h0 : kd = 0
  · rw [if_pos h0, if_pos h0]
    have e1 : cz_en t N T M hc0 hm0 (cz_lv (qz_up hc 35 1 3) 0 1) hm := (e.uc (show cz_oc M 35 1 by omega)).fC (fun o i h => cz_lv_un (by omega) (by omega))
    have l_ : ∀ o i : Int, ¬ (o = 30 ∧ i = 5) → o ≠ 36 → ¬ (o = 35 ∧ i = 1) → cz_lv (qz_up hc 35 1 3) 0 1 o i = hc o i := fun o i x1 x2 x3 => by
      rw [cz_lv_un x1 (by omega), cz_un x3]
    have l35 : cz_lv (qz_up hc 35 1 3) 0 1 35 1 = 3 := by rw [cz_lv_un (by omega) (by omega), bz_us]
    have l5 : cz_lv (qz_up hc 35 1 3) 0 1 30 5 = 1 := by rw [cz_lv_5 (by omega)]; omega
    have l36 := (cz_lv_k (hc := qz_up hc 35 1 3) (x := 0) (k := 1)).1
    rw [show (36 : Int) + 0 = 36 by omega] at l36
    obtain ⟨hc2, hm2, kd2, s2, L2, n1, n2, S2, ss, Fc, Fm⟩ := cz_adv S (by omega) e1 (l_ _ _ (by omega) (by omega) (by omega)) (l_ _ _ (by omega) (by omega) (by omega)) rfl (by omega) (by omega)
    rw [n1, n2, bz_bc, bz_bc, if_neg (show ¬ (1 : Int) = 0 by omega)]
    have e2 := S2.en
    have F2 : ∀ o i : Int, o ≠ 34 → ¬ (o = 30 ∧ i = 9) → hc2 o i = cz_lv (qz_up hc 35 1 3) 0 1 o i := fun o i x1 x2 => Fc o i (by omega) x2
    have b5 : hc2 30 5 = 1 := by rw [F2 _ _ (by omega) (by omega)]; exact l5
    have b6 : hc2 30 6 = 0 := by rw [F2 _ _ (by omega) (by omega), l_ _ _ (by omega) (by omega) (by omega)]; exact h6
    have b36 : hc2 36 0 = 1 := by rw [F2 _ _ (by omega) (by omega)]; exact l36
    have b350 : hc2 35 0 = 0 := by rw [F2 _ _ (by omega) (by omega), l_ _ _ (by omega) (by omega) (by omega)]; exact k0
    have e3 : cz_en t N T M hc0 hm0 (qz_up hc2 36 0 2) hm2 := e2.uc (by omega)
    have t3 : cz_tk t N (qz_up hc2 36 0 2) hm2 kd2 s2 L2 := S2.tk.fC (fun i _ _ => cz_un (by omega))
    have C2 : cz_go (0 + 1) hc2 = cz_rest (0 + 1) (if cz_kb t kd2 s2 L2 0 = 0 then some (1, qz_up hc2 36 0 2) else some (0, qz_up hc2 36 0 2)) := by
      unfold cz_go
      rw [b5, bz_lev e2.tc.1 (by omega) (by omega), show (35 : Int) + 1 = 36 by omega]
      have mx : qz_max 0 (1 - 1) = 0 := by decide +kernel
      unfold fn_Reader_judge
      rw [if_pos b6, bz_ck (by omega), b36]
      simp only [qz_swt]
      rw [if_neg (by omega), if_pos trivial, cz_bb]
      unfold fn_Reader_behindOpening fn_Reader_behindOpening_78
      rw [bz_c30_1 e2.tc.1, bz_ck (by omega), bz_c31_m1 e2.tc.1, b5, bz_w (by omega) (by omega), mx, bz_ck (by omega), bz_lev e2.tc.1 (by omega) (by omega), show (35 : Int) + 0 = 35 by omega, bz_bn, bz_ck (by omega)]
      simp only [qz_swt]
      rw [if_pos b350, bz_ck (by omega), bz_ck (by omega), bz_bn, bz_c30_0 e3.tc.1, bz_ck (by omega), (e3.is3C t3).1, bz_bc]
    unfold fn_Md_passWord
    rw [C2, (e2.is3 S2.tk).1, bz_bc]
    rcases cz_kb01 (t := t) kd2 s2 L2 0 with h1 | h1
    · left
      unfold fn_Md_readModule_49
      rw [h1, if_pos (show (0 : Int) = 0 from rfl), if_neg (show ¬ ¬ (0 : Int) = 0 by omega), cz_fail e2.w0, bz_bc, bz_ck (by omega), bz_bc, if_neg (show ¬ ¬ (0 : Int) = 0 by omega), bz_ck (by omega)]
      exact cz_badI e3 (Or.inl rfl) (by rw [cz_un (by omega)]; exact S2.sm)
    · have kd22 := cz_kb2 h1
      rw [h1, if_neg (show ¬ (1 : Int) = 0 by omega), if_pos (show ¬ (1 : Int) = 0 by omega)]
      obtain ⟨hc3, hm3, kd3, s3, L3, n3, n4, S3, ss3, Fc3, Fm3⟩ := cz_adv S2 (by omega) e3 (cz_un (by omega)) (cz_un (by omega)) rfl (by rw [cz_un (by omega)]; omega) (by rw [cz_un (by omega)]; omega)
      rw [n3, n4, bz_bc, bz_ck (by omega), bz_bc, if_pos (show ¬ (1 : Int) = 0 by omega)]
      have F3 : ∀ o i : Int, o ≠ 34 → ¬ (o = 30 ∧ (i = 5 ∨ i = 9)) → o ≠ 36 → ¬ (o = 35 ∧ i = 1) → hc3 o i = hc o i := by
        intro o i x1 x2 x3 x4
        rw [Fc3 o i (by omega) (by omega), cz_un (by omega), F2 o i x1 (by omega)]
        exact l_ o i (by omega) x3 x4
      have fm3 : ∀ o i : Int, ¬ (o = 67 ∧ 32 ≤ i ∧ i ≤ 37) → hm3 o i = hm o i := by
        intro o i x1
        rw [Fm3 o i x1]; exact Fm o i x1
      refine cz_modl (c := 0) qz_NF ⟨0, 0, S3, ⟨?_, ?_, by omega, by omega, ?_, ?_, by omega, by omega, fun f f0 f1 => by omega⟩, ⟨fun f f0 f1 => by omega, fun f g f0 fg gc => by omega⟩, ⟨?_, by omega, fun k k0 k1 => by omega, fun j j0 j1 => by omega⟩, ⟨fun f f0 f1 => by omega, fun h => by omega⟩, fun j j0 j1 => by omega, by omega, ?_, ?_, ?_, ?_, ?_, ?_⟩ (by have : (qz_NF : Int) = 4000 := rfl; have := S3.tk.2.2.2.2.1; omega)
      · rw [F3 _ _ (by omega) (by omega) (by omega) (by omega)]; exact m3
      · rw [fm3 _ _ (by omega)]; exact m15
      · rw [F3 _ _ (by omega) (by omega) (by omega) (by omega)]; exact m4
      · rw [fm3 _ _ (by omega)]; exact m23
      · rw [fm3 _ _ (by omega)]; exact m28
      · rw [Fc3 _ _ (by omega) (by omega), bz_us]
      · rw [F3 _ _ (by omega) (by omega) (by omega) (by omega)]; exact k0
      · rw [Fc3 _ _ (by omega) (by omega), cz_un (by omega), F2 _ _ (by omega) (by omega)]; exact l35
      · rw [Fc3 _ _ (by omega) (by omega), cz_un (by omega)]; exact b5
      · rw [F3 _ _ (by omega) (by omega) (by omega) (by omega)]; exact h6
      · rw [F3 _ _ (by omega) (by omega) (by omega) (by omega)]; exact h7
  · left
    unfold fn_Md_readModule_49
    rw [if_neg h0, if_neg h0, bz_bc, if_pos rfl, bz_ck (by omega)]
    exact cz_badI e (Or.inl rfl) S.sm
def cz_X0 (hc : qz_H) (T M : Int) : qz_H := qz_up (qz_up (qz_up (qz_up (qz_up (qz_up (qz_up (qz_up (qz_up (qz_up (qz_up (qz_up (qz_up (qz_up (qz_up hc 34 0 T) 34 1 3) 34 2 0) 34 3 0) 30 4 M) M 3 0) M 4 0) 30 5 0) 35 0 0) 35 1 0) 35 2 (-1)) 35 3 (-2)) 35 4 0) 30 6 0) 30 7 (-2)
theorem cz_read0 (hL : bz_LC hc) (hM : M = 6 ∨ M = 18) : fn_Reader_read 30 T M hc = fn_Reader_read_48 qz_NF 30 0 (cz_X0 hc T M) := by
  have c0 := bz_c30_0 hL
  have c1 := bz_c30_1 hL
  have c2 := bz_c31_m1 hL
  have c3 := bz_lev hL (d := 0) (by omega) (by omega)
  unfold fn_Reader_read fn_Scanner_begin fn_Module_clear fn_Level_begin cz_X0
  simp (disch := omega) only [bz_ck, bz_bn, bz_bc, cz_un, bz_us, c0, c1, c2, c3, true_or, cz_ckT]
  rfl
end SC
/-- the two readers agree -/
theorem cz_Rd : bz_Rd := by
  intro hc hm T M hT hM hL hLM hR
  obtain ⟨N0, N1, R3, R4⟩ := hR
  have X_ : ∀ o i : Int, ¬ (o = 34 ∧ 0 ≤ i ∧ i ≤ 3) → ¬ (o = 30 ∧ 4 ≤ i ∧ i ≤ 7) → ¬ (o = M ∧ (i = 3 ∨ i = 4)) → ¬ (o = 35 ∧ 0 ≤ i ∧ i ≤ 4) → cz_X0 hc T M o i = hc o i := by
    intro o i x1 x2 x3 x4
    unfold cz_X0
    simp (disch := omega) only [cz_un]
  have xa : cz_X0 hc T M 34 0 = T ∧ cz_X0 hc T M 34 3 = 0 ∧ cz_X0 hc T M 30 4 = M ∧ cz_X0 hc T M M 3 = 0 ∧ cz_X0 hc T M M 4 = 0 ∧ cz_X0 hc T M 30 5 = 0 ∧ cz_X0 hc T M 35 0 = 0 ∧ cz_X0 hc T M 35 1 = 0 ∧ cz_X0 hc T M 30 6 = 0 ∧ cz_X0 hc T M 30 7 = -2 := by
    unfold cz_X0
    refine ⟨?_, ?_, ?_, ?_, ?_, ?_, ?_, ?_, ?_, ?_⟩ <;> simp (disch := omega) only [cz_un, bz_us]
  obtain ⟨x340, x343, x304, xm3, xm4, x305, x350, x351, x306, x307⟩ := xa
  have LX : bz_LC (cz_X0 hc T M) := by
    refine ⟨fun q hq => ?_, fun x j x1 x2 x3 x4 => by rw [X_ _ _ (by omega) (by omega) (by omega) (by omega)]; exact hL.2 x j x1 x2 x3 x4⟩
    have z6 : ∀ q ∈ bz_TC, ¬ (q.1 = 34 ∧ 0 ≤ q.2.1 ∧ q.2.1 ≤ 3) ∧ ¬ (q.1 = 30 ∧ 4 ≤ q.2.1 ∧ q.2.1 ≤ 7) ∧ ¬ (q.1 = 6 ∧ (q.2.1 = 3 ∨ q.2.1 = 4)) ∧ ¬ (q.1 = 35 ∧ 0 ≤ q.2.1 ∧ q.2.1 ≤ 4) := by decide +kernel
    have z18 : ∀ q ∈ bz_TC, ¬ (q.1 = 18 ∧ (q.2.1 = 3 ∨ q.2.1 = 4)) := by decide +kernel
    obtain ⟨w1, w2, w3, w4⟩ := z6 q hq
    rw [X_ _ _ w1 w2 (by
      rcases hM with rfl | rfl
      · exact w3
      · exact z18 q hq) w4]
    exact hL.1 q hq
  -- the model's beginning
  have Y0 : fn_Md_readModule 67 hm = qz_bc (fn_Md_next 67 (qz_up (qz_up (qz_up (qz_up (qz_up hm 67 32 0) 67 38 0) 67 23 0) 67 28 0) 67 15 0)) fun _ h7 => qz_bc (fn_Md_pass 67 1 h7) fun r8 h9 => if r8 = 0 then fn_Md_readModule_49 h9 else qz_bc (fn_Md_passWord 67 120325194214501 6 h9) fun r10 h11 => if ¬ r10 = 0 then fn_Md_readModule_51 qz_NF 67 h11 else fn_Md_readModule_49 h11 := by
    unfold fn_Md_readModule
    rw [bz_ck (by omega), bz_bn, bz_ck (by omega), bz_bn, bz_ck (by omega), bz_bn, bz_ck (by omega), bz_bn, bz_ck (by omega), bz_bn]
  have y_ : ∀ o i : Int, ¬ (o = 67 ∧ (i = 32 ∨ i = 38 ∨ i = 23 ∨ i = 28 ∨ i = 15)) → (qz_up (qz_up (qz_up (qz_up (qz_up hm 67 32 0) 67 38 0) 67 23 0) 67 28 0) 67 15 0) o i = hm o i := by
    intro o i x1
    simp (disch := omega) only [cz_un]
  have ya : (qz_up (qz_up (qz_up (qz_up (qz_up hm 67 32 0) 67 38 0) 67 23 0) 67 28 0) 67 15 0) 67 32 = 0 ∧ (qz_up (qz_up (qz_up (qz_up (qz_up hm 67 32 0) 67 38 0) 67 23 0) 67 28 0) 67 15 0) 67 38 = 0 ∧ (qz_up (qz_up (qz_up (qz_up (qz_up hm 67 32 0) 67 38 0) 67 23 0) 67 28 0) 67 15 0) 67 23 = 0 ∧ (qz_up (qz_up (qz_up (qz_up (qz_up hm 67 32 0) 67 38 0) 67 23 0) 67 28 0) 67 15 0) 67 28 = 0 ∧ (qz_up (qz_up (qz_up (qz_up (qz_up hm 67 32 0) 67 38 0) 67 23 0) 67 28 0) 67 15 0) 67 15 = 0 := by
    refine ⟨?_, ?_, ?_, ?_, ?_⟩ <;> simp (disch := omega) only [cz_un, bz_us]
  generalize qz_up (qz_up (qz_up (qz_up (qz_up hm 67 32 0) 67 38 0) 67 23 0) 67 28 0) 67 15 0 = Y at Y0 y_ ya
  obtain ⟨y32, y38, y23, y28, y15⟩ := ya
  have tt : cz_tt (bz_at hc T) (hc T 1) := by
    refine ⟨N0, N1, fun k k0 k1 => ?_, fun k hk => ?_⟩
    · unfold bz_at
      rw [if_pos ⟨k0, k1⟩]
      exact (R4 k k0 k1).2
    · unfold bz_at
      rw [if_neg hk]
  have e : cz_en (bz_at hc T) (hc T 1) T M hc hm (cz_X0 hc T M) Y := by
    refine ⟨⟨LX, x340, hT, X_ _ _ (by omega) (by omega) (by omega) (by omega), fun k k0 k1 => ?_⟩, ⟨fun q hq => ?_, ?_, fun k k0 k1 => ?_⟩, x304, y38, fun o i h1 h2 => X_ o i (by omega) (by omega) (by omega) (by omega), ⟨fun o i h1 h2 => y_ o i (by omega), fun i hi => y_ 67 i (by omega)⟩, hM, tt⟩
    · rw [X_ _ _ (by omega) (by omega) (by omega) (by omega)]
      unfold bz_at
      rw [if_pos ⟨k0, k1⟩]
    · have z : ∀ q ∈ bz_TM, ¬ (q.1 = 67 ∧ (q.2.1 = 32 ∨ q.2.1 = 38 ∨ q.2.1 = 23 ∨ q.2.1 = 28 ∨ q.2.1 = 15)) := by decide +kernel
      rw [y_ _ _ (z q hq)]; exact hLM q hq
    · rw [y_ _ _ (by omega)]; exact R3
    · rw [y_ _ _ (by omega)]
      unfold bz_at
      rw [if_pos ⟨k0, k1⟩]
      exact (R4 k k0 k1).1
  obtain ⟨hc2, hm2, kd, s, L, n1, n2, S, Fc, Fm⟩ := cz_first e x343 y32 x305
  have RC : fn_Reader_read 30 T M hc = cz_go 0 hc2 := by rw [cz_read0 hL hM]; exact n1
  have RM : fn_Md_readModule 67 hm = qz_bc (fn_Md_pass 67 1 hm2) fun r8 h9 => if r8 = 0 then fn_Md_readModule_49 h9 else qz_bc (fn_Md_passWord 67 120325194214501 6 h9) fun r10 h11 => if ¬ r10 = 0 then fn_Md_readModule_51 qz_NF 67 h11 else fn_Md_readModule_49 h11 := by rw [Y0, n2, bz_bc]
  have C30 : ∀ i : Int, i ≠ 9 → hc2 30 i = cz_X0 hc T M 30 i := fun i h => Fc _ _ (by omega) (by omega)
  rcases cz_runs S (by rw [C30 _ (by omega)]; exact x305) (by rw [C30 _ (by omega)]; exact x306) (by rw [C30 _ (by omega)]; exact x307) (by rw [Fc _ _ (by omega) (by omega)]; exact x350) (by rw [Fc _ _ (by omega) (by omega)]; exact x351) (by rw [Fc _ _ (by omega) (by omega)]; exact xm3) (by rw [Fc _ _ (by omega) (by omega)]; exact xm4) (by rw [Fm _ _ (by omega)]; exact y15) (by rw [Fm _ _ (by omega)]; exact y23) (by rw [Fm _ _ (by omega)]; exact y28) RM with ⟨w, hc', hm', r1, r2, r3, r4, r5, r6, r7, r8, r9⟩ | ⟨hc3, hm3, r1, r2, fi⟩
  · right
    exact ⟨w, hc', hm', by rw [RC]; exact r1, r2, Or.inl r3, r4, r5, r6, r7, r8, r9⟩
  · rcases cz_done fi with ⟨P, hc', hm', q1, q2, q3⟩ | ⟨hc', hm', q1, q2, q3, q4, q5, q6, q7, q8⟩
    · left
      exact ⟨P, hc', hm3, hm', by rw [RC, r1]; exact q1, r2, q2, q3⟩
    · right
      exact ⟨1, hc', hm', by rw [RC, r1]; exact q1, Or.inl rfl, Or.inr ⟨hm3, r2, q2⟩, q3, q4, q5, q6, q7, q8⟩
