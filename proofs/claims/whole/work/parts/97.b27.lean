/-! The module: both readers. -/
section SC
variable {t : Int → Int} {N T M : Int} {hc0 hm0 hc hm hc' hm' : qz_H}
theorem cz_goM (e : cz_en t N T M hc0 hm0 hc hm) (h5 : hc 30 5 = 1) (h6 : hc 30 6 = 0) (h : hc 36 0 = 2) (k : Nat) : cz_go k hc = cz_rest k (fn_Reader_inModule 30 hc) := by
  unfold cz_go
  rw [h5, bz_lev e.tc.1 (by omega) (by omega), show (35 : Int) + 1 = 36 by omega]
  unfold fn_Reader_judge
  rw [if_pos h6, bz_ck (by omega)]
  simp only [qz_swt, cz_bb]
  rw [h, if_neg (by omega), if_neg (by omega), if_pos rfl]
theorem cz_goT (e : cz_en t N T M hc0 hm0 hc hm) (h5 : hc 30 5 = 0) (h6 : hc 30 6 = 0) (h : hc 35 0 = 0) (k : Nat) : cz_go k hc = cz_rest k (fn_Reader_inText 30 35 hc) := by
  unfold cz_go
  rw [h5, bz_lev e.tc.1 (by omega) (by omega), show (35 : Int) + 0 = 35 by omega]
  unfold fn_Reader_judge
  rw [if_pos h6, bz_ck (by omega)]
  simp only [qz_swt, cz_bb]
  rw [h, if_pos rfl]
theorem cz_beginF (e : cz_en t N T M hc0 hm0 hc hm) {kd s : Int} {L : Nat} (tk : cz_tk t N hc hm kd s L) {c m : Int} (h5 : hc 30 5 = 2) (h6 : hc 30 6 = 0) (b0 : hc 37 0 = 1) (h36 : hc 36 0 = 2) (m3 : hc M 3 = c) (c0 : 0 ≤ c) (c4 : c ≤ 4) (m4 : hc M 4 = m) (k : Nat) : cz_go k hc = cz_rest k (if cz_kb t kd s L 1 = 0 then some (1, hc) else if c = 4 then some (2, hc) else some (0, qz_up (qz_up (qz_up (qz_up (qz_up (qz_up (qz_up (qz_up hc M 3 (c + 1)) (M + 4 + 2 * c) 1 0) (M + 4 + 2 * c) 2 0) (M + 4 + 2 * c) 3 0) (M + 4 + 2 * c) 4 m) (M + 4 + 2 * c) 5 0) 32 c (-1)) 37 0 3)) := by
  have hM := e.hM
  unfold cz_go
  rw [h5, bz_lev e.tc.1 (by omega) (by omega), show (35 : Int) + 2 = 37 by omega]
  have mx : qz_max 0 (2 - 1) = 1 := by decide +kernel
  unfold fn_Reader_judge
  rw [if_pos h6, bz_ck (by omega), b0]
  simp only [qz_swt]
  rw [if_neg (by omega), if_pos trivial, cz_bb]
  unfold fn_Reader_behindOpening
  rw [bz_c30_1 e.tc.1, bz_ck (by omega), bz_c31_m1 e.tc.1, h5, bz_w (by omega) (by omega), mx, bz_ck (by omega), bz_lev e.tc.1 (by omega) (by omega), show (35 : Int) + 1 = 36 by omega, bz_bn, bz_ck (by omega)]
  simp only [qz_swt]
  rw [h36, if_neg (by omega), if_pos rfl, cz_bb]
  obtain ⟨_, i1, _⟩ := e.is3C tk
  unfold fn_Reader_beginFunction
  rw [bz_c30_0 e.tc.1, bz_ck (by omega), i1, bz_bc]
  rcases cz_kb01 (t := t) kd s L 1 with h1 | h1
  · rw [h1, if_neg (show ¬ ¬ (0 : Int) = 0 by omega), if_pos rfl]
  · rw [h1, if_pos (show ¬ (1 : Int) = 0 by omega), if_neg (show ¬ (1 : Int) = 0 by omega), e.m4, bz_ck (by omega)]
    unfold fn_Module_addFunction
    rw [m3]
    by_cases hc4 : c = 4
    · rw [if_neg (by omega), if_pos hc4, bz_ck (by omega), bz_bc, if_neg (show ¬ ¬ (0 : Int) = 0 by omega)]
    · have e1 : cz_en t N T M hc0 hm0 (qz_up hc M 3 (c + 1)) hm := e.uc (by omega)
      have hl := cz_lat e1.tc.1 hM (c := c + 1) (bz_us _ _ _ _) (by omega) (by omega)
      rw [show M + 2 + 2 * (c + 1) = M + 4 + 2 * c by omega] at hl
      have e2 : cz_en t N T M hc0 hm0 (qz_up (qz_up (qz_up (qz_up (qz_up (qz_up hc M 3 (c + 1)) (M + 4 + 2 * c) 1 0) (M + 4 + 2 * c) 2 0) (M + 4 + 2 * c) 3 0) (M + 4 + 2 * c) 4 m) (M + 4 + 2 * c) 5 0) hm := (((((e1.uc (by omega)).uc (by omega)).uc (by omega)).uc (by omega)).uc (by omega))
      rw [if_pos (by omega), if_neg hc4, bz_ck (by omega), bz_bn, bz_w (by omega) (by omega), hl, bz_bc, bz_ck (by omega), show (qz_up hc M 3 (c + 1)) M 4 = m by rw [cz_un (by omega)]; exact m4]
      unfold fn_Function_begin
      rw [bz_ck (by omega), bz_bn, bz_ck (by omega), bz_bn, bz_ck (by omega), bz_bn, bz_ck (by omega), bz_bn, bz_ck (by omega), bz_bn, bz_bc, bz_ck (by omega), bz_bc, if_pos (show ¬ (1 : Int) = 0 by omega)]
      unfold fn_Reader_setFunctionName fn_Reader_setFunctionName_26
      rw [e2.m4, bz_ck (by omega), show (qz_up (qz_up (qz_up (qz_up (qz_up (qz_up hc M 3 (c + 1)) (M + 4 + 2 * c) 1 0) (M + 4 + 2 * c) 2 0) (M + 4 + 2 * c) 3 0) (M + 4 + 2 * c) 4 m) (M + 4 + 2 * c) 5 0) M 3 = c + 1 by simp (disch := omega) only [cz_un, bz_us], show c + 1 - 1 = c by omega, bz_w (by omega) (by omega), bz_bn, if_neg (by omega), if_neg (by omega), bz_c30_2 e2.tc.1, bz_ck (by omega), bz_c32_m1 e2.tc.1, bz_ck (by omega), bz_bn, bz_bc, bz_ck (by omega), bz_ck (by omega), bz_bn]
/-- all is read: the calls' names are still to be found -/
def cz_fi (t : Int → Int) (N T M : Int) (hc0 hm0 hc hm : qz_H) : Prop := ∃ c m q u : Int, cz_en t N T M hc0 hm0 hc hm ∧ cz_G1 hc hm M c m ∧ cz_G2 t hc hm c ∧ cz_G4 t hc hm M m q u ∧ cz_G6 hm c m 0 ∧ (∀ j : Int, 0 ≤ j → j < q → hm 92 j ≠ -1) ∧ q ≤ m ∧ hm 83 c = m
theorem cz_modl : ∀ (n : Nat) {k : Nat} {hc hm : qz_H} {kd s c : Int} {L : Nat}, cz_mo t N T M hc0 hm0 c k hc hm kd s L → N - s + 1 ≤ n → cz_bad M hc0 hm0 (cz_go k hc) (fn_Md_readModule_51 n 67 hm) ∨ ∃ hc' hm', cz_go k hc = fn_Reader_findFunctions 30 hc' ∧ fn_Md_readModule_51 n 67 hm = some (1, hm') ∧ cz_fi t N T M hc0 hm0 hc' hm'
  | 0, k, hc, hm, kd, s, c, L, ⟨m, q, S, _⟩, hn => by
    have := S.tk.2.2.2.2.2.1
    omega
  | n + 1, k, hc, hm, kd, s, c, L, ⟨m, q, S, g1, g2, g4, g6, nr, qm, h36, h35, h35', h5, h6, h7⟩, hn => by
    have e := S.en
    have hM := e.hM
    have t33 := S.tk.2.2.2.1
    have k0 := S.k0
    have k4 := S.k4
    have sN := S.tk.2.2.2.2.2.1
    have Lm := e.tm.1
    obtain ⟨a1, a2, a3, a4, a5, a6, a7, a8, a9⟩ := g1
    have G1 : cz_G1 hc hm M c m := ⟨a1, a2, a3, a4, a5, a6, a7, a8, a9⟩
    show cz_bad M hc0 hm0 (cz_go k hc) (fn_Md_readModule_51_b (fn_Md_readModule_51 n) 67 hm) ∨ ∃ hc' hm', cz_go k hc = fn_Reader_findFunctions 30 hc' ∧ fn_Md_readModule_51_b (fn_Md_readModule_51 n) 67 hm = some (1, hm') ∧ cz_fi t N T M hc0 hm0 hc' hm'
    unfold fn_Md_readModule_51_b
    rw [cz_goM e h5 h6 h36]
    unfold fn_Reader_inModule fn_Reader_inModule_34
    rw [bz_c30_0 e.tc.1, bz_ck (by omega), S.tk.1]
    by_cases h0 : kd = 0
    · subst h0
      rw [if_neg (show ¬ ¬ hm 67 33 = 1 by rw [t33, if_neg (by omega)]; omega), if_neg (show ¬ ¬ (0 : Int) = 0 by omega), cz_bb, cz_openC e h5 (by omega) (by omega), if_pos (by omega)]
      have e1 : cz_en t N T M hc0 hm0 (cz_lv hc 1 1) hm := e.fC (fun o i h => cz_lv_un (by omega) (by omega))
      obtain ⟨hc2, hm2, kd2, s2, L2, n1, n2, S2, ss, Fc, Fm⟩ := cz_adv S (by omega) e1 (cz_lv_un (by omega) (by omega)) (cz_lv_un (by omega) (by omega)) rfl (by rw [cz_lv_5 (by omega)]; omega) (by rw [cz_lv_5 (by omega)]; omega)
      obtain ⟨z0, z1, z2, z3, z4⟩ := cz_lv_k (hc := hc) (x := 1) (k := 1)
      rw [show (36 : Int) + 1 = 37 by omega] at z0 z1 z2 z3 z4
      have fc2 : ∀ o i : Int, o ≠ 34 → o ≠ 30 → o ≠ 37 → hc2 o i = hc o i := by
        intro o i x1 x2 x3
        rw [Fc o i (by omega) (by omega)]
        exact cz_lv_un (by omega) (by omega)
      have b5 : hc2 30 5 = 2 := by rw [Fc _ _ (by omega) (by omega), cz_lv_5 (by omega)]; omega
      have b6 : hc2 30 6 = 0 := by rw [Fc _ _ (by omega) (by omega), cz_lv_un (by omega) (by omega)]; exact h6
      have b7 : hc2 30 7 = -2 := by rw [Fc _ _ (by omega) (by omega), cz_lv_un (by omega) (by omega)]; exact h7
      have y0 : hc2 37 0 = 1 := by rw [Fc _ _ (by omega) (by omega)]; exact z0
      have y1 : hc2 37 1 = 0 := by rw [Fc _ _ (by omega) (by omega)]; exact z1
      rw [n1, n2, bz_bc, cz_beginF S2.en S2.tk (c := c) (m := m) b5 b6 y0 (by rw [fc2 _ _ (by omega) (by omega) (by omega)]; exact h36) (by rw [fc2 _ _ (by omega) (by omega) (by omega)]; exact a1) a3 a4 (by rw [fc2 _ _ (by omega) (by omega) (by omega)]; exact a5), (S2.en.is3 S2.tk).2.1, bz_bc]
      rcases cz_kb01 (t := t) kd2 s2 L2 1 with h1 | h1
      · left
        rw [h1, if_pos (show (0 : Int) = 0 from rfl), if_neg (show ¬ ¬ (0 : Int) = 0 by omega), cz_fail S2.en.w0, bz_bc, bz_ck (by omega)]
        exact cz_badI S2.en (Or.inl rfl) S2.sm
      · have kd22 := cz_kb2 h1
        have m15 : hm2 67 15 = c := by rw [Fm _ _ (by omega)]; exact a2
        have m23 : hm2 67 23 = m := by rw [Fm _ _ (by omega)]; exact a6
        rw [h1, if_neg (show ¬ (1 : Int) = 0 by omega), if_pos (show ¬ (1 : Int) = 0 by omega), m15]
        by_cases hc4 : c = 4
        · left
          rw [if_pos hc4, if_neg (show ¬ ¬ c = 4 by omega), cz_fail S2.en.w0, bz_bc, bz_ck (by omega)]
          exact cz_badI S2.en (Or.inr rfl) S2.sm
        · rw [if_neg hc4, if_pos hc4]
          obtain ⟨X, hX, x_, x3, xf1, xf2, xf3, xf4, xf5, x32, x37⟩ : ∃ X : qz_H, qz_up (qz_up (qz_up (qz_up (qz_up (qz_up (qz_up (qz_up hc2 M 3 (c + 1)) (M + 4 + 2 * c) 1 0) (M + 4 + 2 * c) 2 0) (M + 4 + 2 * c) 3 0) (M + 4 + 2 * c) 4 m) (M + 4 + 2 * c) 5 0) 32 c (-1)) 37 0 3 = X ∧ (∀ o i : Int, ¬ (o = M ∧ i = 3) → ¬ (o = M + 4 + 2 * c ∧ 1 ≤ i ∧ i ≤ 5) → ¬ (o = 32 ∧ i = c) → ¬ (o = 37 ∧ i = 0) → X o i = hc2 o i) ∧ X M 3 = c + 1 ∧ X (M + 4 + 2 * c) 1 = 0 ∧ X (M + 4 + 2 * c) 2 = 0 ∧ X (M + 4 + 2 * c) 3 = 0 ∧ X (M + 4 + 2 * c) 4 = m ∧ X (M + 4 + 2 * c) 5 = 0 ∧ X 32 c = -1 ∧ X 37 0 = 3 := by
            refine ⟨_, rfl, fun o i n1 n2 n3 n4 => ?_, ?_, ?_, ?_, ?_, ?_, ?_, ?_, ?_⟩
            · simp (disch := omega) only [cz_un]
            all_goals simp (disch := omega) only [cz_un, bz_us]
          rw [hX]
          clear hX
          have e2 : cz_en t N T M hc0 hm0 X hm2 := S2.en.fC (fun o i h => x_ o i (by omega) (by omega) (by omega) (by omega))
          obtain ⟨hc3, hm3, kd3, s3, L3, n3, n4, S3, ss3, Fc3, Fm3⟩ := cz_adv S2 (by omega) e2 (x_ _ _ (by omega) (by omega) (by omega) (by omega)) (x_ _ _ (by omega) (by omega) (by omega) (by omega)) rfl (by rw [x_ _ _ (by omega) (by omega) (by omega) (by omega)]; omega) (by rw [x_ _ _ (by omega) (by omega) (by omega) (by omega)]; omega)
          have L3m := S3.en.tm.1
          have w15 : hm3 67 15 = c := by rw [Fm3 _ _ (by omega)]; exact m15
          have w23 : hm3 67 23 = m := by rw [Fm3 _ _ (by omega)]; exact m23
          have eA : cz_en t N T M hc0 hm0 hc3 (qz_up hm3 83 c m) := S3.en.um (by omega)
          rw [n3, n4, bz_bc, bz_m67_20 L3m, bz_ck (by omega), w15, bz_m83_m1 L3m, bz_ck (by omega), bz_bn, w23, bz_ck (by omega), bz_bn, show (qz_up hm3 83 c m) 67 15 = c by rw [cz_un (by omega)]; exact w15, bz_w (z := c + 1) (by omega) (by omega), bz_us, show c + 1 - 1 = c by omega, bz_w (z := c) (by omega) (by omega)]
          have eB : cz_en t N T M hc0 hm0 hc3 (qz_up (qz_up hm3 83 c m) 67 15 (c + 1)) := eA.um (by omega)
          have eC : cz_en t N T M hc0 hm0 hc3 (qz_up (qz_up (qz_up hm3 83 c m) 67 15 (c + 1)) 79 c 0) := eB.um (by omega)
          have eD : cz_en t N T M hc0 hm0 hc3 (qz_up (qz_up (qz_up (qz_up hm3 83 c m) 67 15 (c + 1)) 79 c 0) 80 c 0) := eC.um (by omega)
          have eE : cz_en t N T M hc0 hm0 hc3 (qz_up (qz_up (qz_up (qz_up (qz_up hm3 83 c m) 67 15 (c + 1)) 79 c 0) 80 c 0) 81 c 0) := eD.um (by omega)
          unfold fn_Md_readFunction
          rw [bz_m67_16 eB.tm.1, bz_ck (by omega), bz_m79_m1 eB.tm.1, bz_ck (by omega), bz_bn, bz_m67_17 eC.tm.1, bz_ck (by omega), bz_m80_m1 eC.tm.1, bz_ck (by omega), bz_bn, bz_m67_18 eD.tm.1, bz_ck (by omega), bz_m81_m1 eD.tm.1, bz_ck (by omega), bz_bn, bz_m67_25 eE.tm.1, bz_ck (by omega), bz_m87_m1 eE.tm.1, bz_ck (by omega), bz_bn, bz_ck (by omega), bz_bn]
          obtain ⟨Y, hY, y_, y15, y39, y79, y80, y81, y83, y87⟩ : ∃ Y : qz_H, qz_up (qz_up (qz_up (qz_up (qz_up (qz_up (qz_up hm3 83 c m) 67 15 (c + 1)) 79 c 0) 80 c 0) 81 c 0) 87 c 0) 67 39 0 = Y ∧ (∀ o i : Int, ¬ ((o = 79 ∨ o = 80 ∨ o = 81 ∨ o = 83 ∨ o = 87) ∧ i = c) → ¬ (o = 67 ∧ (i = 15 ∨ i = 39)) → Y o i = hm3 o i) ∧ Y 67 15 = c + 1 ∧ Y 67 39 = 0 ∧ Y 79 c = 0 ∧ Y 80 c = 0 ∧ Y 81 c = 0 ∧ Y 83 c = m ∧ Y 87 c = 0 := by
            refine ⟨_, rfl, fun o i n1 n2 => ?_, ?_, ?_, ?_, ?_, ?_, ?_, ?_⟩
            · simp (disch := omega) only [cz_un]
            all_goals simp (disch := omega) only [cz_un, bz_us]
          rw [hY]
          clear hY eA eB eC eD eE
          have SY : cz_S t N T M hc0 hm0 (k + 1 + 1) hc3 Y kd3 s3 L3 := S3.fM (fun o i h => y_ o i (by omega) (by omega)) (fun i i1 i2 => y_ 67 i (by omega) (by omega))
          have F3 : ∀ o i : Int, o ≠ 34 → o ≠ 30 → hc3 o i = X o i := fun o i x1 x2 => Fc3 o i (by omega) (by omega)
          have gN : cz_G t hc3 Y M (c + 1) m 0 0 q (-1) s3 := cz_newF G1 g2 g4 g6 nr qm h36 h35 h35' hM (by omega) (fun o i i1 i2 i3 i4 => by rw [F3 _ _ (by omega) (by omega), x_ _ _ i2 i3 i4 (by omega)]; exact fc2 o i (by omega) (by omega) (by omega)) (fun o i i1 i2 => by rw [y_ _ _ (by omega) (by omega), Fm3 _ _ (by omega)]; exact Fm _ _ (by omega)) (by rw [F3 _ _ (by omega) (by omega)]; exact x3) (by rw [F3 _ _ (by omega) (by omega)]; exact xf1) (by rw [F3 _ _ (by omega) (by omega)]; exact xf2) (by rw [F3 _ _ (by omega) (by omega)]; exact xf3) (by rw [F3 _ _ (by omega) (by omega)]; exact xf4) (by rw [F3 _ _ (by omega) (by omega)]; exact xf5) (by rw [F3 _ _ (by omega) (by omega)]; exact x32) (by rw [F3 _ _ (by omega) (by omega)]; exact x37) y79 y80 y81 y83 y87 y15 y39 (by omega)
          have X30 : ∀ i : Int, i ≠ 9 → hc3 30 i = hc2 30 i := fun i h => by rw [Fc3 _ _ (by omega) (by omega)]; exact x_ _ _ (by omega) (by omega) (by omega) (by omega)
          have R := cz_func SY gN (by rw [X30 _ (by omega)]; exact b5) (by rw [X30 _ (by omega)]; exact b6) (by rw [X30 _ (by omega)]; exact b7) (by rw [F3 _ _ (by omega) (by omega), x_ _ _ (by omega) (by omega) (by omega) (by omega)]; exact y1) (by rw [show c + 1 - 1 = c by omega]; exact y80) (by rw [show c + 1 - 1 = c by omega]; exact y79) (by rw [show c + 1 - 1 = c by omega]; exact y87)
          rw [show c + 1 - 1 = c by omega] at R
          rcases R with ⟨w, hc', hm', r1, r2, r3, r4⟩ | ⟨k', hc', hm', kd', s', L', r1, r2, r3, r4⟩
          · exact Or.inl ⟨w, hc', hm', r1, r2, by rw [r3, bz_bc, if_neg (show ¬ ¬ (0 : Int) = 0 by omega), bz_ck (by omega)], r4⟩
          · rw [r1, r2, bz_bc, if_pos (show ¬ (1 : Int) = 0 by omega)]
            exact cz_modl n r4 (by omega)
    · rw [if_pos (show ¬ hm 67 33 = 1 by rw [t33]; split <;> omega), if_pos h0, bz_ck (by omega), bz_m67_20 Lm, bz_ck (by omega), a2, bz_m83_m1 Lm, bz_ck (by omega), bz_bn, a6]
      have eA : cz_en t N T M hc0 hm0 hc (qz_up hm 83 c m) := e.um (by omega)
      have tA : cz_tk t N hc (qz_up hm 83 c m) kd s L := S.tk.fM (fun i _ _ => cz_un (by omega))
      rw [cz_passM eA tA k0 k4]
      by_cases h1 : kd = 1
      · subst h1
        rw [if_neg (show ¬ ¬ (1 : Int) = 1 by omega), if_pos rfl, cz_close h5 (by omega) (by omega), bz_bc, show (1 : Int) - 1 = 0 by omega]
        have eB : cz_en t N T M hc0 hm0 (qz_up hc 30 5 0) (qz_up hm 83 c m) := eA.uc (by omega)
        obtain ⟨hc2, hm2, kd2, s2, L2, n1, n2, S2, ss, Fc, Fm⟩ := cz_adv S (by omega) eB (cz_un (by omega)) (cz_un (by omega)) (cz_un (by omega)) (by rw [bz_us]; omega) (by rw [bz_us]; omega)
        have fc2 : ∀ o i : Int, o ≠ 34 → ¬ (o = 30 ∧ (i = 5 ∨ i = 9)) → hc2 o i = hc o i := by
          intro o i x1 x2
          rw [Fc o i (by omega) (by omega), cz_un (by omega)]
        have fm2 : ∀ o i : Int, ¬ (o = 67 ∧ 32 ≤ i ∧ i ≤ 37) → ¬ (o = 83 ∧ i = c) → hm2 o i = hm o i := by
          intro o i x1 x2
          rw [Fm o i x1, cz_un x2]
        rw [n1, n2, bz_bc, bz_bc, if_pos (show ¬ (1 : Int) = 0 by omega), cz_goT S2.en (by rw [Fc _ _ (by omega) (by omega), bz_us]) (by rw [fc2 _ _ (by omega) (by omega)]; exact h6) (by rw [fc2 _ _ (by omega) (by omega)]; exact h35)]
        have p3 : hc2 35 1 = 3 := by rw [fc2 _ _ (by omega) (by omega)]; exact h35'
        have IT : fn_Reader_inText 30 35 hc2 = if kd2 = 4 then some (0, hc2) else some (1, hc2) := by
          unfold fn_Reader_inText fn_Reader_inText_27 fn_Reader_inText_50 fn_Reader_inText_51
          rw [bz_ck (by omega), p3, if_pos (by omega), bz_ck (by omega), if_neg (show ¬ ¬ (3 : Int) = 3 by omega), bz_c30_0 S2.en.tc.1, bz_ck (by omega), S2.tk.1]
          (repeat' split) <;> first | rfl | omega
        have t33' := S2.tk.2.2.2.1
        have k0' := S2.k0
        have k4' := S2.k4
        rw [IT]
        unfold fn_Md_readModule_174 fn_Md_readModule_179
        by_cases h4 : kd2 = 4
        · right
          rw [if_pos h4, if_pos (show hm2 67 33 = 0 by rw [t33', if_pos h4]), bz_ck (by omega)]
          refine ⟨hc2, hm2, ?_, rfl, c, m, q, s2, S2.en, ?_, ?_, ?_, ?_, ?_, qm, ?_⟩
          · unfold cz_rest
            rw [bz_bc, bz_bn, if_pos rfl, bz_c30_0 S2.en.tc.1, bz_ck (by omega), S2.tk.1, if_neg (show ¬ ¬ kd2 = 4 by omega), cz_bb]
          · have e83 : ∀ i : Int, i ≠ c → hm2 83 i = hm 83 i := fun i h => fm2 _ _ (by omega) (by omega)
            refine ⟨by rw [fc2 _ _ (by omega) (by omega)]; exact a1, by rw [fm2 _ _ (by omega) (by omega)]; exact a2, a3, a4, by rw [fc2 _ _ (by omega) (by omega)]; exact a5, by rw [fm2 _ _ (by omega) (by omega)]; exact a6, a7, a8, fun f f0 f1 => ?_⟩
            obtain ⟨⟨b1, b2, b3, b4, b5, b6, b7, b8, b9, b10, b11⟩, b12, b13, b14, b15⟩ := a9 f f0 f1
            have e79 : hm2 79 f = hm 79 f := fm2 _ _ (by omega) (by omega)
            have e80 : hm2 80 f = hm 80 f := fm2 _ _ (by omega) (by omega)
            have e81 : hm2 81 f = hm 81 f := fm2 _ _ (by omega) (by omega)
            have ef : ∀ i : Int, hc2 (M + 4 + 2 * f) i = hc (M + 4 + 2 * f) i := fun i => fc2 _ _ (by omega) (by omega)
            refine ⟨⟨by rw [ef, e79]; exact b1, by rw [ef, e80]; exact b2, by rw [ef, e81]; exact b3, by rw [ef, e83 f (by omega)]; exact b4, by omega, by omega, by omega, by omega, by omega, by omega, fun k k0 k1 => ?_⟩, by rw [e83 f (by omega)]; exact b12, by rw [e83 f (by omega)]; exact b13, fun h => ?_, fun h => by rw [ef, e83 f (by omega)]; exact b15 h⟩
            · rw [fc2 _ _ (by omega) (by omega), fm2 _ _ (by omega) (by omega)]
              exact b11 k k0 (by omega)
            · rw [ef, e83 f (by omega), e83 (f + 1) (by omega)]
              exact b14 h
          · exact g2.same (fun i => fc2 _ _ (by omega) (by omega)) (fun o i i1 i2 => fm2 _ _ (by omega) (by omega))
          · exact g4.same (fun o i h => fc2 _ _ (by omega) (by omega)) (fun o i h => fm2 _ _ (by omega) (by omega)) (fm2 _ _ (by omega) (by omega)) (by omega)
          · have e83 : ∀ i : Int, i ≠ c → hm2 83 i = hm 83 i := fun i h => fm2 _ _ (by omega) (by omega)
            have e84 : ∀ i : Int, hm2 84 i = hm 84 i := fun i => fm2 _ _ (by omega) (by omega)
            refine ⟨fun f f0 f1 n hn => ?_, fun h1 => ?_⟩
            · rw [e83 f (by omega), e84, cz_nd_same (hm := hm) (fun i _ => e84 _)]
              refine g6.1 f f0 f1 n ?_
              rw [e83 f (by omega)] at hn
              by_cases hl : f + 1 < c
              · rw [if_pos hl, e83 (f + 1) (by omega)] at hn
                rw [if_pos hl]; exact hn
              · rw [if_neg hl] at hn ⊢; exact hn
            · rw [e83 (c - 1) (by omega), cz_nd_same (hm := hm) (fun i _ => e84 _)]
              exact g6.2 h1
          · intro j j0 j1
            rw [fm2 _ _ (by omega) (by omega)]
            exact nr j j0 j1
          · rw [Fm _ _ (by omega), bz_us]
        · left
          rw [if_neg h4, if_neg (show ¬ hm2 67 33 = 0 by rw [t33', if_neg h4]; omega), cz_fail S2.en.w0, bz_bc, if_pos rfl, bz_ck (by omega)]
          exact cz_badI S2.en (Or.inl rfl) S2.sm
      · left
        rw [if_pos h1, if_neg h1, bz_bc, if_neg (show ¬ ¬ (0 : Int) = 0 by omega), bz_ck (by omega)]
        exact cz_badI eA (Or.inl rfl) (by rw [cz_un (by omega)]; exact S.sm)
end SC
