/-! The head of a function, side by side. -/
section SC
variable {t : Int → Int} {N T M : Int} {hc0 hm0 hc hm hc' hm' : qz_H}
theorem cz_end.ck {c s : Int} {C x : Option qz_R} (hx : cz_end t N T M hc0 hm0 c s C x) : cz_end t N T M hc0 hm0 c s C (qz_bc x fun r5 h6 => qz_ck ((r5 : Int) = 0 ∨ (r5 : Int) = 1) (some (r5, h6))) := by
  rcases hx with ⟨w, hc', hm', r1, r2, r3, r4⟩ | ⟨k', hc', hm', kd', s', L', r1, r2, r3⟩
  · exact Or.inl ⟨w, hc', hm', r1, r2, by rw [r3, bz_bc, bz_ck (by omega)], r4⟩
  · exact Or.inr ⟨k', hc', hm', kd', s', L', r1, by rw [r2, bz_bc, bz_ck (by omega)], r3⟩
theorem cz_257b {k : Nat} {kd s : Int} {L : Nat} {c : Int} (B : cz_bd t N T M hc0 hm0 c k hc hm kd s L) : cz_end t N T M hc0 hm0 c s (cz_go k hc) (fn_Md_readFunction_257 67 (c - 1) 0 hm) := by
  unfold fn_Md_readFunction_257 fn_Md_body fn_Md_body_14
  rw [if_pos rfl, bz_bn]
  have B' := B
  obtain ⟨m, d, b, q, S, _⟩ := B'
  have wN := S.en.w.2.1
  have s0 := S.tk.2.2.2.2.1
  exact (cz_body qz_NF B (by have : (qz_NF : Int) = 4000 := rfl; omega)).ck
theorem cz_257f {c s s' : Int} {C : Option qz_R} (R : cz_out t N T M hc0 hm0 c s C (fn_Md_fold 67 (c - 1) hm)) (ss : s' ≤ s) (s0 : 0 ≤ s) : cz_end t N T M hc0 hm0 c s' C (fn_Md_readFunction_257 67 (c - 1) 1 hm) := by
  unfold fn_Md_readFunction_257 fn_Md_body fn_Md_body_14
  rw [if_neg (show ¬ (1 : Int) = 0 by omega)]
  rcases R with ⟨w, hc', hm', r1, r2, r3, r4⟩ | ⟨k', hc', hm', kd', s2, L', r1, r2, r3, r4⟩
  · exact Or.inl ⟨w, hc', hm', r1, r2, by rw [r3, bz_bc, if_neg (show ¬ ¬ (0 : Int) = 0 by omega), bz_ck (by omega), bz_bc, bz_ck (by omega)], r4⟩
  · rw [r1, r2, bz_bc, if_pos (show ¬ (1 : Int) = 0 by omega), bz_bn]
    have B := r4
    obtain ⟨m, d, b, q, S, _⟩ := B
    have wN := S.en.w.2.1
    exact ((cz_body qz_NF r4 (by have : (qz_NF : Int) = 4000 := rfl; omega)).ck).mono (by omega)
theorem cz_head {c : Int} : ∀ (n : Nat) {k : Nat} {hc hm : qz_H} {kd s : Int} {L : Nat} {m q l2 : Int}, cz_S t N T M hc0 hm0 k hc hm kd s L → cz_G t hc hm M c m 0 0 q (-1) s → hc 30 5 = 2 → hc 30 6 = 0 → hc 30 7 = -2 → ((hc 37 1 = 0 ∨ hc 37 1 = 1) ∧ l2 = 0 ∨ hc 37 1 = 3 ∧ l2 ≠ 0) → (hc 37 1 = 0 → ¬ cz_nt t kd s L) → (l2 = 0 → hm 79 (c - 1) = hm 80 (c - 1)) → N - s + 3 ≤ n → cz_end t N T M hc0 hm0 c s (cz_go k hc) (fn_Md_readFunction_123 n 67 (c - 1) l2 0 hm)
  | 0, k, hc, hm, kd, s, L, m, q, l2, S, _, _, _, _, _, _, _, hn => by
    have := S.tk.2.2.2.2.2.1
    omega
  | n + 1, k, hc, hm, kd, s, L, m, q, l2, S, g, h5, h6, h7, hp, pn, par, hn => by
    have e := S.en
    have hM := e.hM
    have t33 := S.tk.2.2.2.1
    have k0 := S.k0
    have k4 := S.k4
    have sN := S.tk.2.2.2.2.2.1
    have s0 := S.tk.2.2.2.2.1
    have h37 : hc 37 0 = 3 := g.2.1.2.2.2.2.2.1
    show cz_end t N T M hc0 hm0 c s (cz_go k hc) (fn_Md_readFunction_123_b (fn_Md_readFunction_123 n) 67 (c - 1) l2 0 hm)
    unfold fn_Md_readFunction_123_b
    by_cases h0 : kd = 0
    · subst h0
      rw [if_neg (show ¬ ¬ hm 67 33 = 1 by rw [t33, if_neg (by omega)]; omega), if_neg (show ¬ ¬ (0 : Int) = 0 by omega), cz_goB e (d := 0) (by omega) (by omega) h5 h6 (Or.inl h37)]
      have e7 : cz_en t N T M hc0 hm0 (qz_up hc 30 7 (-2)) hm := e.uc (by omega)
      unfold fn_Reader_inBody
      rw [bz_bn, bz_ck (by omega), bz_bn, bz_c30_0 e7.tc.1, bz_ck (by omega), show (qz_up hc 30 7 (-2)) 34 1 = 0 by rw [cz_un (by omega)]; exact S.tk.1, if_neg (by omega), cz_bb, show qz_up hc 30 7 (-2) = hc by rw [← h7]; exact cz_ue _ _ _, cz_openC e h5 (by omega) (by omega), if_pos (by omega)]
      have e1 : cz_en t N T M hc0 hm0 (cz_lv hc 2 1) hm := e.fC (fun o i h => cz_lv_un (by omega) (by omega))
      obtain ⟨hc2, hm2, kd2, s2, L2, n1, n2, S2, ss, Fc, Fm⟩ := cz_adv S (by omega) e1 (cz_lv_un (by omega) (by omega)) (cz_lv_un (by omega) (by omega)) rfl (by rw [cz_lv_5 (by omega)]; omega) (by rw [cz_lv_5 (by omega)]; omega)
      rw [n1, n2, bz_bc]
      obtain ⟨z0, z1, z2, z3, z4⟩ := cz_lv_k (hc := hc) (x := 2) (k := 1)
      rw [show (36 : Int) + 2 = 38 by omega] at z0 z1 z2 z3 z4
      have fc2 : ∀ o i : Int, o ≠ 34 → o ≠ 30 → o ≠ 38 → hc2 o i = hc o i := by
        intro o i x1 x2 x3
        rw [Fc o i (by omega) (by omega)]
        exact cz_lv_un (by omega) (by omega)
      have a5 : hc2 30 5 = 3 := by
        rw [Fc _ _ (by omega) (by omega), cz_lv_5 (by omega)]; omega
      have a6 : hc2 30 6 = 0 := by
        rw [Fc _ _ (by omega) (by omega), cz_lv_un (by omega) (by omega)]; exact h6
      have a7 : hc2 30 7 = -2 := by
        rw [Fc _ _ (by omega) (by omega), cz_lv_un (by omega) (by omega)]; exact h7
      have y0 : hc2 38 0 = 1 := by rw [Fc _ _ (by omega) (by omega)]; exact z0
      have y1 : hc2 38 1 = 0 := by rw [Fc _ _ (by omega) (by omega)]; exact z1
      have y2 : hc2 38 2 = -1 := by rw [Fc _ _ (by omega) (by omega)]; exact z2
      have y4 : hc2 38 4 = 0 := by rw [Fc _ _ (by omega) (by omega)]; exact z4
      have w0 : hc2 37 0 = 3 := by rw [fc2 _ _ (by omega) (by omega) (by omega)]; exact h37
      have w1 : hc2 37 1 = hc 37 1 := fc2 _ _ (by omega) (by omega) (by omega)
      have g2 : cz_G t hc2 hm2 M c m 0 0 q (-1) s2 := g.same hM (fun o i h => fc2 o i (by omega) (by omega) (by omega)) (fun o i h => Fm o i (by omega)) (by omega)
      have par2 : l2 = 0 → hm2 79 (c - 1) = hm2 80 (c - 1) := fun h => by rw [Fm _ _ (by omega), Fm _ _ (by omega)]; exact par h
      obtain ⟨c1, c4, _, _, r3, _⟩ := g2.rows
      have s2N := S2.tk.2.2.2.2.2.1
      have b2 := cz_kb01 (t := t) kd2 s2 L2 2
      have b3 := cz_kb01 (t := t) kd2 s2 L2 3
      have b4 := cz_kb01 (t := t) kd2 s2 L2 4
      obtain ⟨_, _, i2, i3, i4⟩ := S2.en.is3 S2.tk
      rw [cz_behindF S2.en S2.tk a5 a6 y0 w0 (by omega), w1]
      -- the variables' part
      have vpart : ∀ (a p l2' : Int), cz_kb t kd2 s2 L2 2 = 1 ∨ cz_kb t kd2 s2 L2 4 = 1 → (a = 0 ∧ p = 3 ∧ l2' = 2 ∨ a = 1 ∧ p = 1 ∧ l2' = 0 ∧ l2 = 0) → cz_end t N T M hc0 hm0 c s (cz_rest (k + 1) (some (0, qz_up (qz_up hc2 37 1 p) 38 0 (if a = 1 then 4 else 5)))) (qz_bc (fn_Md_next 67 hm2) fun _ h6 => qz_bc (fn_Md_variables 67 (c - 1) a h6) fun r7 h8 => if ¬ r7 = 0 then fn_Md_readFunction_123 n 67 (c - 1) l2' 0 h8 else qz_ck ((0 : Int) = 0 ∨ (0 : Int) = 1) (some (0, h8))) := by
        intro a p l2' hb ha
        have kd22 : kd2 = 2 := by
          rcases hb with h | h
          · exact cz_kb2 h
          · exact cz_kb2 h
        clear hb b2 b3 b4 pn
        have e2 : cz_en t N T M hc0 hm0 (qz_up (qz_up hc2 37 1 p) 38 0 (if a = 1 then 4 else 5)) hm2 := (S2.en.uc (by omega)).uc (by omega)
        obtain ⟨hc3, hm3, kd3, s3, L3, n3, n4, S3, ss3, Fc3, Fm3⟩ := cz_adv S2 (by omega) e2 (by simp (disch := omega) only [cz_un]) (by simp (disch := omega) only [cz_un]) rfl (by simp (disch := omega) only [cz_un]; omega) (by simp (disch := omega) only [cz_un]; omega)
        rw [n3, n4, bz_bc]
        have fc3 : ∀ o i : Int, o ≠ 34 → ¬ (o = 30 ∧ i = 9) → ¬ (o = 37 ∧ i = 1) → ¬ (o = 38 ∧ i = 0) → hc3 o i = hc2 o i := by
          intro o i x1 x2 x3 x4
          rw [Fc3 o i (by omega) (by omega), cz_un x4, cz_un x3]
        have u0 : hc3 38 0 = if a = 1 then 4 else 5 := by rw [Fc3 _ _ (by omega) (by omega), bz_us]
        have u1 : hc3 37 1 = p := by rw [Fc3 _ _ (by omega) (by omega), cz_un (by omega), bz_us]
        have g3 : cz_G t hc3 hm3 M c m 0 0 q (-1) s3 := g2.same hM (fun o i h => fc3 o i (by omega) (by omega) (by omega) (by omega)) (fun o i h => Fm3 o i (by omega)) (by omega)
        have R := cz_vars (a := a) S3 g3 (by rw [fc3 _ _ (by omega) (by omega) (by omega) (by omega)]; exact a5) (by rw [fc3 _ _ (by omega) (by omega) (by omega) (by omega)]; exact a6) (by
          rw [u0]
          rcases ha with h | h
          · rw [if_neg (by omega)]; omega
          · rw [if_pos (by omega)]; omega) (fun h => by rw [Fm3 _ _ (by omega), Fm3 _ _ (by omega)]; exact par2 (by omega)) (by rw [fc3 _ _ (by omega) (by omega) (by omega) (by omega)]; exact y1) (by rw [fc3 _ _ (by omega) (by omega) (by omega) (by omega)]; exact y2)
        rcases R with ⟨w, hc', hm', r1, r2, r3, r4⟩ | ⟨k', hc', hm', kd', s', L', r1, r2, r3, S4, g4, q5, q6, q7, q8, q9⟩
        · exact Or.inl ⟨w, hc', hm', r1, r2, by rw [r3, bz_bc, if_neg (show ¬ ¬ (0 : Int) = 0 by omega), bz_ck (by omega)], r4⟩
        · rw [r1, r2, bz_bc, if_pos (show ¬ (1 : Int) = 0 by omega)]
          refine (cz_head (l2 := l2') n S4 g4 q5 q6 (by rw [q7, fc3 _ _ (by omega) (by omega) (by omega) (by omega)]; exact a7) (by rw [q8, u1]; omega) (by rw [q8, u1]; omega) (fun h => q9 (by omega)) (by omega)).mono (by omega)
      by_cases hA : hc 37 1 ≤ 1 ∧ cz_kb t kd2 s2 L2 2 = 1
      · -- parameters
        have l20 : l2 = 0 := by omega
        rw [if_pos hA, if_neg (show ¬ ¬ l2 = 0 by omega), i2, bz_bc, if_neg (show ¬ cz_kb t kd2 s2 L2 2 = 0 by omega)]
        have := vpart 1 1 0 (Or.inl hA.2) (Or.inr ⟨rfl, rfl, rfl, l20⟩)
        rw [if_pos rfl] at this
        rw [l20]
        exact this
      · rw [if_neg hA]
        have D169 : (if ¬ l2 = 0 then fn_Md_readFunction_169 (fn_Md_readFunction_123 n) 67 (c - 1) l2 0 hm2 else qz_bc (fn_Md_is 67 482671223149 5 hm2) fun r3 h4 => if r3 = 0 then fn_Md_readFunction_169 (fn_Md_readFunction_123 n) 67 (c - 1) l2 0 h4 else qz_bc (fn_Md_next 67 h4) fun _ h6 => qz_bc (fn_Md_variables 67 (c - 1) 1 h6) fun r7 h8 => if ¬ r7 = 0 then fn_Md_readFunction_123 n 67 (c - 1) l2 0 h8 else qz_ck ((0 : Int) = 0 ∨ (0 : Int) = 1) (some (0, h8))) = fn_Md_readFunction_169 (fn_Md_readFunction_123 n) 67 (c - 1) l2 0 hm2 := by
          by_cases h : l2 = 0
          · rw [if_neg (show ¬ ¬ l2 = 0 by omega), i2, bz_bc, if_pos (show cz_kb t kd2 s2 L2 2 = 0 by omega)]
          · rw [if_pos h]
        rw [D169]
        unfold fn_Md_readFunction_169
        by_cases hB : hc 37 1 ≤ 2 ∧ cz_kb t kd2 s2 L2 3 = 1
        · -- the result
          have l20 : l2 = 0 := by omega
          have kd22 := cz_kb2 hB.2
          rw [if_pos hB, if_neg (show ¬ ¬ l2 = 0 by omega), i3, bz_bc, if_neg (show ¬ cz_kb t kd2 s2 L2 3 = 0 by omega)]
          clear vpart b2 b3 b4 pn hA D169
          have e2 : cz_en t N T M hc0 hm0 (qz_up (qz_up hc2 37 1 3) 38 0 6) hm2 := (S2.en.uc (by omega)).uc (by omega)
          obtain ⟨hc3, hm3, kd3, s3, L3, n3, n4, S3, ss3, Fc3, Fm3⟩ := cz_adv S2 (by omega) e2 (by simp (disch := omega) only [cz_un]) (by simp (disch := omega) only [cz_un]) rfl (by simp (disch := omega) only [cz_un]; omega) (by simp (disch := omega) only [cz_un]; omega)
          rw [n3, n4, bz_bc]
          have fc3 : ∀ o i : Int, o ≠ 34 → ¬ (o = 30 ∧ i = 9) → ¬ (o = 37 ∧ i = 1) → ¬ (o = 38 ∧ i = 0) → hc3 o i = hc2 o i := by
            intro o i x1 x2 x3 x4
            rw [Fc3 o i (by omega) (by omega), cz_un x4, cz_un x3]
          have u0 : hc3 38 0 = 6 := by rw [Fc3 _ _ (by omega) (by omega), bz_us]
          have u1 : hc3 37 1 = 3 := by rw [Fc3 _ _ (by omega) (by omega), cz_un (by omega), bz_us]
          have u37 : hc3 37 0 = 3 := by rw [fc3 _ _ (by omega) (by omega) (by omega) (by omega)]; exact w0
          have u5 : hc3 30 5 = 3 := by rw [fc3 _ _ (by omega) (by omega) (by omega) (by omega)]; exact a5
          have u3 : hc3 M 3 = c := by rw [fc3 _ _ (by omega) (by omega) (by omega) (by omega)]; exact r3
          have g3 : cz_G t hc3 hm3 M c m 0 0 q (-1) s3 := g2.same hM (fun o i h => fc3 o i (by omega) (by omega) (by omega) (by omega)) (fun o i h => Fm3 o i (by omega)) (by omega)
          have eU : cz_en t N T M hc0 hm0 (qz_up hc3 38 1 3) hm3 := S3.en.uc (by omega)
          have R := cz_resS S3 (d := 0) (A := M + 2 + 2 * c) (I := 3) (o' := 81) (I' := c - 1) (by omega) (by omega) (by omega) (by rw [fc3 _ _ (by omega) (by omega) (by omega) (by omega)]; exact a6) u0 (by rw [show (38 : Int) + 0 = 38 by omega, fc3 _ _ (by omega) (by omega) (by omega) (by omega)]; exact y1) (by omega) (by omega) (by omega) (by omega) (by omega) (by omega) (fun v => cz_setF eU (by rw [cz_un (by omega)]; exact u5) (by rw [cz_un (by omega)]; exact u37) (by rw [cz_un (by omega)]; exact u3) c1 c4 v) (fun h => fn_Md_readFunction_123 n 67 (c - 1) 1 0 h) (D := cz_RF (fn_Md_readFunction_123 n) (c - 1) hm3) (cz_RF_eq _ S3 c1 c4)
          show cz_end t N T M hc0 hm0 c s (cz_go (k + 1 + 1) hc3) (cz_RF (fn_Md_readFunction_123 n) (c - 1) hm3)
          rcases R with R | ⟨k4, hc4, hm4, kd4, s4, L4, v, q1, q2, S4, ss4, q3, q4, q5, q6, q7, q8⟩
          · exact Or.inl R
          · rw [q1, q2]
            have g4 : cz_G t hc4 hm4 M c m 0 0 q (-1) s4 := cz_Gres (v := v) g3 hM (by omega) (fun o i x1 x2 => q6 o i (by omega) (by omega) (by omega) x2) (fun o i x1 x2 => q8 o i (by omega) x2) q4 q5 (by omega)
            refine (cz_head (l2 := 1) n S4 g4 q7 ?_ ?_ (Or.inr ⟨?_, by omega⟩) ?_ (fun h => by omega) (by omega)).mono (by omega)
            · rw [q6 _ _ (by omega) (by omega) (by omega) (by omega), fc3 _ _ (by omega) (by omega) (by omega) (by omega)]; exact a6
            · rw [q6 _ _ (by omega) (by omega) (by omega) (by omega), fc3 _ _ (by omega) (by omega) (by omega) (by omega)]; exact a7
            · rw [q6 _ _ (by omega) (by omega) (by omega) (by omega)]; exact u1
            · rw [q6 _ _ (by omega) (by omega) (by omega) (by omega), u1]; omega
        · rw [if_neg hB]
          have D224 : (if ¬ l2 = 0 then fn_Md_readFunction_224 (fn_Md_readFunction_123 n) 67 (c - 1) l2 0 hm2 else qz_bc (fn_Md_is 67 125780054338676 6 hm2) fun r1 h2 => if r1 = 0 then fn_Md_readFunction_224 (fn_Md_readFunction_123 n) 67 (c - 1) l2 0 h2 else qz_bc (fn_Md_next 67 h2) fun _ h4 => cz_RF (fn_Md_readFunction_123 n) (c - 1) h4) = fn_Md_readFunction_224 (fn_Md_readFunction_123 n) 67 (c - 1) l2 0 hm2 := by
            by_cases h : l2 = 0
            · rw [if_neg (show ¬ ¬ l2 = 0 by omega), i3, bz_bc, if_pos (show cz_kb t kd2 s2 L2 3 = 0 by omega)]
            · rw [if_pos h]
          refine Eq.mpr (congrArg (cz_end t N T M hc0 hm0 c s _) D224) ?_
          unfold fn_Md_readFunction_224
          rw [i4, bz_bc]
          by_cases hC : cz_kb t kd2 s2 L2 4 = 1
          · rw [if_pos hC, if_neg (show ¬ cz_kb t kd2 s2 L2 4 = 0 by omega)]
            have := vpart 0 3 2 (Or.inr hC) (Or.inl ⟨rfl, rfl, rfl⟩)
            rw [if_neg (show ¬ (0 : Int) = 1 by omega)] at this
            exact this
          · rw [if_neg hC, if_pos (show cz_kb t kd2 s2 L2 4 = 0 by omega), bz_bn]
            clear vpart b2 b3 b4 pn hA hB hC D169 D224
            obtain ⟨n', rfl⟩ : ∃ n', n = n' + 1 := ⟨n - 1, by omega⟩
            have D257 : fn_Md_readFunction_123 (n' + 1) 67 (c - 1) l2 1 hm2 = fn_Md_readFunction_257 67 (c - 1) 1 hm2 := by
              show fn_Md_readFunction_123_b (fn_Md_readFunction_123 n') 67 (c - 1) l2 1 hm2 = _
              unfold fn_Md_readFunction_123_b
              rw [if_pos (show ¬ (1 : Int) = 0 by omega)]
              split <;> rfl
            rw [D257]
            have R := cz_fold (d := 0) (m := m) (b := 0) (q := q) (hc := qz_up hc2 37 1 4) (S2.fC (fun o i h => cz_un (by omega)) (fun i _ _ => cz_un (by omega)) (cz_un (by omega))) (g2.same hM (fun o i h => cz_un (by omega)) (fun o i h => rfl) (Int.le_refl _)) (by omega) (by rw [cz_un (by omega)]; omega) (by rw [cz_un (by omega)]; exact a6) (by rw [cz_un (by omega)]; exact a7) (by rw [show (38 : Int) + 0 = 38 by omega, cz_un (by omega)]; exact y4) (fun _ => bz_us _ _ _ _)
            exact cz_257f R (by omega) (by omega)
    · rw [if_pos (show ¬ hm 67 33 = 1 by rw [t33]; split <;> omega)]
      exact cz_257b ⟨m, 0, 0, q, S, g, h5, h6, Or.inl h7, fun _ => Or.inr (Or.inl ⟨h0, pn⟩)⟩
end SC
