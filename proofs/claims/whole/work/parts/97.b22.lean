/-! The variables of a function, all of them. -/
section SC
variable {t : Int → Int} {N T M : Int} {hc0 hm0 hc hm hc' hm' : qz_H}
def cz_vo (t : Int → Int) (N T M : Int) (hc0 hm0 : qz_H) (c m q a s p7 p1 : Int) (C D : Option qz_R) : Prop := cz_bad M hc0 hm0 C D ∨ ∃ k' hc' hm' kd' s' L', C = cz_go k' hc' ∧ D = some (1, hm') ∧ s < s' ∧ cz_S t N T M hc0 hm0 k' hc' hm' kd' s' L' ∧ cz_G t hc' hm' M c m 0 0 q (-1) s' ∧ hc' 30 5 = 2 ∧ hc' 30 6 = 0 ∧ hc' 30 7 = p7 ∧ hc' 37 1 = p1 ∧ (a = 1 → hm' 79 (c - 1) = hm' 80 (c - 1))
theorem cz_vo.mono {c m q a s s' p7 p1 : Int} {C D : Option qz_R} (h : cz_vo t N T M hc0 hm0 c m q a s p7 p1 C D) (hs : s' ≤ s) : cz_vo t N T M hc0 hm0 c m q a s' p7 p1 C D := by
  rcases h with h | ⟨k', hc', hm', kd', s2, L', h1, h2, h3, h4⟩
  · exact Or.inl h
  · exact Or.inr ⟨k', hc', hm', kd', s2, L', h1, h2, by omega, h4⟩
/-- the closing parenthesis behind variables -/
theorem cz_vend {k : Nat} {s : Int} {L : Nat} {c m q a : Int} (S : cz_S t N T M hc0 hm0 k hc hm 1 s L) (g : cz_G t hc hm M c m 0 0 q (-1) s) (h5 : hc 30 5 = 3) (h6 : hc 30 6 = 0) (kk : hc 38 0 = 4 ∨ hc 38 0 = 5) (hp : hc 38 1 ≠ 1) (par : a = 1 → hm 79 (c - 1) = hm 80 (c - 1)) : ∃ hc' hm' kd' s' L', cz_go k hc = cz_go (k + 1) hc' ∧ fn_Md_next 67 hm = some (0, hm') ∧ s < s' ∧ cz_S t N T M hc0 hm0 (k + 1) hc' hm' kd' s' L' ∧ cz_G t hc' hm' M c m 0 0 q (-1) s' ∧ hc' 30 5 = 2 ∧ hc' 30 6 = 0 ∧ hc' 30 7 = hc 30 7 ∧ hc' 37 1 = hc 37 1 ∧ (a = 1 → hm' 79 (c - 1) = hm' 80 (c - 1)) := by
  have e := S.en
  have hM := e.hM
  have t0 : cz_ty t 1 s L = 0 := by
    by_cases h : cz_ty t 1 s L = 0
    · exact h
    · have := cz_ty2 h; omega
  rw [cz_dcl0 e S.tk h5 h6 kk (Or.inl t0), if_pos ⟨rfl, hp⟩]
  have e1 : cz_en t N T M hc0 hm0 (qz_up hc 30 5 2) hm := e.uc (by omega)
  obtain ⟨hc2, hm2, kd', s', L', n1, n2, S2, ss, Fc, Fm⟩ := cz_adv S (by omega) e1 (cz_un (by omega)) (cz_un (by omega)) rfl (by rw [bz_us]; omega) (by rw [bz_us]; omega)
  have fc2 : ∀ o i : Int, o ≠ 34 → ¬ (o = 30 ∧ (i = 5 ∨ i = 9)) → hc2 o i = hc o i := by
    intro o i x1 x2
    rw [Fc o i (by omega) (by omega), cz_un (by omega)]
  refine ⟨hc2, hm2, kd', s', L', n1, n2, ss, S2, g.same hM (fun o i h => fc2 o i (by omega) (by omega)) (fun o i h => Fm o i (by omega)) (by omega), ?_, ?_, fc2 _ _ (by omega) (by omega), fc2 _ _ (by omega) (by omega), fun h => ?_⟩
  · rw [Fc _ _ (by omega) (by omega), bz_us]
  · rw [fc2 _ _ (by omega) (by omega)]; exact h6
  · rw [Fm _ _ (by omega), Fm _ _ (by omega)]; exact par h
theorem cz_vloop {c m q a : Int} : ∀ (n : Nat) {k : Nat} {hc hm : qz_H} {kd s : Int} {L : Nat}, cz_S t N T M hc0 hm0 k hc hm kd s L → cz_G t hc hm M c m 0 0 q (-1) s → hc 30 5 = 3 → hc 30 6 = 0 → (a = 0 ∧ hc 38 0 = 5 ∨ a = 1 ∧ hc 38 0 = 4) → (a = 1 → hm 79 (c - 1) = hm 80 (c - 1)) → (hc 38 1 = 2 ∨ hc 38 1 = 0 ∧ ¬ cz_nt t kd s L) → hc 38 2 = -1 → N - s + 1 ≤ n → cz_vo t N T M hc0 hm0 c m q a s (hc 30 7) (hc 37 1) (cz_go k hc) (fn_Md_variables_62 n 67 (c - 1) a hm)
  | 0, k, hc, hm, kd, s, L, S, _, _, _, _, _, _, _, hn => by
    have := S.tk.2.2.2.2.2.1
    omega
  | n + 1, k, hc, hm, kd, s, L, S, g, h5, h6, ha, par, hp, h2, hn => by
    have e := S.en
    have t33 := S.tk.2.2.2.1
    have k0 := S.k0
    have k4 := S.k4
    show cz_vo t N T M hc0 hm0 c m q a s (hc 30 7) (hc 37 1) (cz_go k hc) (fn_Md_variables_62_b (fn_Md_variables_62 n) 67 (c - 1) a hm)
    unfold fn_Md_variables_62_b
    by_cases h1 : kd = 1
    · subst h1
      rw [if_pos (show hm 67 33 = 2 by rw [t33]; rfl)]
      obtain ⟨hc', hm', kd', s', L', a1, a2, a3, a4, a5, a6, a7, a8, a9, a10⟩ := cz_vend S g h5 h6 (by omega) (by omega) par
      rw [a2, bz_bc, bz_ck (by omega)]
      exact Or.inr ⟨_, hc', hm', kd', s', L', a1, rfl, a3, a4, a5, a6, a7, a8, a9, a10⟩
    · rw [if_neg (show ¬ hm 67 33 = 2 by rw [t33]; split <;> omega)]
      rcases cz_var (x5 := 0) (x6 := 0) S g h5 h6 ha par (by omega) (fun h => h1 h.1) (fun h => by
        rcases hp with h' | h'
        · omega
        · exact h'.2) (Or.inl ⟨h2, rfl⟩) with ⟨w, hc', hm', r1, r2, r3, r4⟩ | ⟨k', hc', hm', kd', s', L', r1, r2, S2, ss, g2, r5, r6, r7⟩
      · exact Or.inl ⟨w, hc', hm', r1, r2, by rw [r3, bz_bc, if_neg (show ¬ ¬ (0 : Int) = 0 by omega), bz_ck (by omega)], r4⟩
      · rw [r1, r2, bz_bc, if_pos (show ¬ (1 : Int) = 0 by omega)]
        rw [if_neg (by omega)] at r5
        have IH := cz_vloop (a := a) n S2 g2 (by rw [r6 _ _ (by omega)]; exact h5) (by rw [r6 _ _ (by omega)]; exact h6) (by rw [r6 _ _ (by omega)]; exact ha) r7 (Or.inl r5) (by rw [r6 _ _ (by omega)]; exact h2) (by omega)
        rw [r6 30 7 (by omega), r6 37 1 (by omega)] at IH
        exact IH.mono (by omega)
theorem cz_vars {k : Nat} {kd s : Int} {L : Nat} {c m q a : Int} (S : cz_S t N T M hc0 hm0 k hc hm kd s L) (g : cz_G t hc hm M c m 0 0 q (-1) s) (h5 : hc 30 5 = 3) (h6 : hc 30 6 = 0) (ha : a = 0 ∧ hc 38 0 = 5 ∨ a = 1 ∧ hc 38 0 = 4) (par : a = 1 → hm 79 (c - 1) = hm 80 (c - 1)) (p0 : hc 38 1 = 0) (h2 : hc 38 2 = -1) : cz_vo t N T M hc0 hm0 c m q a s (hc 30 7) (hc 37 1) (cz_go k hc) (fn_Md_variables 67 (c - 1) a hm) := by
  have e := S.en
  have hM := e.hM
  have wN := e.w.2.1
  obtain ⟨c1, c4, m0, m64, r3, r4, r23, r15, r50, r51, q0, r39, r28⟩ := g.rows
  obtain ⟨v1, v2, v3, v4, v5, v6⟩ := g.vars
  have kk : hc 38 0 = 4 ∨ hc 38 0 = 5 := by omega
  unfold fn_Md_variables fn_Md_variables_60 fn_Md_variables_61
  rw [S.tk.nmM e.w e.tm, bz_bc]
  by_cases nt : cz_nt t kd s L
  · have hw : cz_wd t s L ∧ hm 67 35 = (L : Int) := by
      rcases S.tk.2.2.2.2.2.2 with h | h | h
      · have := nt.1; omega
      · exact ⟨h.2.1, h.2.2.2.2.1⟩
      · have := nt.1; omega
    have kd2 := nt.1
    obtain ⟨r, s1, s2, s3, s4⟩ := cz_slot e.w e.tc e.tm (c := c) hM e.m4 r3 c1 c4 v6 (by omega) v4 g.1.2.2.1 hw.1 S.tk.2.1 S.tk.2.2.1 hw.2
    rw [if_pos nt, if_neg (show ¬ (1 : Int) = 0 by omega), s2, bz_bc, cz_dcl0 e S.tk h5 h6 kk (Or.inl (cz_ntty nt)), if_neg (show ¬ (kd = 1 ∧ hc 38 1 ≠ 1) by omega), if_pos (show hc 38 1 = 0 ∧ cz_nt t kd s L from ⟨p0, nt⟩), s1, bz_bc]
    by_cases hr : r < 0
    · have e1 : cz_en t N T M hc0 hm0 (qz_up hc 38 1 1) hm := e.uc (by omega)
      rw [if_pos hr, if_pos hr, bz_bn, bz_c30_0 e1.tc.1, bz_ck (by omega), bz_bn, bz_bn, S.tk.2.2.1, hw.2, show (qz_up hc 38 1 1) 34 2 = s by rw [cz_un (by omega)]; exact S.tk.2.1]
      have e2 : cz_en t N T M hc0 hm0 (qz_up (qz_up hc 38 1 1) 38 2 s) hm := e1.uc (by omega)
      obtain ⟨hc2, hm2, kd', s', L', n1, n2, S2, ss, Fc, Fm⟩ := cz_adv S (by omega) e2 (by simp (disch := omega) only [cz_un]) (by simp (disch := omega) only [cz_un]) rfl (by simp (disch := omega) only [cz_un]; omega) (by simp (disch := omega) only [cz_un]; omega)
      rw [n1, n2, bz_bc]
      have fc2 : ∀ o i : Int, o ≠ 34 → ¬ (o = 30 ∧ i = 9) → ¬ (o = 38 ∧ (i = 1 ∨ i = 2)) → hc2 o i = hc o i := by
        intro o i x1 x2 x3
        rw [Fc o i (by omega) (by omega)]
        simp (disch := omega) only [cz_un]
      have b1 : hc2 38 1 = 1 := by rw [Fc _ _ (by omega) (by omega)]; simp (disch := omega) only [cz_un, bz_us]
      have b2 : hc2 38 2 = s := by rw [Fc _ _ (by omega) (by omega)]; simp (disch := omega) only [cz_un, bz_us]
      have g2 : cz_G t hc2 hm2 M c m 0 0 q (-1) s' := g.same hM (fun o i h => fc2 o i (by omega) (by omega) (by omega)) (fun o i h => Fm o i (by omega)) (by omega)
      rcases cz_var (x5 := s) (x6 := (L : Int)) S2 g2 (by rw [fc2 _ _ (by omega) (by omega) (by omega)]; exact h5) (by rw [fc2 _ _ (by omega) (by omega) (by omega)]; exact h6) (a := a) (by rw [fc2 _ _ (by omega) (by omega) (by omega)]; exact ha) (fun h => by rw [Fm _ _ (by omega), Fm _ _ (by omega)]; exact par h) (by omega) (by omega) (by omega) (Or.inr ⟨b2, L, rfl, hw.1⟩) with ⟨w, hc', hm', r1, r2, r3, r4⟩ | ⟨k', hc3, hm3, kd3, s3, L3, r1, r2, S3, ss3, g3, r5, r6, r7⟩
      · exact Or.inl ⟨w, hc', hm', r1, r2, by rw [r3, bz_bc, if_pos rfl, bz_ck (by omega)], r4⟩
      · rw [r1, r2, bz_bc, if_neg (show ¬ (1 : Int) = 0 by omega), cz_passM S3.en S3.tk S3.k0 S3.k4]
        rw [if_pos b1] at r5
        have f38 : hc3 38 0 = hc 38 0 := by rw [r6 _ _ (by omega)]; exact fc2 _ _ (by omega) (by omega) (by omega)
        have g5 : hc3 30 5 = 3 := by rw [r6 _ _ (by omega), fc2 _ _ (by omega) (by omega) (by omega)]; exact h5
        have g6 : hc3 30 6 = 0 := by rw [r6 _ _ (by omega), fc2 _ _ (by omega) (by omega) (by omega)]; exact h6
        by_cases h1 : kd3 = 1
        · subst h1
          rw [if_pos rfl]
          obtain ⟨hc', hm', kd', s', L', a1, a2, a3, a4, a5, a6, a7, a8, a9, a10⟩ := cz_vend S3 g3 g5 g6 (by omega) (by omega) r7
          rw [a2, bz_bc, bz_bc, if_neg (show ¬ (1 : Int) = 0 by omega), bz_ck (by omega)]
          refine Or.inr ⟨_, hc', hm', kd', s', L', a1, rfl, by omega, a4, a5, a6, a7, ?_, ?_, a10⟩
          · rw [a8, r6 _ _ (by omega)]; exact fc2 _ _ (by omega) (by omega) (by omega)
          · rw [a9, r6 _ _ (by omega)]; exact fc2 _ _ (by omega) (by omega) (by omega)
        · left
          rw [if_neg h1, bz_bc, if_pos rfl, bz_ck (by omega), cz_dcl0 S3.en S3.tk g5 g6 (by omega) (Or.inr r5), if_neg (by omega), if_neg (fun h => by omega)]
          exact cz_badI S3.en (Or.inl rfl) S3.sm
    · left
      rw [if_neg hr, if_neg hr, cz_fail e.w0, bz_bc, bz_ck (by omega)]
      exact cz_badI e (Or.inl rfl) S.sm
  · rw [if_neg nt, if_pos rfl]
    have s0 := S.tk.2.2.2.2.1
    exact cz_vloop qz_NF S g h5 h6 ha par (Or.inr ⟨p0, nt⟩) h2 (by have : (qz_NF : Int) = 4000 := rfl; omega)
end SC
