/-! A parenthesis in a body, and what stands in a folded instruction. -/
section SC
variable {t : Int → Int} {N T M : Int} {hc0 hm0 hc hm hc' hm' : qz_H}
theorem cz_bb (x : Option qz_R) : (qz_bc x fun r h => some (r, h)) = x := by cases x <;> rfl
theorem cz_goB (e : cz_en t N T M hc0 hm0 hc hm) {d : Int} (d0 : 0 ≤ d) (d9 : d ≤ 10) (h5 : hc 30 5 = d + 2) (h6 : hc 30 6 = 0) (hk : hc (37 + d) 0 = 3 ∨ hc (37 + d) 0 = 8 ∨ hc (37 + d) 0 = 9) (k : Nat) : cz_go k hc = cz_rest k (fn_Reader_inBody 30 (37 + d) hc) := by
  unfold cz_go
  rw [h5, bz_lev e.tc.1 (by omega) (by omega), show 35 + (d + 2) = 37 + d by omega]
  unfold fn_Reader_judge
  rw [if_pos h6, bz_ck (by omega)]
  simp only [qz_swt, cz_bb]
  rcases hk with h | h | h
  · rw [h, if_neg (by omega), if_neg (by omega), if_neg (by omega), if_pos rfl]
  · rw [h, if_neg (by omega), if_neg (by omega), if_neg (by omega), if_neg (by omega), if_neg (by omega), if_neg (by omega), if_neg (by omega), if_neg (by omega)]
  · rw [h, if_neg (by omega), if_neg (by omega), if_neg (by omega), if_neg (by omega), if_neg (by omega), if_neg (by omega), if_neg (by omega), if_neg (by omega)]
theorem cz_goF (e : cz_en t N T M hc0 hm0 hc hm) {d : Int} (d0 : 0 ≤ d) (d9 : d ≤ 10) (h5 : hc 30 5 = d + 2) (h6 : hc 30 6 = 0) (h : hc (37 + d) 0 = 7) (k : Nat) : cz_go k hc = cz_rest k (fn_Reader_inFolded 30 (37 + d) hc) := by
  unfold cz_go
  rw [h5, bz_lev e.tc.1 (by omega) (by omega), show 35 + (d + 2) = 37 + d by omega]
  unfold fn_Reader_judge
  rw [if_pos h6, bz_ck (by omega)]
  simp only [qz_swt, cz_bb]
  rw [h, if_neg (by omega), if_neg (by omega), if_neg (by omega), if_neg (by omega), if_neg (by omega), if_neg (by omega), if_neg (by omega), if_pos rfl]
theorem cz_out.mono {c s s' : Int} {C D : Option qz_R} (h : cz_out t N T M hc0 hm0 c s C D) (hs : s' ≤ s) : cz_out t N T M hc0 hm0 c s' C D := by
  rcases h with h | ⟨k', hc', hm', kd', s2, L', h1, h2, h3, h4⟩
  · exact Or.inl h
  · exact Or.inr ⟨k', hc', hm', kd', s2, L', h1, h2, by omega, h4⟩
theorem cz_G5.kind {d b q e : Int} (g : cz_G5 t hc hm d b q e) : 0 ≤ d ∧ d ≤ 10 ∧ 0 ≤ b ∧ b ≤ d ∧ (b = d → d = 0 ∧ hc (37 + d) 0 = 3 ∨ 1 ≤ d ∧ (hc (37 + d) 0 = 8 ∨ hc (37 + d) 0 = 9)) ∧ (b < d → hc (37 + d) 0 = 7) := by
  obtain ⟨p1, p2, p3, p4, p5, p6, p7, p8, p9, p10, p11⟩ := g
  refine ⟨by omega, p4, p2, p3, fun h => ?_, fun h => ?_⟩
  · by_cases hd : d = 0
    · left
      rw [hd]
      exact ⟨rfl, p6⟩
    · right
      have z := (p9 (d - 1) (by omega) (by omega)).2.1
      rw [show 38 + (d - 1) = 37 + d by omega] at z
      omega
  · have z := (p10 (d - 1) (by omega) (by omega)).2.1
    rw [show 38 + (d - 1) = 37 + d by omega] at z
    exact z
theorem cz_opf1 {k : Nat} {s : Int} {L : Nat} {c m d b q : Int} (S : cz_S t N T M hc0 hm0 k hc hm 0 s L) (g : cz_G t hc hm M c m d b q (-1) s) (h5 : hc 30 5 = d + 2) (h6 : hc 30 6 = 0) (h7 : hc 30 7 = -2) (ph : b = d → hc (37 + d) 1 = 4 ∨ hc (37 + d) 1 = 3 ∧ 1 ≤ d) : cz_out t N T M hc0 hm0 c s (cz_rest k (fn_Reader_open 30 hc)) (qz_bc (fn_Md_open 67 hm) fun r12 h13 => if r12 = 0 then some (0, h13) else fn_Md_fold 67 (c - 1) h13) := by
  have e := S.en
  have hM := e.hM
  obtain ⟨d0, d10, b0, bd, kk, kf⟩ := g.2.1.kind
  rw [cz_openC e h5 (by omega) (by omega), cz_openM e g.2.1.1 d0 d10]
  by_cases h9 : d ≤ 9
  · rw [if_pos (by omega), if_pos h9]
    have e1 : cz_en t N T M hc0 hm0 (cz_lv hc (d + 2) 1) hm := e.fC (fun o i h => cz_lv_un (by omega) (by omega))
    obtain ⟨hc2, hm2, kd', s', L', n1, n2, S2, ss, Fc, Fm⟩ := cz_adv S (by omega) e1 (cz_lv_un (by omega) (by omega)) (cz_lv_un (by omega) (by omega)) rfl (by rw [cz_lv_5 (by omega)]; omega) (by rw [cz_lv_5 (by omega)]; omega)
    rw [n1, n2, bz_bc, bz_bc, if_neg (show ¬ (1 : Int) = 0 by omega)]
    obtain ⟨z0, z1, z2, z3, z4⟩ := cz_lv_k (hc := hc) (x := d + 2) (k := 1)
    rw [show 36 + (d + 2) = 38 + d by omega] at z0 z1 z2 z3 z4
    have fc2 : ∀ o i : Int, o ≠ 34 → o ≠ 30 → o ≠ 38 + d → hc2 o i = hc o i := by
      intro o i x1 x2 x3
      rw [Fc o i (by omega) (by omega)]
      exact cz_lv_un (by omega) (by omega)
    have a5 : hc2 30 5 = d + 3 := by
      rw [Fc _ _ (by omega) (by omega), cz_lv_5 (by omega)]; omega
    have a6 : hc2 30 6 = 0 := by
      rw [Fc _ _ (by omega) (by omega), cz_lv_un (by omega) (by omega)]; exact h6
    have a7 : hc2 30 7 = -2 := by
      rw [Fc _ _ (by omega) (by omega), cz_lv_un (by omega) (by omega)]; exact h7
    have y0 : hc2 (38 + d) 0 = 1 := by rw [Fc _ _ (by omega) (by omega)]; exact z0
    have y4 : hc2 (38 + d) 4 = 0 := by rw [Fc _ _ (by omega) (by omega)]; exact z4
    have w0 : hc2 (37 + d) 0 = hc (37 + d) 0 := fc2 _ _ (by omega) (by omega) (by omega)
    have w1 : hc2 (37 + d) 1 = hc (37 + d) 1 := fc2 _ _ (by omega) (by omega) (by omega)
    have g2 : cz_G t hc2 hm2 M c m d b q (-1) s' := g.same hM (fun o i h => fc2 o i (by omega) (by omega) (by omega)) (fun o i h => Fm o i (by omega)) (by omega)
    by_cases hb : b = d
    · rw [cz_behind S2.en d0 h9 a5 a6 y0 (p := 1) (Or.inr ⟨by rw [w0]; have := kk hb; omega, rfl, by rw [w0, w1]; have := kk hb; have := ph hb; omega⟩), if_neg (by omega)]
      refine (cz_fold (m := m) (b := b) (q := q) (S2.fC (fun o i h => cz_un (by omega)) (fun i _ _ => cz_un (by omega)) (cz_un (by omega))) (g2.same hM (fun o i h => cz_un (by omega)) (fun o i h => rfl) (Int.le_refl _)) h9 (by rw [cz_un (by omega)]; exact a5) (by rw [cz_un (by omega)]; exact a6) (by rw [cz_un (by omega)]; exact a7) (by rw [cz_un (by omega)]; exact y4) (fun _ => bz_us _ _ _ _)).mono (by omega)
    · rw [cz_behind S2.en d0 h9 a5 a6 y0 (p := 0) (Or.inl ⟨by rw [w0]; exact kf (by omega), rfl⟩), if_pos rfl]
      exact (cz_fold S2 g2 h9 a5 a6 a7 y4 (fun h => absurd h hb)).mono (by omega)
  · left
    rw [if_neg (by omega), if_neg h9, bz_bc, if_pos rfl]
    exact cz_badI e (by omega) S.sm
theorem cz_opf {k : Nat} {s : Int} {L : Nat} {c m d b q : Int} (S : cz_S t N T M hc0 hm0 k hc hm 0 s L) (g : cz_G t hc hm M c m d b q (-1) s) (h5 : hc 30 5 = d + 2) (h6 : hc 30 6 = 0) (h7 : b < d → hc 30 7 = -2) (ph : b = d → hc (37 + d) 1 = 4 ∨ hc (37 + d) 1 = 3 ∧ 1 ≤ d) : cz_out t N T M hc0 hm0 c s (cz_go k hc) (qz_bc (fn_Md_open 67 hm) fun r12 h13 => if r12 = 0 then some (0, h13) else fn_Md_fold 67 (c - 1) h13) := by
  have e := S.en
  have hM := e.hM
  obtain ⟨d0, d10, b0, bd, kk, kf⟩ := g.2.1.kind
  by_cases hb : b = d
  · rw [cz_goB e d0 d10 h5 h6 (by have := kk hb; omega)]
    have e1 : cz_en t N T M hc0 hm0 (qz_up hc 30 7 (-2)) hm := e.uc (by omega)
    unfold fn_Reader_inBody
    rw [bz_bn, bz_ck (by omega), bz_bn, bz_c30_0 e1.tc.1, bz_ck (by omega), show (qz_up hc 30 7 (-2)) 34 1 = 0 by rw [cz_un (by omega)]; exact S.tk.1, if_neg (by omega), cz_bb]
    exact cz_opf1 (m := m) (b := b) (q := q) (S.fC (fun o i h => cz_un (by omega)) (fun i _ _ => cz_un (by omega)) (cz_un (by omega))) (g.same hM (fun o i h => cz_un (by omega)) (fun o i h => rfl) (Int.le_refl _)) (by rw [cz_un (by omega)]; exact h5) (by rw [cz_un (by omega)]; exact h6) (bz_us _ _ _ _) (fun h => by rw [cz_un (by omega)]; exact ph h)
  · rw [cz_goF e d0 d10 h5 h6 (kf (by omega))]
    unfold fn_Reader_inFolded
    rw [bz_c30_0 e.tc.1, bz_ck (by omega), S.tk.1, if_neg (by omega), cz_bb]
    exact cz_opf1 S g h5 h6 (h7 (by omega)) ph
theorem cz_inFold {k : Nat} {kd s : Int} {L : Nat} {c m d b q : Int} (S : cz_S t N T M hc0 hm0 k hc hm kd s L) (g : cz_G t hc hm M c m d b q (-1) s) (bd : b < d) (h5 : hc 30 5 = d + 2) (h6 : hc 30 6 = 0) (h7 : hc 30 7 = -2) : cz_out t N T M hc0 hm0 c s (cz_go k hc) (fn_Md_inFold 67 (c - 1) hm) := by
  have e := S.en
  have hM := e.hM
  obtain ⟨d0, d10, b0, _, kk, kf⟩ := g.2.1.kind
  have tk := S.tk
  have k0 := S.k0
  have k4 := S.k4
  have t33 := tk.2.2.2.1
  unfold fn_Md_inFold
  by_cases h0 : kd = 0
  · rw [h0] at S t33
    rw [if_neg (show ¬ ¬ hm 67 33 = 1 by rw [t33]; simp)]
    have R := cz_opf S g h5 h6 (fun _ => h7) (fun h => by omega)
    unfold fn_Md_inFold_27 fn_Md_inFold_28
    rcases R with ⟨w, hc', hm', r1, r2, r3, r4⟩ | ⟨k', hc', hm', kd', s', L', r1, r2, r3, r4⟩
    · left
      refine ⟨w, hc', hm', r1, r2, ?_, r4⟩
      cases hO : fn_Md_open 67 hm with
      | none => rw [hO] at r3; simp [qz_bc] at r3
      | some p =>
        obtain ⟨r, h⟩ := p
        rw [hO, bz_bc] at r3
        rw [bz_bc]
        by_cases hr : r = 0
        · rw [if_pos hr] at r3 ⊢
          rw [bz_ck (by omega)]; exact r3
        · rw [if_neg hr] at r3 ⊢
          rw [r3, bz_bc, if_pos rfl, bz_ck (by omega)]
    · right
      refine ⟨k', hc', hm', kd', s', L', r1, ?_, r3, r4⟩
      cases hO : fn_Md_open 67 hm with
      | none => rw [hO] at r2; simp [qz_bc] at r2
      | some p =>
        obtain ⟨r, h⟩ := p
        rw [hO, bz_bc] at r2
        rw [bz_bc]
        by_cases hr : r = 0
        · rw [if_pos hr] at r2
          simp at r2
        · rw [if_neg hr] at r2 ⊢
          rw [r2, bz_bc, if_neg (by omega), bz_ck (by omega)]
  · rw [if_pos (show ¬ hm 67 33 = 1 by rw [t33]; split <;> omega), cz_goF e d0 d10 h5 h6 (kf bd)]
    unfold fn_Reader_inFolded fn_Reader_inFolded_54
    rw [bz_c30_0 e.tc.1, bz_ck (by omega), tk.1, if_pos h0, bz_ck (by omega)]
    by_cases h1 : kd = 1
    · rw [if_pos h1, if_pos (show hm 67 33 = 2 by rw [t33, if_neg (by omega)]; omega), bz_ck (by omega), bz_ck (by omega), e.m4, bz_ck (by omega), cz_room e]
      obtain ⟨gH, g5, gq⟩ := g
      have c1 : 1 ≤ c := gH.2.2.2.2.2
      obtain ⟨a1, a2, a3, a4, a5, a6, a7, a8, a9⟩ := gH.1
      have g4 := gH.2.2.2.1
      obtain ⟨l1, l2, l3, l4, l5⟩ := g5.2.2.2.2.2.2.2.2.2.1 (d - 1) (by omega) (by omega)
      rw [show 38 + (d - 1) = 37 + d by omega] at l2 l3 l4 l5
      have gf := a9 (c - 1) (by omega) (by omega)
      have y5 := gf.2.2.2.2 (by omega)
      have y83 := gf.2.1
      have y83' := gf.2.2.1
      rw [show M + 4 + 2 * (c - 1) = M + 2 + 2 * c by omega] at y5
      rw [cz_add e a1 c1 a4 a5 a7 (by have := l3.2.1; omega) (by omega) (by omega), a6]
      have m39 := g5.1
      by_cases h64 : m < 64
      · rw [if_pos h64, if_pos h64, bz_bc, bz_bc, if_neg (show ¬ (1 : Int) = 0 by omega), if_pos (show ¬ (1 : Int) = 0 by omega)]
        rw [cz_close (x := d + 2) (by simp (disch := omega) only [cz_un]; exact h5) (by omega) (by omega), bz_bc, show d + 2 - 1 = d + 1 by omega, bz_ck (by omega), m39, bz_w (by omega) (by omega), bz_bn]
        have em : cz_en t N T M hc0 hm0 hc (qz_up hm 67 39 (d - 1)) := e.um (by omega)
        have Lm := em.tm.1
        have q99 : hm 99 (d - 1) ≤ 99 ∧ -1 ≤ hm 99 (d - 1) := by
          rw [if_pos rfl] at gq
          rcases l5 with l5 | l5
          · omega
          · omega
        rw [bz_us, bz_m67_46 Lm, bz_m67_40 Lm, bz_m67_45 Lm, bz_m99_m1 Lm, bz_m93_m1 Lm, bz_m98_m1 Lm, bz_ck (by omega), bz_ck (by omega), bz_ck (by omega), bz_ck (by omega), bz_ck (by omega), bz_ck (by omega), cz_un (show ¬ ((93 : Int) = 67 ∧ d - 1 = 39) by omega), cz_un (show ¬ ((98 : Int) = 67 ∧ d - 1 = 39) by omega), cz_un (show ¬ ((99 : Int) = 67 ∧ d - 1 = 39) by omega), cz_emit em (m := m) (by rw [cz_un (by omega)]; exact a6) a7 h64, bz_bc]
        have em2 : cz_en t N T M hc0 hm0 hc (qz_up (qz_up (qz_up (qz_up hm 67 39 (d - 1)) 84 m (hm 93 (d - 1))) 85 m (hm 98 (d - 1))) 67 23 (m + 1)) := ((em.um (by omega)).um (by omega)).um (by omega)
        rw [cz_note em2 q99.2 q99.1, bz_bc]
        generalize hY : qz_up (qz_up (qz_up (qz_up hm 67 39 (d - 1)) 84 m (hm 93 (d - 1))) 85 m (hm 98 (d - 1))) 67 23 (m + 1) = Y at em2 ⊢
        generalize hX : qz_up (qz_up (qz_up (qz_up (qz_up hc (M + 2) m (hc (37 + d) 3)) (M + 3) m (hc (37 + d) 4)) M 4 (m + 1)) (M + 2 + 2 * c) 5 (hc (M + 2 + 2 * c) 5 + 1)) 30 5 (d + 1) = X
        have x_ : ∀ o i : Int, ¬ ((o = M + 2 ∨ o = M + 3) ∧ i = m) → ¬ (o = M ∧ i = 4) → ¬ (o = M + 2 + 2 * c ∧ i = 5) → ¬ (o = 30 ∧ i = 5) → X o i = hc o i := by
          intro o i n1 n2 n3 n4
          rw [← hX]; simp (disch := omega) only [cz_un]
        have x1 : X (M + 2) m = hc (37 + d) 3 := by rw [← hX]; simp (disch := omega) only [cz_un, bz_us]
        have x2 : X (M + 3) m = hc (37 + d) 4 := by rw [← hX]; simp (disch := omega) only [cz_un, bz_us]
        have x3 : X M 4 = m + 1 := by rw [← hX]; simp (disch := omega) only [cz_un, bz_us]
        have x4 : X (M + 2 + 2 * c) 5 = hc (M + 2 + 2 * c) 5 + 1 := by rw [← hX]; simp (disch := omega) only [cz_un, bz_us]
        have x5 : X 30 5 = d + 1 := by rw [← hX]; simp (disch := omega) only [cz_un, bz_us]
        have y_ : ∀ o i : Int, ¬ ((o = 84 ∨ o = 85) ∧ i = m) → ¬ (o = 67 ∧ (i = 39 ∨ i = 23)) → Y o i = hm o i := by
          intro o i n1 n2
          rw [← hY]; simp (disch := omega) only [cz_un]
        have y1 : Y 84 m = hm 93 (d - 1) := by rw [← hY]; simp (disch := omega) only [cz_un, bz_us]
        have y2 : Y 85 m = hm 98 (d - 1) := by rw [← hY]; simp (disch := omega) only [cz_un, bz_us]
        have y3 : Y 67 23 = m + 1 := by rw [← hY]; simp (disch := omega) only [cz_un, bz_us]
        have y4 : Y 67 39 = d - 1 := by rw [← hY]; simp (disch := omega) only [cz_un, bz_us]
        have eX : cz_en t N T M hc0 hm0 X Y := em2.fC (fun o i h => x_ o i (by omega) (by omega) (by omega) (by omega))
        have k5 := hm 99 (d - 1)
        have eZ : cz_en t N T M hc0 hm0 X (if hm 99 (d - 1) < 0 then Y else qz_up Y 92 (hm 99 (d - 1)) m) := by
          split
          · exact eX
          · exact eX.um (by omega)
        have z32 : (if hm 99 (d - 1) < 0 then Y else qz_up Y 92 (hm 99 (d - 1)) m) 67 32 = hm 67 32 := by
          split
          · exact y_ _ _ (by omega) (by omega)
          · rw [cz_un (by omega)]; exact y_ _ _ (by omega) (by omega)
        obtain ⟨hc2, hm2, kd', s', L', n1, n2, S2, ss, Fc, Fm⟩ := cz_adv S (by omega) eZ (x_ _ _ (by omega) (by omega) (by omega) (by omega)) (x_ _ _ (by omega) (by omega) (by omega) (by omega)) z32 (by omega) (by omega)
        rw [n1, n2, bz_bc, bz_ck (by omega)]
        right
        have e12 : cz_o30 = cz_o30 := rfl
        obtain ⟨j, hj, hjx⟩ : ∃ j : Nat, j < 30 ∧ hc (37 + d) 3 = -((j : Int) + 1) := ⟨(-(hc (37 + d) 3) - 1).toNat, by have := l3.1; have := l3.2.1; omega, by have := l3.1; have := l3.2.1; omega⟩
        have np := l3.2.2
        have dl : bz_dl (hm 93 (d - 1)) = 0 := by
          unfold bz_dl
          rw [l4, if_neg (by omega), if_neg (by omega)]
        have fcX : ∀ o i : Int, (o = M ∨ M + 2 ≤ o ∧ o ≤ M + 11 ∨ o = 32 ∨ o = 33 ∨ 35 ≤ o ∧ o ≤ 47) → hc2 o i = X o i := fun o i h => Fc o i (by omega) (by omega)
        refine ⟨_, _, _, _, _, _, rfl, rfl, ss, m + 1, d - 1, b, q, S2, ⟨?_, ?_, by rw [if_pos rfl] at gq ⊢; omega⟩, by rw [Fc _ _ (by omega) (by omega), x5]; omega, by rw [Fc _ _ (by omega) (by omega), x_ _ _ (by omega) (by omega) (by omega) (by omega)]; exact h6, Or.inl (by rw [Fc _ _ (by omega) (by omega), x_ _ _ (by omega) (by omega) (by omega) (by omega)]; exact h7), fun hbd => Or.inl (by rw [fcX _ _ (by omega), x_ _ _ (by omega) (by omega) (by omega) (by omega)]; exact g5.2.2.2.2.2.2.2.2.2.2.1 (d - 1) (by omega) (by omega) (by omega))⟩
        · rcases l5 with ⟨q1, q2, q3⟩ | ⟨q1, q2, q3, q4, q5⟩
          · have w_ : ∀ o i : Int, 79 ≤ o ∧ o ≤ 99 ∨ o = 67 ∧ (i < 32 ∨ 37 < i) → hm2 o i = Y o i := by
              intro o i h
              rw [Fm o i (by omega), if_pos (by omega)]
            have := gH.rowV (hc' := hc2) (hm' := hm2) hM h64 (fun o i n1 n2 n3 n4 => by rw [fcX o i (by omega)]; exact x_ o i n2 n3 n4 (by omega)) (by rw [fcX _ _ (by omega)]; exact x3) (by rw [fcX _ _ (by omega)]; exact x4) (fun o i n1 n2 n3 => by rw [w_ o i (by omega)]; exact y_ o i n3 (by omega)) (by rw [w_ _ _ (by omega)]; exact y_ _ _ (by omega) (by omega)) (by rw [w_ _ _ (by omega)]; exact y3) (by rw [w_ _ _ (by omega)]; exact y_ _ _ (by omega) (by omega)) (by rw [fcX _ _ (by omega), x1]; have := l3.1; have := l3.2.1; omega) (by rw [w_ _ _ (by omega), fcX _ _ (by omega), x1, y1]; exact l4) (by rw [fcX _ _ (by omega), w_ _ _ (by omega), x2, y2]; exact q2) (by rw [fcX _ _ (by omega), w_ _ _ (by omega), x1, y2]; exact q3) (by rw [w_ _ _ (by omega), y1]; omega) (by rw [w_ _ _ (by omega), y1]; omega) (u' := s') (by omega)
            rw [w_ _ _ (by omega), y1, dl, Int.add_zero] at this
            exact this
          · have w_ : ∀ o i : Int, 79 ≤ o ∧ o ≤ 99 ∨ o = 67 ∧ (i < 32 ∨ 37 < i) → hm2 o i = (qz_up Y 92 (hm 99 (d - 1)) m) o i := by
              intro o i h
              rw [Fm o i (by omega), if_neg (by omega)]
            refine gH.rowC (hc' := hc2) (hm' := hm2) hM h64 q2 q3 q4 (fun o i n1 n2 n3 n4 => by rw [fcX o i (by omega)]; exact x_ o i n2 n3 n4 (by omega)) (by rw [fcX _ _ (by omega)]; exact x3) (by rw [fcX _ _ (by omega)]; exact x4) (fun o i n1 n2 n3 n4 => by rw [w_ o i (by omega), cz_un n4]; exact y_ o i n3 (by omega)) (by rw [w_ _ _ (by omega), cz_un (by omega)]; exact y_ _ _ (by omega) (by omega)) (by rw [w_ _ _ (by omega), cz_un (by omega)]; exact y3) (by rw [w_ _ _ (by omega), cz_un (by omega)]; exact y_ _ _ (by omega) (by omega)) (by rw [fcX _ _ (by omega), x1]; exact q1) (by rw [w_ _ _ (by omega), cz_un (by omega), y1, l4, q1]; decide +kernel) (by rw [fcX _ _ (by omega), x2]; exact q5) (by rw [w_ _ _ (by omega), bz_us]) (u' := s') (by omega)
        · have g5' : cz_G5 t hc2 (qz_up hm 67 39 (d - 1)) (d - 1) b q (hm 99 (d - 1)) := g5.popF bd (fun o i n1 n2 => by rw [fcX _ _ (by omega)]; exact x_ _ _ (by omega) (by omega) (by omega) (by omega)) (bz_us _ _ _ _) (fun o i n1 n2 => cz_un (by omega))
          rcases l5 with ⟨q1, q2, q3⟩ | ⟨q1, q2, q3, q4, q5⟩
          · rw [q1] at g5'
            refine g5'.same (fun o i _ _ _ => rfl) ?_ (fun o i n1 n2 => ?_)
            · rw [Fm _ _ (by omega), if_pos (by omega), y4, bz_us]
            · rw [Fm _ _ (by omega), if_pos (by omega), y_ _ _ (by omega) (by omega), cz_un (by omega)]
          · refine g5'.res q2 (fun o i _ _ _ => rfl) ?_ (fun o i n1 n2 n3 => ?_) ?_
            · rw [Fm _ _ (by omega), if_neg (by omega), cz_un (by omega), y4, bz_us]
            · rw [Fm _ _ (by omega), if_neg (by omega), cz_un n3, y_ _ _ (by omega) (by omega), cz_un (by omega)]
            · rw [Fm _ _ (by omega), if_neg (by omega), bz_us]; omega
      · left
        rw [if_neg h64, if_neg h64, bz_bc, bz_bc, if_pos rfl, if_neg (show ¬ ¬ (0 : Int) = 0 by omega), bz_ck (by omega)]
        exact cz_badI e (by omega) S.sm
    · left
      rw [if_neg h1, if_neg (show ¬ hm 67 33 = 2 by rw [t33]; split <;> omega), cz_fail e.w0, bz_bc, bz_ck (by omega)]
      exact cz_badI e (by omega) S.sm
end SC
