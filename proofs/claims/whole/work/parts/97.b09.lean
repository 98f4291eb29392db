/-! A folded instruction: both readers side by side. -/
section SC
variable {t : Int → Int} {N T M : Int} {hc0 hm0 hc hm hc' hm' : qz_H}
theorem cz_S.sm {k : Nat} {kd s : Int} {L : Nat} (S : cz_S t N T M hc0 hm0 k hc hm kd s L) : hc 30 9 = hm 67 34 := by
  rw [S.st]; exact S.tk.2.2.1.symm
theorem cz_kq0 : ∀ j : Nat, j < 30 → kz_dt (-((j : Int) + 1)) 2 = 0 → cz_vl (-((j : Int) + 1)) 0 := by
  intro j hj h
  refine ⟨by omega, by omega, fun _ => rfl, fun h' => by omega, fun h' => by omega, fun h' => by omega⟩
theorem cz_fold {k : Nat} {kd s : Int} {L : Nat} {c m d b q : Int} (S : cz_S t N T M hc0 hm0 k hc hm kd s L) (g : cz_G t hc hm M c m d b q (-1) s) (d9 : d ≤ 9) (h5 : hc 30 5 = d + 3) (h6 : hc 30 6 = 0) (h7 : hc 30 7 = -2) (l4 : hc (38 + d) 4 = 0) (ph : b = d → hc (37 + d) 1 = 4) : cz_out t N T M hc0 hm0 c s (cz_rest k (fn_Reader_beginFolded 30 (38 + d) hc)) (fn_Md_fold 67 (c - 1) hm) := by
  have e := S.en
  have hM := e.hM
  have c1 : 1 ≤ c := g.1.2.2.2.2.2
  have c4 : c ≤ 4 := g.1.1.2.2.2.1
  have q0 : 0 ≤ q := g.1.2.2.2.1.2.1
  obtain ⟨iw, ho⟩ := e.op S.tk
  have d0 : 0 ≤ d := by have := g.2.1.2.1; have := g.2.1.2.2.1; omega
  rcases ho with ⟨h0, hx⟩ | ⟨j, hj, hop, kd2, nn, i0, i30, hcd⟩
  · left
    have D : fn_Md_fold 67 (c - 1) hm = some (0, qz_up hm 67 38 1) := by
      unfold fn_Md_fold fn_Md_fold_21
      rw [iw, bz_bc, bz_bn, hx, if_pos (by omega), cz_fail e.w0, bz_bc, bz_ck (by omega)]
    have C : fn_Reader_beginFolded 30 (38 + d) hc = some (1, hc) := by
      unfold fn_Reader_beginFolded fn_Reader_beginFolded_19
      rw [bz_c30_0 e.tc.1, bz_ck (by omega), h0, bz_bn, if_pos rfl]
    rw [D, C]
    exact cz_badI e (by omega) S.sm
  · rw [hop] at hcd iw i0 i30
    rw [cz_foldM e.tm.1 iw i0 i30, cz_folC e d0 d9 hj hop, hcd]
    by_cases hp : 2 ≤ kz_dt (-((j : Int) + 1)) 1 ∧ kz_dt (-((j : Int) + 1)) 1 ≤ 5 ∨ kz_dt (-((j : Int) + 1)) 1 = 11
    · left
      rw [if_pos hp, if_pos hp]
      unfold fn_Md_fold_21
      rw [cz_fail e.w0, bz_bc, bz_ck (by omega)]
      exact cz_badI e (by omega) S.sm
    · rw [if_neg hp, if_neg hp, cz_RI_eq, g.2.1.1]
      have o30 := cz_o30 j hj
      have op1 := o30.1
      have e1 : cz_en t N T M hc0 hm0 (qz_up (qz_up (qz_up hc (38 + d) 0 7) (38 + d) 3 (-((j : Int) + 1))) 30 6 (if kz_dt (-((j : Int) + 1)) 2 = 0 ∨ kz_dt (-((j : Int) + 1)) 2 = 1 then 0 else 1)) (qz_up (qz_up hm 67 47 0) 67 48 (-1)) := ((((e.uc (by omega)).uc (by omega)).uc (by omega)).um (by omega)).um (by omega)
      obtain ⟨hc2, hm2, kd', s', L', n1, n2, S2, ss, Fc, Fm⟩ := cz_adv S (by omega) e1 (by simp (disch := omega) only [cz_un]) (by simp (disch := omega) only [cz_un]) (by simp (disch := omega) only [cz_un]) (by simp (disch := omega) only [cz_un]; omega) (by simp (disch := omega) only [cz_un]; omega)
      rw [n1, n2, bz_bc]
      have fc2 : ∀ o i : Int, o ≠ 34 → o ≠ 30 → o ≠ 38 + d → hc2 o i = hc o i := by
        intro o i x1 x2 x3
        rw [Fc o i (by omega) (by omega)]
        simp (disch := omega) only [cz_un]
      have a5 : hc2 30 5 = d + 3 := by
        rw [Fc _ _ (by omega) (by omega)]
        simp (disch := omega) only [cz_un]
        exact h5
      have a7 : hc2 30 7 = -2 := by
        rw [Fc _ _ (by omega) (by omega)]
        simp (disch := omega) only [cz_un]
        exact h7
      have a6 : hc2 30 6 = (if kz_dt (-((j : Int) + 1)) 2 = 0 ∨ kz_dt (-((j : Int) + 1)) 2 = 1 then 0 else 1) := by
        rw [Fc _ _ (by omega) (by omega), bz_us]
      have b0 : hc2 (38 + d) 0 = 7 := by
        rw [Fc _ _ (by omega) (by omega)]
        simp (disch := omega) only [cz_un, bz_us]
      have b3 : hc2 (38 + d) 3 = -((j : Int) + 1) := by
        rw [Fc _ _ (by omega) (by omega)]
        simp (disch := omega) only [cz_un, bz_us]
      have b4 : hc2 (38 + d) 4 = 0 := by
        rw [Fc _ _ (by omega) (by omega)]
        simp (disch := omega) only [cz_un, bz_us]
        exact l4
      have m47 : hm2 67 47 = 0 := by
        rw [Fm _ _ (by omega)]
        simp (disch := omega) only [cz_un, bz_us]
      have m48 : hm2 67 48 = -1 := by
        rw [Fm _ _ (by omega)]
        simp (disch := omega) only [cz_un, bz_us]
      have fm2 : ∀ o i : Int, ¬ (o = 67 ∧ (32 ≤ i ∧ i ≤ 37 ∨ i = 47 ∨ i = 48)) → hm2 o i = hm o i := by
        intro o i x1
        rw [Fm o i (by omega)]
        simp (disch := omega) only [cz_un]
      have h70 : hm2 70 (cz_ix (-((j : Int) + 1))) = kz_dt (-((j : Int) + 1)) 1 := by rw [fm2 _ _ (by omega)]; exact hcd
      by_cases h2 : kz_dt (-((j : Int) + 1)) 2 = 0 ∨ kz_dt (-((j : Int) + 1)) 2 = 1
      · -- no operand
        rw [cz_RI0 _ _ hj h2]
        rw [if_pos h2] at a6
        rw [bz_bc, if_pos (show ¬ (1 : Int) = 0 by omega)]
        obtain ⟨h, r1, r2⟩ := cz_foldF g d9 ph hj hp i0 i30 S2 ss h70 fc2 a5 a6 a7 b0 b3 b4 (Or.inl ⟨cz_kq0 j hj (by omega), m47, m48, fm2⟩)
        exact Or.inr ⟨_, _, _, _, _, _, rfl, r1, ss, r2⟩
      · rw [if_neg h2] at a6
        have o2 : 2 ≤ kz_dt (-((j : Int) + 1)) 2 := by
          have := o30.2.2.2.2.2.2.2.2.2.2.1
          omega
        have eC : cz_en t N T M hc0 hm0 (qz_up hc2 30 6 0) hm2 := S2.en.uc (by omega)
        have tC : cz_tk t N (qz_up hc2 30 6 0) hm2 kd' s' L' := S2.tk.fC (fun i _ _ => cz_un (by omega))
        rw [cz_inOpF S2.en S2.tk d0 d9 a5 a6 b0 hj b3]
        have R := cz_opdG g eC tC m48 hj o2 (fun o i x => by rw [cz_un (by omega)]; exact fc2 o i (by omega) (by omega) (by omega)) (fun o i x => fm2 o i (by omega)) (Or.inr ⟨d9, by rw [cz_un (by omega)]; exact a5, by rw [cz_un (by omega)]; exact b0⟩)
        rcases R with ⟨hm3, r1, r2, r3⟩ | ⟨k2, hc3, hm3, v, r1, r2, r3, r4, r5⟩
        · left
          rw [r1, bz_bc, if_neg (show ¬ ¬ (0 : Int) = 0 by omega)]
          have e3 : cz_en t N T M hc0 hm0 (qz_up hc2 30 6 0) hm3 := eC.fM (fun o i x => r2 o i (by omega))
          have sm : (qz_up hc2 30 6 0) 30 9 = hm3 67 34 := by rw [cz_un (by omega), r2 _ _ (by omega)]; exact S2.sm
          rcases r3 with r3 | ⟨hc3, r3, r4⟩
          · rw [if_pos r3]
            exact cz_badI e3 (by omega) sm
          · by_cases k2 : kd' = 2
            · rw [if_neg (show ¬ ¬ kd' = 2 by omega), r3, bz_bc, if_neg (show ¬ ¬ (0 : Int) = 0 by omega)]
              exact cz_badI (e3.fC (fun o i x => r4 o i (by omega) (by omega))) (by omega) (by rw [r4 _ _ (by omega) (by omega)]; exact sm)
            · rw [if_pos k2]
              exact cz_badI e3 (by omega) sm
        · rw [if_neg (show ¬ ¬ kd' = 2 by omega), r1, bz_bc, if_pos (show ¬ (1 : Int) = 0 by omega)]
          have eD : cz_en t N T M hc0 hm0 (qz_up hc3 (38 + d) 4 (hc3 30 8)) hm3 := by
            refine cz_en.fM (cz_en.uc (cz_en.fC eC (fun o i x => r2 o i (by omega) (by omega))) (by omega)) (fun o i x => ?_)
            rcases r5 with r5 | r5
            · exact r5.2.2.2 o i (by omega)
            · exact r5.2.2.2.2.2.2.2.2.2 o i (by omega) (by omega)
          have m32 : hm3 67 32 = hm2 67 32 := by
            rcases r5 with r5 | r5
            · exact r5.2.2.2 _ _ (by omega)
            · exact r5.2.2.2.2.2.2.2.2.2 _ _ (by omega) (by omega)
          obtain ⟨hc4, hm4, kd4, s4, L4, n3, n4, S4, ss4, Fc4, Fm4⟩ := cz_adv S2 (by omega) eD (by rw [cz_un (by omega), r2 _ _ (by omega) (by omega), cz_un (by omega)]) (by rw [cz_un (by omega), r2 _ _ (by omega) (by omega), cz_un (by omega)]) m32 (by rw [cz_un (by omega), r2 _ _ (by omega) (by omega), cz_un (by omega)]; omega) (by rw [cz_un (by omega), r2 _ _ (by omega) (by omega), cz_un (by omega)]; omega)
          rw [n3, r4, n4, bz_bc, bz_bc, if_pos (show ¬ (1 : Int) = 0 by omega)]
          have fc4 : ∀ o i : Int, o ≠ 34 → o ≠ 30 → ¬ (o = 38 + d ∧ i = 4) → hc4 o i = hc2 o i := by
            intro o i x1 x2 x3
            rw [Fc4 o i (by omega) (by omega), cz_un (by omega), r2 _ _ (by omega) (by omega), cz_un (by omega)]
          have y30 : ∀ i : Int, i ≠ 8 → i ≠ 9 → hc4 30 i = (qz_up hc2 30 6 0) 30 i := by
            intro i x1 x2
            rw [Fc4 _ _ (by omega) (by omega), cz_un (by omega), r2 _ _ (by omega) (by omega)]
          obtain ⟨h, z1, z2⟩ := cz_foldF (v := v) g d9 ph hj hp i0 i30 S4 (by omega) (by rw [Fm4 _ _ (by omega)]; rcases r5 with r5 | r5
                                                                                         · rw [r5.2.2.2 _ _ (by omega)]; exact h70
                                                                                         · rw [r5.2.2.2.2.2.2.2.2.2 _ _ (by omega) (by omega)]; exact h70) (fun o i x1 x2 x3 => by rw [fc4 o i x1 x2 (by omega)]; exact fc2 o i x1 x2 x3) (by rw [y30 _ (by omega) (by omega), cz_un (by omega)]; exact a5) (by rw [y30 _ (by omega) (by omega), bz_us]) (by rw [y30 _ (by omega) (by omega), cz_un (by omega)]; exact a7) (by rw [fc4 _ _ (by omega) (by omega) (by omega)]; exact b0) (by rw [fc4 _ _ (by omega) (by omega) (by omega)]; exact b3) (by rw [Fc4 _ _ (by omega) (by omega), bz_us]; exact r3) (by
            rcases r5 with ⟨v1, v2, v3, v4⟩ | ⟨v1, v2, v3, v4, v5, v6, v7, v8, v9, v10⟩
            · exact Or.inl ⟨v1, by rw [Fm4 _ _ (by omega)]; exact v2, by rw [Fm4 _ _ (by omega)]; exact v3, fun o i x => by rw [Fm4 _ _ (by omega), v4 _ _ (by omega)]; exact fm2 _ _ (by omega)⟩
            · exact Or.inr ⟨v1, s', L', v2, by omega, by omega, v3, by rw [Fm4 _ _ (by omega)]; exact v4, by rw [Fm4 _ _ (by omega)]; exact v5, by rw [Fm4 _ _ (by omega)]; exact v6, by rw [Fm4 _ _ (by omega)]; exact v7, by rw [Fm4 _ _ (by omega)]; exact v8, by rw [Fm4 _ _ (by omega)]; exact v9, fun o i x x' => by rw [Fm4 _ _ (by omega), v10 _ _ (by omega) x']; exact fm2 _ _ (by omega)⟩)
          exact Or.inr ⟨_, _, _, _, _, _, rfl, z1, by omega, z2⟩
end SC
