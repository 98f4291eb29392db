/-! else and end. -/
section SC
variable {t : Int → Int} {N T M : Int} {hc0 hm0 hc hm hc' hm' : qz_H}
theorem cz_bname {k : Nat} {kd s : Int} {L : Nat} {c m d q i : Int} (S : cz_S t N T M hc0 hm0 k hc hm kd s L) (g : cz_G t hc hm M c m d d q (-1) s) (h5 : hc 30 5 = d + 2) (h6 : hc 30 6 = 0) (p4 : hc (37 + d) 1 = 4) (i0 : 0 ≤ i) (i9 : i ≤ 10) (nm : cz_nm t (hc 30 7) (hm 96 i) (hm 97 i)) : cz_out t N T M hc0 hm0 c (s - 1) (cz_go k hc) (fn_Md_blockName 67 i hm) := by
  have e := S.en
  have hM := e.hM
  obtain ⟨d0, d10, _, _, kk, kf⟩ := g.2.1.kind
  have hk1 : hc (37 + d) 0 = 3 ∨ hc (37 + d) 0 = 8 ∨ hc (37 + d) 0 = 9 := by have := kk rfl; omega
  clear kk kf
  have Lm := e.tm.1
  unfold fn_Md_blockName fn_Md_blockName_45
  rw [S.tk.nmM e.w e.tm, bz_bc]
  by_cases nt : cz_nt t kd s L
  · have hw : cz_wd t s L ∧ hm 67 35 = (L : Int) := by
      rcases S.tk.2.2.2.2.2.2 with h | h | h
      · have := nt.1; omega
      · exact ⟨h.2.1, h.2.2.2.2.1⟩
      · have := nt.1; omega
    have kd2 := nt.1
    have e7 : cz_en t N T M hc0 hm0 (qz_up hc 30 7 (-2)) hm := e.uc (by omega)
    have t7 : cz_tk t N (qz_up hc 30 7 (-2)) hm kd s L := S.tk.fC (fun i _ _ => cz_un (by omega))
    have sm7 : (qz_up hc 30 7 (-2)) 30 9 = hm 67 34 := by rw [cz_un (by omega)]; exact S.sm
    have x2 : hc 30 7 ≠ -2 := by
      rcases nm with h | ⟨h1, L', h2, h3⟩
      · omega
      · have := h3.1; omega
    rw [if_pos nt, if_pos (show ¬ (1 : Int) = 0 by omega), bz_m67_44 Lm, bz_m97_m1 Lm, bz_ck (by omega), bz_ck (by omega), bz_m67_43 Lm, bz_m96_m1 Lm, bz_ck (by omega), bz_ck (by omega), bz_ck (by omega), bz_ck (by omega), cz_goB e d0 d10 h5 h6 hk1]
    unfold fn_Reader_inBody fn_Reader_inBody_109 fn_Reader_inBody_110
    rw [bz_bn, bz_ck (by omega), bz_bn, bz_c30_0 e7.tc.1, bz_ck (by omega), t7.1, if_pos (by omega), bz_ck (by omega), if_pos (by omega), bz_ck (by omega), t7.nmC e7.w e7.tc, bz_bc, if_pos nt, if_pos (show ¬ (1 : Int) = 0 by omega), if_pos x2, bz_c30_0 e7.tc.1, bz_ck (show (34 : Int) ≠ 0 by omega), bz_ck (show (34 : Int) ≠ 0 by omega), t7.2.1, cz_fail e.w0, bz_bc, bz_ck (show (0 : Int) = 0 ∨ (0 : Int) = 1 by omega), S.tk.2.2.1, hw.2]
    rcases nm.cmp e7.w e7.tc e7.tm hw.1 with ⟨n1, n2⟩ | ⟨n1, n2, n3, r, n4, n5, n6, n7⟩
    · have n3 : hm 97 i = 0 := by
        rcases nm with h | ⟨h1, L', h2, h3⟩
        · exact h.2
        · have := h3.1; omega
      left
      rw [if_pos n1, if_pos n3]
      exact cz_badI e7 (by omega) sm7
    · rw [if_neg n1, if_neg n3, n6, n7, bz_bc, bz_bc]
      rcases n4 with rfl | rfl
      · left
        rw [if_pos (show (0 : Int) = 0 from rfl), if_neg (show ¬ ¬ (0 : Int) = 0 by omega), cz_fail e.w0, bz_bc, bz_ck (show (0 : Int) = 0 ∨ (0 : Int) = 1 by omega)]
        exact cz_badI (w := 1) e7 (Or.inl rfl) sm7
      · rw [if_neg (show ¬ (1 : Int) = 0 by omega), if_pos (show ¬ (1 : Int) = 0 by omega)]
        obtain ⟨hc2, hm2, kd', s', L', a1, a2, S2, ss, Fc, Fm⟩ := cz_adv S (by omega) e7 (cz_un (by omega)) (cz_un (by omega)) rfl (by rw [cz_un (by omega)]; omega) (by rw [cz_un (by omega)]; omega)
        rw [a1, a2, bz_bc, bz_ck (by omega)]
        have fc2 : ∀ o i : Int, o ≠ 34 → ¬ (o = 30 ∧ (i = 7 ∨ i = 9)) → hc2 o i = hc o i := by
          intro o i x1 x2
          rw [Fc o i (by omega) (by omega), cz_un (by omega)]
        right
        refine ⟨_, _, _, _, _, _, rfl, rfl, by omega, m, d, d, q, S2, g.same hM (fun o i h => fc2 o i (by omega) (by omega)) (fun o i h => Fm o i (by omega)) (by omega), by rw [fc2 _ _ (by omega) (by omega)]; exact h5, by rw [fc2 _ _ (by omega) (by omega)]; exact h6, Or.inl ?_, fun _ => Or.inl (by rw [fc2 _ _ (by omega) (by omega)]; exact p4)⟩
        rw [Fc _ _ (by omega) (by omega), bz_us]
  · rw [if_neg nt, if_neg (show ¬ ¬ (0 : Int) = 0 by omega), bz_ck (by omega)]
    exact Or.inr ⟨_, _, _, _, _, _, rfl, rfl, by omega, m, d, d, q, S, g, h5, h6, Or.inr ⟨rfl, nt⟩, fun _ => Or.inl p4⟩
/-- what the class does with else and end -/
theorem cz_turnC (e : cz_en t N T M hc0 hm0 hc hm) {c m d : Int} (m3 : hc M 3 = c) (c1 : 1 ≤ c) (c4 : c ≤ 4) (m4 : hc M 4 = m) (m0 : 0 ≤ m) (y0 : 0 ≤ hc (M + 2 + 2 * c) 5) (y1 : hc (M + 2 + 2 * c) 5 ≤ 64) (d0 : 0 ≤ d) (d10 : d ≤ 10) (h5 : hc 30 5 = d + 2) {j : Nat} (hj : j = 5 ∨ j = 6) (hop : hc 34 4 = -((j : Int) + 1)) : fn_Reader_instructionIn 30 (37 + d) hc = if (j = 5 ∧ hc (37 + d) 0 = 9 ∨ j = 6 ∧ (hc (37 + d) 0 = 8 ∨ hc (37 + d) 0 = 9)) then (if m < 64 then some (0, if j = 5 then qz_up (qz_up (cz_hD hc M c m d (-6) 0) 30 7 (hc (37 + d) 2)) (37 + d) 0 8 else qz_up (qz_up (cz_hD hc M c m d (-7) 0) 30 7 (hc (37 + d) 2)) 30 5 (d + 1)) else some (2, hc)) else some (1, hc) := by
  have hM := e.hM
  unfold fn_Reader_instructionIn fn_Reader_instructionIn_42 fn_Reader_instructionIn_28
  rw [bz_c30_0 e.tc.1, bz_ck (by omega), hop, bz_bn, if_neg (by omega)]
  have i44 := cz_i44 e m3 c1 c4 m4 m0 y0 y1 d0 d10 (j := j) (by omega)
  rcases hj with rfl | rfl
  · rw [if_neg (show ¬ ¬ -(((5 : Nat) : Int) + 1) = -6 by omega), bz_ck (by omega)]
    by_cases h9 : hc (37 + d) 0 = 9
    · rw [if_neg (by omega), if_pos (show ¬ -(((5 : Nat) : Int) + 1) = -7 by omega), i44, if_pos (show ((5 : Nat) = 5 ∧ hc (37 + d) 0 = 9 ∨ (5 : Nat) = 6 ∧ (hc (37 + d) 0 = 8 ∨ hc (37 + d) 0 = 9)) from Or.inl ⟨rfl, h9⟩), if_neg (show ¬ kz_dt (-(((5 : Nat) : Int) + 1)) 2 = 1 by decide +kernel), if_pos (show kz_dt (-(((5 : Nat) : Int) + 1)) 2 = 0 ∨ kz_dt (-(((5 : Nat) : Int) + 1)) 2 = 1 by decide +kernel), if_pos (show (5 : Nat) = 5 from rfl), if_pos (show (5 : Nat) = 5 from rfl)]
      unfold fn_Reader_instructionIn_126
      rw [if_pos (show ¬ -(((5 : Nat) : Int) + 1) = -7 by omega)]
      rfl
    · rw [if_pos h9, if_neg (by omega)]
  · rw [if_pos (show ¬ -(((6 : Nat) : Int) + 1) = -6 by omega), if_neg (show ¬ ¬ -(((6 : Nat) : Int) + 1) = -7 by omega), bz_ck (by omega)]
    have ib : fn_Level_isBlock (37 + d) hc = some (if hc (37 + d) 0 = 8 ∨ hc (37 + d) 0 = 9 then 1 else 0, hc) := by
      unfold fn_Level_isBlock fn_Level_isBlock_18 fn_Level_isBlock_23
      rw [bz_ck (by omega), bz_ck (by omega)]
      (repeat' split) <;> first | rfl | omega
    rw [ib, bz_bc]
    by_cases h9 : hc (37 + d) 0 = 8 ∨ hc (37 + d) 0 = 9
    · rw [if_pos h9, if_pos (show ¬ (1 : Int) = 0 by omega), i44, if_pos (show ((6 : Nat) = 5 ∧ hc (37 + d) 0 = 9 ∨ (6 : Nat) = 6 ∧ (hc (37 + d) 0 = 8 ∨ hc (37 + d) 0 = 9)) from Or.inr ⟨rfl, h9⟩), if_neg (show ¬ kz_dt (-(((6 : Nat) : Int) + 1)) 2 = 1 by decide +kernel), if_pos (show kz_dt (-(((6 : Nat) : Int) + 1)) 2 = 0 ∨ kz_dt (-(((6 : Nat) : Int) + 1)) 2 = 1 by decide +kernel), if_neg (show ¬ (6 : Nat) = 5 by omega), if_neg (show ¬ (6 : Nat) = 5 by omega)]
      unfold fn_Reader_instructionIn_126
      rw [if_neg (show ¬ ¬ -(((6 : Nat) : Int) + 1) = -7 by omega), bz_ck (by omega), bz_ck (by omega), bz_bn, cz_close (x := d + 2) (by rw [cz_un (by omega), cz_hD_un (by omega) (by omega) (by omega) (by omega) (by omega)]; exact h5) (by omega) (by omega), bz_bc, cz_hD_un (o := 37 + d) (i := 2) (by omega) (by omega) (by omega) (by omega) (by omega), show d + 2 - 1 = d + 1 by omega]
      rfl
    · rw [if_neg h9, if_neg (show ¬ ¬ (0 : Int) = 0 by omega), if_neg (show ¬ ((6 : Nat) = 5 ∧ hc (37 + d) 0 = 9 ∨ (6 : Nat) = 6 ∧ (hc (37 + d) 0 = 8 ∨ hc (37 + d) 0 = 9)) by omega)]
      rfl
theorem cz_turnX {c m d : Int} (hM : M = 6 ∨ M = 18) (c1 : 1 ≤ c) (c4 : c ≤ 4) (d0 : 0 ≤ d) (h5 : hc 30 5 = d + 2) {j : Nat} (hj : j = 5 ∨ j = 6) : ∃ X : qz_H, (if j = 5 then qz_up (qz_up (cz_hD (qz_up hc 30 7 (-2)) M c m d (-6) 0) 30 7 (hc (37 + d) 2)) (37 + d) 0 8 else qz_up (qz_up (cz_hD (qz_up hc 30 7 (-2)) M c m d (-7) 0) 30 7 (hc (37 + d) 2)) 30 5 (d + 1)) = X ∧ (∀ o i : Int, ¬ ((o = M + 2 ∨ o = M + 3) ∧ i = m) → ¬ (o = M ∧ i = 4) → ¬ (o = M + 2 + 2 * c ∧ i = 5) → ¬ (o = 37 + d ∧ (i = 0 ∨ i = 1)) → ¬ (o = 30 ∧ (i = 5 ∨ i = 6 ∨ i = 7)) → X o i = hc o i) ∧ X (M + 2) m = -((j : Int) + 1) ∧ X (M + 3) m = 0 ∧ X M 4 = m + 1 ∧ X (M + 2 + 2 * c) 5 = hc (M + 2 + 2 * c) 5 + 1 ∧ X (37 + d) 1 = 4 ∧ X 30 6 = 0 ∧ X 30 7 = hc (37 + d) 2 ∧ X 30 5 = (if j = 5 then d + 2 else d + 1) ∧ (j = 5 → X (37 + d) 0 = 8) := by
  refine ⟨_, rfl, ?_⟩
  rcases hj with rfl | rfl
  · rw [if_pos rfl, if_pos rfl]
    obtain ⟨z1, z2, z3, z4, z5, z6⟩ := cz_hD_at (hc := qz_up hc 30 7 (-2)) (M := M) (c := c) (m := m) (d := d) (x := -6) (a := 0) hM c1 c4 d0
    rw [cz_un (show ¬ (M + 2 + 2 * c = 30 ∧ (5 : Int) = 7) by omega)] at z4
    refine ⟨fun o i n1 n2 n3 n4 n5 => ?_, ?_, ?_, ?_, ?_, ?_, ?_, ?_, ?_, fun _ => bz_us _ _ _ _⟩
    · rw [cz_un (by omega), cz_un (by omega), cz_hD_un n1 n2 n3 (by omega) (by omega), cz_un (by omega)]
    · rw [cz_un (by omega), cz_un (by omega), z1]; rfl
    · rw [cz_un (by omega), cz_un (by omega), z2]
    · rw [cz_un (by omega), cz_un (by omega), z3]
    · rw [cz_un (by omega), cz_un (by omega), z4]
    · rw [cz_un (by omega), cz_un (by omega), z5]
    · rw [cz_un (by omega), cz_un (by omega), z6]
    · rw [cz_un (by omega), bz_us]
    · rw [cz_un (by omega), cz_un (by omega), cz_hD_un (by omega) (by omega) (by omega) (by omega) (by omega), cz_un (by omega), h5]
  · rw [if_neg (show ¬ (6 : Nat) = 5 by omega), if_neg (show ¬ (6 : Nat) = 5 by omega)]
    obtain ⟨z1, z2, z3, z4, z5, z6⟩ := cz_hD_at (hc := qz_up hc 30 7 (-2)) (M := M) (c := c) (m := m) (d := d) (x := -7) (a := 0) hM c1 c4 d0
    rw [cz_un (show ¬ (M + 2 + 2 * c = 30 ∧ (5 : Int) = 7) by omega)] at z4
    refine ⟨fun o i n1 n2 n3 n4 n5 => ?_, ?_, ?_, ?_, ?_, ?_, ?_, ?_, bz_us _ _ _ _, fun h => by omega⟩
    · rw [cz_un (by omega), cz_un (by omega), cz_hD_un n1 n2 n3 (by omega) (by omega), cz_un (by omega)]
    · rw [cz_un (by omega), cz_un (by omega), z1]; rfl
    · rw [cz_un (by omega), cz_un (by omega), z2]
    · rw [cz_un (by omega), cz_un (by omega), z3]
    · rw [cz_un (by omega), cz_un (by omega), z4]
    · rw [cz_un (by omega), cz_un (by omega), z5]
    · rw [cz_un (by omega), cz_un (by omega), z6]
    · rw [cz_un (by omega), bz_us]
theorem cz_turnT {d : Int} (Lm : bz_LM hm) (d0 : 0 ≤ d) (d10 : d ≤ 10) (r39 : hm 67 39 = d) {j : Nat} (hj : j = 5 ∨ j = 6) (cd : kz_dt (-((j : Int) + 1)) 1 = if j = 5 then 5 else 11) (hkd : d = 0 → hc (37 + d) 0 = 3) (hkd' : 1 ≤ d → hc (37 + d) 0 = 8 ∨ hc (37 + d) 0 = 9) (lb : 1 ≤ d → cz_lb t hc hm (d - 1)) : fn_Md_turnBlock 67 (kz_dt (-((j : Int) + 1)) 1) hm = fn_Md_turnBlock_50 67 (kz_dt (-((j : Int) + 1)) 1) (d - 1) (if (j = 5 ∧ hc (37 + d) 0 = 9 ∨ j = 6 ∧ (hc (37 + d) 0 = 8 ∨ hc (37 + d) 0 = 9)) then 1 else 0) hm := by
  unfold fn_Md_turnBlock fn_Md_turnBlock_49 fn_Md_turnBlock_45
  rw [r39, bz_w (by omega) (by omega), bz_bn]
  by_cases hd : d = 0
  · rw [if_pos (by omega), if_neg (by have := hkd hd; omega)]
  · obtain ⟨l1, l2, l3⟩ := lb (by omega)
    rw [show 38 + (d - 1) = 37 + d by omega] at l2
    rw [if_neg (by omega), bz_m67_41 Lm, bz_m94_m1 Lm, bz_ck (by omega), bz_ck (by omega), if_neg (by omega), cd]
    rcases hj with rfl | rfl
    · rw [if_pos rfl, if_neg (by omega), bz_m67_40 Lm, bz_m93_m1 Lm, bz_ck (by omega), bz_ck (by omega), bz_m67_42 Lm, bz_m95_m1 Lm, bz_ck (by omega), bz_ck (by omega)]
      by_cases h9 : hc (37 + d) 0 = 9
      · rw [if_neg (by omega), if_neg (by omega), if_pos (Or.inl ⟨rfl, h9⟩)]
      · rw [if_neg (show ¬ ((5 : Nat) = 5 ∧ hc (37 + d) 0 = 9 ∨ (5 : Nat) = 6 ∧ (hc (37 + d) 0 = 8 ∨ hc (37 + d) 0 = 9)) by omega)]
        by_cases h4 : hm 93 (d - 1) = 4
        · rw [if_neg (show ¬ ¬ hm 93 (d - 1) = 4 by omega), if_pos (show ¬ hm 95 (d - 1) = 0 by omega)]
        · rw [if_pos h4]
    · rw [if_neg (show ¬ (6 : Nat) = 5 by omega), if_pos rfl, if_pos (Or.inr ⟨rfl, hkd' (by omega)⟩)]
theorem cz_turnM {k : Nat} {kd' s s' : Int} {L' : Nat} {c m d q : Int} {hc2 hm2 X : qz_H} (g : cz_G t hc hm M c m d d q (-1) s) (d1 : 1 ≤ d) (hm64 : m < 64) (S2 : cz_S t N T M hc0 hm0 (k + 1) hc2 hm2 kd' s' L') (ss : s < s') {j : Nat} (hj : j = 5 ∨ j = 6) (cd : kz_dt (-((j : Int) + 1)) 1 = if j = 5 then 5 else 11) (Fc : cz_Fc X hc2) (x_ : ∀ o i : Int, ¬ ((o = M + 2 ∨ o = M + 3) ∧ i = m) → ¬ (o = M ∧ i = 4) → ¬ (o = M + 2 + 2 * c ∧ i = 5) → ¬ (o = 37 + d ∧ (i = 0 ∨ i = 1)) → ¬ (o = 30 ∧ (i = 5 ∨ i = 6 ∨ i = 7)) → X o i = hc o i) (x1 : X (M + 2) m = -((j : Int) + 1)) (x2 : X (M + 3) m = 0) (x3 : X M 4 = m + 1) (x4 : X (M + 2 + 2 * c) 5 = hc (M + 2 + 2 * c) 5 + 1) (x5 : X (37 + d) 1 = 4) (x6 : X 30 6 = 0) (x7 : X 30 7 = hc (37 + d) 2) (x8 : X 30 5 = (if j = 5 then d + 2 else d + 1)) (x9 : j = 5 → X (37 + d) 0 = 8) (fm2 : ∀ o i : Int, ¬ ((o = 84 ∨ o = 85) ∧ i = m) → ¬ (o = 67 ∧ (32 ≤ i ∧ i ≤ 37 ∨ i = 23)) → hm2 o i = hm o i) (w84 : hm2 84 m = kz_dt (-((j : Int) + 1)) 1) (w85 : hm2 85 m = 0) (w23 : hm2 67 23 = m + 1) (d' : Int) (hd' : j = 5 ∧ d' = d ∨ j = 6 ∧ d' = d - 1) : cz_out t N T M hc0 hm0 c s (cz_go (k + 1) hc2) (fn_Md_blockName 67 (d - 1) (qz_up (qz_up hm2 95 (d - 1) 1) 67 39 d')) := by
  have hM := S2.en.hM
  obtain ⟨d0, d10, _, _, _, _⟩ := g.2.1.kind
  obtain ⟨c1, c4, m0, m64, r3, r4, r23, r15, r50, r51, q0, r39, r28⟩ := g.rows
  obtain ⟨l1, l2, l3⟩ := g.2.1.2.2.2.2.2.2.2.2.1 (d - 1) (by omega) (by omega)
  rw [show 38 + (d - 1) = 37 + d by omega] at l3
  clear l2
  have bb : hc2 30 5 = d' + 2 := by
    rw [Fc _ _ (by omega) (by omega), x8]
    split <;> omega
  have zf : ∀ o i : Int, ¬ (o = 95 ∧ i = d - 1) → ¬ (o = 67 ∧ i = 39) → (qz_up (qz_up hm2 95 (d - 1) 1) 67 39 d') o i = hm2 o i := by
    intro o i y1 y2
    rw [cz_un y2, cz_un y1]
  have z95 : (qz_up (qz_up hm2 95 (d - 1) 1) 67 39 d') 95 (d - 1) = 1 := by rw [cz_un (by omega), bz_us]
  have S3 : cz_S t N T M hc0 hm0 (k + 1) hc2 (qz_up (qz_up hm2 95 (d - 1) 1) 67 39 d') kd' s' L' := S2.fM (fun o i n => zf o i (by omega) (by omega)) (fun i n1 n2 => zf 67 i (by omega) (by omega))
  have z39 : (qz_up (qz_up hm2 95 (d - 1) 1) 67 39 d') 67 39 = d' := bz_us _ _ _ _
  generalize qz_up (qz_up hm2 95 (d - 1) 1) 67 39 d' = Z at zf z95 S3 z39 ⊢
  obtain ⟨gH, g5, gq⟩ := g
  have Fc' : ∀ o i : Int, o ≠ 34 → o ≠ 30 → hc2 o i = X o i := fun o i y1 y2 => Fc o i (by omega) (by omega)
  have cdj : (j = 5 → kz_dt (-((j : Int) + 1)) 1 = 5) ∧ (j = 6 → kz_dt (-((j : Int) + 1)) 1 = 11) := by rw [cd]; exact ⟨fun h => if_pos h, fun h => if_neg (by omega)⟩
  have k20 : kz_dt (-((j : Int) + 1)) 2 = 0 := by rcases hj with rfl | rfl <;> decide +kernel
  have gH' := gH.rowV (hc' := hc2) (hm' := Z) hM hm64 (fun o i n1 n2 n3 n4 => by rw [Fc' o i (by omega) (by omega)]; exact x_ o i n2 n3 n4 (by omega) (by omega)) (by rw [Fc' _ _ (by omega) (by omega)]; exact x3) (by rw [Fc' _ _ (by omega) (by omega)]; exact x4) (fun o i n1 n2 n3 => by rw [zf o i (by omega) (by omega)]; exact fm2 o i n3 (by omega)) (by rw [zf _ _ (by omega) (by omega)]; exact fm2 _ _ (by omega) (by omega)) (by rw [zf _ _ (by omega) (by omega)]; exact w23) (by rw [zf _ _ (by omega) (by omega)]; exact fm2 _ _ (by omega) (by omega)) (by rw [Fc' _ _ (by omega) (by omega), x1]; omega) (by rw [zf _ _ (by omega) (by omega), Fc' _ _ (by omega) (by omega), x1]; exact w84) (by rw [Fc' _ _ (by omega) (by omega), zf _ _ (by omega) (by omega), x2, w85]) (by rw [Fc' _ _ (by omega) (by omega), zf _ _ (by omega) (by omega), x1, w85]; exact cz_kq0 j (by omega) k20) (by rw [zf _ _ (by omega) (by omega), w84]; rw [cd]; split <;> omega) (fun _ => d1) (u' := s') (by omega)
  have dd : d + bz_dl (Z 84 m) = d' := by
    rw [zf _ _ (by omega) (by omega), w84, cd]
    unfold bz_dl
    rcases hd' with ⟨rfl, h⟩ | ⟨rfl, h⟩
    · rw [if_pos rfl, if_neg (by omega), if_neg (by omega)]; omega
    · rw [if_neg (show ¬ (6 : Nat) = 5 by omega), if_neg (by omega), if_pos rfl]; omega
  rw [dd] at gH'
  have fm3 : ∀ o i : Int, 90 ≤ o → o ≤ 99 → ¬ (o = 95 ∧ i = d - 1) → Z o i = hm o i := by
    intro o i y1 y2 y3
    rw [zf o i y3 (by omega)]
    exact fm2 o i (by omega) (by omega)
  have fc3 : ∀ o i : Int, 35 ≤ o → o ≤ 36 + d → hc2 o i = hc o i := by
    intro o i y1 y2
    rw [Fc' o i (by omega) (by omega)]
    exact x_ o i (by omega) (by omega) (by omega) (by omega) (by omega)
  have g5' : cz_G5 t hc2 Z d' d' q (-1) := by
    rcases hd' with ⟨h1, h2⟩ | ⟨h1, h2⟩
    · rw [h2]
      refine g5.top d1 fc3 (by rw [z39, h2]) (fun o i y1 y2 y3 => fm3 o i y1 y2 (by omega)) ⟨?_, ?_, ?_⟩
      · rw [fm3 _ _ (by omega) (by omega) (by omega)]; exact l1
      · rw [show 38 + (d - 1) = 37 + d by omega, Fc' _ _ (by omega) (by omega), x9 h1, z95]
        omega
      · rw [show 38 + (d - 1) = 37 + d by omega, Fc' _ _ (by omega) (by omega), x_ _ _ (by omega) (by omega) (by omega) (by omega) (by omega), fm3 _ _ (by omega) (by omega) (by omega), fm3 _ _ (by omega) (by omega) (by omega)]
        exact l3
    · rw [h2]
      exact g5.popB d1 fc3 (by rw [z39, h2]) fm3
  refine (cz_bname S3 (c := c) (m := m + 1) (d := d') (q := q) (i := d - 1) ⟨gH', g5', by rw [if_pos rfl] at gq ⊢; omega⟩ ?_ ?_ ?_ (by omega) (by omega) ?_).mono (by omega)
  · exact bb
  · rw [Fc _ _ (by omega) (by omega), x6]
  · rcases hd' with ⟨h1, h2⟩ | ⟨h1, h2⟩
    · rw [h2, Fc' _ _ (by omega) (by omega), x5]
    · rw [h2, fc3 _ _ (by omega) (by omega)]
      exact g5.2.2.2.2.2.2.2.2.2.2.1 (d - 1) (by omega) (by omega) (by omega)
  · rw [Fc _ _ (by omega) (by omega), x7, fm3 _ _ (by omega) (by omega) (by omega), fm3 _ _ (by omega) (by omega) (by omega)]
    exact l3
theorem cz_turn {k : Nat} {s : Int} {L : Nat} {c m d q : Int} (S : cz_S t N T M hc0 hm0 k hc hm 2 s L) (g : cz_G t hc hm M c m d d q (-1) s) (h5 : hc 30 5 = d + 2) (h6 : hc 30 6 = 0) (nn : ¬ cz_nt t 2 s L) {j : Nat} (hj : j = 5 ∨ j = 6) (hop : hc 34 4 = -((j : Int) + 1)) : cz_out t N T M hc0 hm0 c s (cz_go k hc) (fn_Md_readInstruction_39 67 (c - 1) (kz_dt (-((j : Int) + 1)) 1) hm) := by
  have e := S.en
  have hM := e.hM
  obtain ⟨d0, d10, _, _, kk, kf⟩ := g.2.1.kind
  obtain ⟨c1, c4, m0, m64, r3, r4, r23, r15, r50, r51, q0, r39, r28⟩ := g.rows
  have hk1 : hc (37 + d) 0 = 3 ∨ hc (37 + d) 0 = 8 ∨ hc (37 + d) 0 = 9 := by have := kk rfl; omega
  have hkd : d = 0 → hc (37 + d) 0 = 3 := by have := kk rfl; omega
  have hkd' : 1 ≤ d → hc (37 + d) 0 = 8 ∨ hc (37 + d) 0 = 9 := by have := kk rfl; omega
  clear kk kf
  have cd : kz_dt (-((j : Int) + 1)) 1 = if j = 5 then 5 else 11 := by
    rcases hj with rfl | rfl <;> decide +kernel
  have lb : 1 ≤ d → cz_lb t hc hm (d - 1) := fun h => g.2.1.2.2.2.2.2.2.2.2.1 (d - 1) (by omega) (by omega)
  have e7 : cz_en t N T M hc0 hm0 (qz_up hc 30 7 (-2)) hm := e.uc (by omega)
  have sm7 : (qz_up hc 30 7 (-2)) 30 9 = hm 67 34 := by rw [cz_un (by omega)]; exact S.sm
  have u37 : ∀ i : Int, (qz_up hc 30 7 (-2)) (37 + d) i = hc (37 + d) i := fun i => cz_un (by omega)
  have Lm := e.tm.1
  rw [cz_goB e d0 d10 h5 h6 hk1, cz_inB e S.tk (by omega) (by omega) nn, cz_turnC (m := m) (c := c) e7 (by rw [cz_un (by omega)]; exact r3) c1 c4 (by rw [cz_un (by omega)]; exact r4) m0 (by rw [cz_un (by omega)]; exact r50) (by rw [cz_un (by omega)]; exact r51) d0 d10 (by rw [cz_un (by omega)]; exact h5) hj (by rw [cz_un (by omega)]; exact hop), u37 0, u37 2]
  unfold fn_Md_readInstruction_39
  rw [cz_plM, bz_bc, if_pos (show 2 ≤ kz_dt (-((j : Int) + 1)) 1 ∧ kz_dt (-((j : Int) + 1)) 1 ≤ 5 ∨ kz_dt (-((j : Int) + 1)) 1 = 11 by rw [cd]; split <;> omega), if_neg (show ¬ ¬ (0 : Int) = 0 by omega)]
  have T50 := cz_turnT (t := t) (hc := hc) Lm d0 d10 r39 hj cd hkd hkd' lb
  rw [T50]
  unfold fn_Md_turnBlock_50
  rw [bz_bn]
  by_cases hC : (j = 5 ∧ hc (37 + d) 0 = 9 ∨ j = 6 ∧ (hc (37 + d) 0 = 8 ∨ hc (37 + d) 0 = 9))
  · have d1 : 1 ≤ d := by
      by_cases hd : d = 0
      · have := hkd hd; omega
      · omega
    rw [if_pos hC, if_pos hC, if_pos (show ¬ (1 : Int) = 0 by omega), cz_room e, r23]
    obtain ⟨l1, l2, l3⟩ := lb d1
    rw [show 38 + (d - 1) = 37 + d by omega] at l2 l3
    by_cases hm64 : m < 64
    · rw [if_pos hm64, if_pos hm64, bz_bc, if_pos (show ¬ (1 : Int) = 0 by omega), cz_emit e r23 m0 hm64, bz_bc, bz_bn]
      -- the class's cells
      obtain ⟨X, hX, x_, x1, x2, x3, x4, x5, x6, x7, x8, x9⟩ := cz_turnX (hc := hc) (M := M) (m := m) hM c1 c4 d0 h5 hj
      rw [hX]
      clear hX hC hk1 hkd hkd' lb l1 l2 l3 nn T50
      have e1 : cz_en t N T M hc0 hm0 X (qz_up (qz_up (qz_up hm 84 m (kz_dt (-((j : Int) + 1)) 1)) 85 m 0) 67 23 (m + 1)) := (((e.fC (fun o i n => x_ o i (by omega) (by omega) (by omega) (by omega) (by omega))).um (by omega)).um (by omega)).um (by omega)
      obtain ⟨hc2, hm2, kd', s', L', n1, n2, S2, ss, Fc, Fm⟩ := cz_adv S (by omega) e1 (x_ _ _ (by omega) (by omega) (by omega) (by omega) (by omega)) (x_ _ _ (by omega) (by omega) (by omega) (by omega) (by omega)) (by simp (disch := omega) only [cz_un]) (by rw [x8]; split <;> omega) (by rw [x8]; split <;> omega)
      have L2 := S2.en.tm.1
      rw [n1, n2, bz_bc, bz_m67_42 L2, bz_m95_m1 L2, bz_ck (by omega), bz_ck (by omega), bz_bn, show qz_nz 1 = 1 by decide +kernel]
      have fm2 : ∀ o i : Int, ¬ ((o = 84 ∨ o = 85) ∧ i = m) → ¬ (o = 67 ∧ (32 ≤ i ∧ i ≤ 37 ∨ i = 23)) → hm2 o i = hm o i := by
        intro o i n1 n2
        rw [Fm o i (by omega)]
        simp (disch := omega) only [cz_un]
      have w84 : hm2 84 m = kz_dt (-((j : Int) + 1)) 1 := by
        rw [Fm _ _ (by omega)]
        simp (disch := omega) only [cz_un, bz_us]
      have w85 : hm2 85 m = 0 := by
        rw [Fm _ _ (by omega)]
        simp (disch := omega) only [cz_un, bz_us]
      have w23 : hm2 67 23 = m + 1 := by
        rw [Fm _ _ (by omega)]
        simp (disch := omega) only [cz_un, bz_us]
      have w39 : hm2 67 39 = d := by rw [fm2 _ _ (by omega) (by omega)]; exact r39
      -- both ways
      have main := cz_turnM (k := k) g d1 hm64 S2 ss hj cd Fc x_ x1 x2 x3 x4 x5 x6 x7 x8 x9 fm2 w84 w85 w23
      have fin : ∀ x, cz_out t N T M hc0 hm0 c s (cz_go (k + 1) hc2) x → cz_out t N T M hc0 hm0 c s (cz_go (k + 1) hc2) (qz_bc (qz_bc x fun r2 h3 => qz_ck ((r2 : Int) = 0 ∨ (r2 : Int) = 1) (some (r2, h3))) fun r11 h12 => qz_ck ((r11 : Int) = 0 ∨ (r11 : Int) = 1) (some (r11, h12))) := by
        intro x hx
        rcases hx with ⟨w, hc', hm', r1, r2, r3, r4⟩ | ⟨k', hc', hm', kd', s', L', r1, r2, r3⟩
        · exact Or.inl ⟨w, hc', hm', r1, r2, by rw [r3, bz_bc, bz_ck (by omega), bz_bc, bz_ck (by omega)], r4⟩
        · exact Or.inr ⟨k', hc', hm', kd', s', L', r1, by rw [r2, bz_bc, bz_ck (by omega), bz_bc, bz_ck (by omega)], r3⟩
      unfold fn_Md_turnBlock_104
      rw [bz_ck (by omega), bz_ck (by omega), bz_bn, bz_bn, cd]
      rcases hj with rfl | rfl
      · rw [if_pos rfl, if_pos (show ¬ (5 : Int) = 11 by omega), cz_un (show ¬ ((67 : Int) = 95 ∧ (39 : Int) = d - 1) by omega), w39]
        exact fin _ (main d (Or.inl ⟨rfl, rfl⟩))
      · rw [if_neg (show ¬ (6 : Nat) = 5 by omega), if_neg (show ¬ ¬ (11 : Int) = 11 by omega)]
        exact fin _ (main (d - 1) (Or.inr ⟨rfl, rfl⟩))
    · left
      rw [if_neg hm64, if_neg hm64, bz_bc, if_neg (show ¬ ¬ (0 : Int) = 0 by omega), bz_ck (by omega), bz_bc, bz_ck (by omega)]
      exact cz_badI e7 (by omega) sm7
  · left
    rw [if_neg hC, if_neg hC, if_neg (show ¬ ¬ (0 : Int) = 0 by omega), cz_fail e.w0, bz_bc, bz_ck (by omega), bz_bc, bz_ck (by omega)]
    exact cz_badI e7 (by omega) sm7
end SC
