/-! A block begins. -/
section SC
variable {t : Int → Int} {N T M : Int} {hc0 hm0 hc hm hc' hm' : qz_H}
def cz_BN (l2 x5 x6 : Int) (h13 : qz_H) : Option qz_R :=
      qz_bc (fn_Md_isId 67 h13) fun r14 h15 =>
      if r14 = 0 then
        fn_Md_beginBlock_116 67 l2 x5 h15
      else
        qz_ck ((h15 67 43 : Int) ≠ 0) <|
        qz_ck (0 < h15 67 43 ∧ (0 : Int) ≤ x6 ∧ x6 < h15 (h15 67 43) (-1)) <|
        qz_bn (qz_up h15 (h15 67 43) x6 (h15 67 34)) fun h16 =>
        qz_ck ((h16 67 44 : Int) ≠ 0) <|
        qz_ck (0 < h16 67 44 ∧ (0 : Int) ≤ x6 ∧ x6 < h16 (h16 67 44) (-1)) <|
        qz_bn (qz_up h16 (h16 67 44) x6 (h16 67 35)) fun h17 =>
        qz_bc (fn_Md_next 67 h17) fun _ h19 =>
        fn_Md_beginBlock_116 67 l2 x5 h19
def cz_BY (hm : qz_H) (m d x : Int) : qz_H := qz_up (qz_up (qz_up (qz_up (qz_up (qz_up (qz_up (qz_up hm 84 m x) 85 m 0) 67 23 (m + 1)) 94 d 0) 95 d 0) 93 d x) 97 d 0) 67 39 (d + 1)
theorem cz_bbM (e : cz_en t N T M hc0 hm0 hc hm) {m d x : Int} (l2 : Int) (r23 : hm 67 23 = m) (m0 : 0 ≤ m) (r39 : hm 67 39 = d) (d0 : 0 ≤ d) (d10 : d ≤ 10) : fn_Md_beginBlock 67 x l2 hm = if m < 64 ∧ d ≤ 9 then qz_bc (fn_Md_next 67 (cz_BY hm m d x)) fun _ h13 => cz_BN l2 m d h13 else some (0, qz_up hm 67 38 2) := by
  unfold fn_Md_beginBlock fn_Md_beginBlock_18
  rw [cz_room e, r23]
  by_cases h64 : m < 64
  · rw [if_pos h64, bz_bc, if_neg (show ¬ (1 : Int) = 0 by omega), r39, bz_w (by omega) (by omega), cz_fail e.w0, bz_bc, bz_ck (show (0 : Int) = 0 ∨ (0 : Int) = 1 by omega)]
    by_cases h9 : d ≤ 9
    · have e1 : cz_en t N T M hc0 hm0 hc (qz_up (qz_up (qz_up hm 84 m x) 85 m 0) 67 23 (m + 1)) := ((e.um (by omega)).um (by omega)).um (by omega)
      have L1 := e1.tm.1
      rw [if_pos (by omega), if_pos (show m < 64 ∧ d ≤ 9 from ⟨h64, h9⟩), cz_emit e r23 m0 h64, bz_bc]
      have m39 : (qz_up (qz_up (qz_up hm 84 m x) 85 m 0) 67 23 (m + 1)) 67 39 = d := by simp (disch := omega) only [cz_un]; exact r39
      unfold cz_BY
      generalize qz_up (qz_up (qz_up hm 84 m x) 85 m 0) 67 23 (m + 1) = Y at e1 L1 m39 ⊢
      have y3 := bz_w (z := d + 1) (by omega) (by omega)
      have eA : cz_en t N T M hc0 hm0 hc (qz_up Y 94 d 0) := e1.um (by omega)
      have eB : cz_en t N T M hc0 hm0 hc (qz_up (qz_up Y 94 d 0) 95 d 0) := eA.um (by omega)
      have eC : cz_en t N T M hc0 hm0 hc (qz_up (qz_up (qz_up Y 94 d 0) 95 d 0) 93 d x) := eB.um (by omega)
      have m39' : (qz_up (qz_up (qz_up (qz_up Y 94 d 0) 95 d 0) 93 d x) 97 d 0) 67 39 = d := by simp (disch := omega) only [cz_un]; exact m39
      rw [bz_bn, bz_bn, m39, bz_m67_41 L1, bz_m94_m1 L1, bz_ck (by omega), bz_ck (by omega), bz_bn, show qz_nz 0 = 0 by decide +kernel, bz_m67_42 eA.tm.1, bz_m95_m1 eA.tm.1, bz_ck (by omega), bz_ck (by omega), bz_bn, bz_m67_40 eB.tm.1, bz_m93_m1 eB.tm.1, bz_ck (by omega), bz_ck (by omega), bz_bn, bz_m67_44 eC.tm.1, bz_m97_m1 eC.tm.1, bz_ck (by omega), bz_ck (by omega), bz_bn, bz_ck (by omega), bz_bn, m39', y3]
      rfl
    · rw [if_neg (by omega), if_neg (by omega)]
  · rw [if_neg h64, bz_bc, if_pos rfl, cz_fail2 (show (2 : Int) ≠ 0 by omega), bz_bc, bz_ck (by omega), if_neg (by omega)]
theorem cz_BY_un {m d x o i : Int} (n1 : ¬ ((o = 84 ∨ o = 85) ∧ i = m)) (n2 : ¬ (o = 67 ∧ (i = 23 ∨ i = 39))) (n3 : ¬ (93 ≤ o ∧ o ≤ 97 ∧ i = d)) : cz_BY hm m d x o i = hm o i := by
  unfold cz_BY
  simp (disch := omega) only [cz_un]
theorem cz_BY_at {m d x : Int} : cz_BY hm m d x 84 m = x ∧ cz_BY hm m d x 85 m = 0 ∧ cz_BY hm m d x 67 23 = m + 1 ∧ cz_BY hm m d x 94 d = 0 ∧ cz_BY hm m d x 95 d = 0 ∧ cz_BY hm m d x 93 d = x ∧ cz_BY hm m d x 97 d = 0 ∧ cz_BY hm m d x 67 39 = d + 1 := by
  unfold cz_BY
  refine ⟨?_, ?_, ?_, ?_, ?_, ?_, ?_, ?_⟩ <;> simp (disch := omega) only [cz_un, bz_us]
/-- what the class does with a block's word -/
theorem cz_blkC (e : cz_en t N T M hc0 hm0 hc hm) {c m d : Int} (m3 : hc M 3 = c) (c1 : 1 ≤ c) (c4 : c ≤ 4) (m4 : hc M 4 = m) (m0 : 0 ≤ m) (y0 : 0 ≤ hc (M + 2 + 2 * c) 5) (y1 : hc (M + 2 + 2 * c) 5 ≤ 64) (d0 : 0 ≤ d) (d10 : d ≤ 10) (h5 : hc 30 5 = d + 2) {j : Nat} (hj : j < 30) (j5 : j ≠ 5) (j6 : j ≠ 6) (k21 : kz_dt (-((j : Int) + 1)) 2 = 1) (hop : hc 34 4 = -((j : Int) + 1)) : fn_Reader_instructionIn 30 (37 + d) hc = if m < 64 then (if d ≤ 9 then some (0, cz_lv (cz_hD hc M c m d (-((j : Int) + 1)) 0) (d + 2) (if j = 4 then 9 else 8)) else some (2, cz_hD hc M c m d (-((j : Int) + 1)) 0)) else some (2, hc) := by
  have hM := e.hM
  unfold fn_Reader_instructionIn fn_Reader_instructionIn_28
  rw [bz_c30_0 e.tc.1, bz_ck (by omega), hop, bz_bn, if_neg (by omega), if_pos (by omega), if_pos (by omega), cz_i44 e m3 c1 c4 m4 m0 y0 y1 d0 d10 hj]
  by_cases h64 : m < 64
  · rw [if_pos h64, if_pos h64, if_pos k21, if_pos (show kz_dt (-((j : Int) + 1)) 2 = 0 ∨ kz_dt (-((j : Int) + 1)) 2 = 1 from Or.inr k21)]
    have e1 : cz_en t N T M hc0 hm0 (cz_hD hc M c m d (-((j : Int) + 1)) 0) hm := e.fC (fun o i h => cz_hD_un (by omega) (by omega) (by omega) (by omega) (by omega))
    unfold fn_Reader_instructionIn_93 fn_Reader_instructionIn_104
    rw [cz_push e1 (x := d + 2) (by rw [cz_hD_un (by omega) (by omega) (by omega) (by omega) (by omega)]; exact h5) (by omega) (by omega)]
    by_cases h9 : d ≤ 9
    · rw [if_pos (by omega), if_pos h9, bz_bc, if_neg (by omega)]
    · rw [if_neg (by omega), if_neg h9, bz_bc, if_pos rfl]
  · rw [if_neg h64, if_neg h64]
/-- the block's name -/
theorem cz_blkN {k : Nat} {kd s : Int} {L : Nat} {c m d q : Int} (S : cz_S t N T M hc0 hm0 k hc hm kd s L) (g : cz_G t hc hm M c m (d + 1) (d + 1) q (-1) s) (d0 : 0 ≤ d) (h5 : hc 30 5 = d + 3) (h6 : hc 30 6 = 0) (h7 : hc 30 7 = -2) (hp : hc (38 + d) 1 = 0) (m1 : 1 ≤ m) {j : Nat} (row : hc (M + 2) (m - 1) = -((j : Int) + 1)) (j10 : j ≠ 10) (k21 : kz_dt (-((j : Int) + 1)) 2 = 1) : cz_out t N T M hc0 hm0 c (s - 1) (cz_go k hc) (cz_BN (c - 1) (m - 1) d hm) := by
  have e := S.en
  have hM := e.hM
  obtain ⟨_, d10, _, _, kk, kf⟩ := g.2.1.kind
  obtain ⟨c1, c4, m0, m64, r3, r4, r23, r15, r50, r51, q0, r39, r28⟩ := g.rows
  have hk : hc (38 + d) 0 = 8 ∨ hc (38 + d) 0 = 9 := by have := kk rfl; rw [show 37 + (d + 1) = 38 + d by omega] at this; omega
  clear kk kf
  unfold cz_BN
  rw [S.tk.nmM e.w e.tm, bz_bc]
  by_cases nt : cz_nt t kd s L
  · have hw : cz_wd t s L ∧ hm 67 35 = (L : Int) := by
      rcases S.tk.2.2.2.2.2.2 with h | h | h
      · have := nt.1; omega
      · exact ⟨h.2.1, h.2.2.2.2.1⟩
      · have := nt.1; omega
    have kd2 := nt.1
    have Lm := e.tm.1
    have lb := g.2.1.2.2.2.2.2.2.2.2.1 d (by omega) (by omega)
    have e7 : cz_en t N T M hc0 hm0 (qz_up hc 30 7 (-2)) hm := e.uc (by omega)
    have t7 : cz_tk t N (qz_up hc 30 7 (-2)) hm kd s L := S.tk.fC (fun i _ _ => cz_un (by omega))
    rw [if_pos nt, if_neg (show ¬ (1 : Int) = 0 by omega), S.tk.2.2.1, bz_m67_43 Lm, bz_m96_m1 Lm, bz_ck (by omega), bz_ck (by omega), bz_bn]
    have eY : cz_en t N T M hc0 hm0 hc (qz_up hm 96 d s) := e.um (by omega)
    rw [bz_m67_44 eY.tm.1, bz_m97_m1 eY.tm.1, bz_ck (by omega), bz_ck (by omega), bz_bn, show (qz_up hm 96 d s) 67 35 = (L : Int) by rw [cz_un (by omega)]; exact hw.2]
    rw [cz_goB (d := d + 1) e (by omega) (by omega) (by omega) h6 (by rw [show 37 + (d + 1) = 38 + d by omega]; omega), show 37 + (d + 1) = 38 + d by omega]
    have C : fn_Reader_inBody 30 (38 + d) hc = some (0, qz_up (qz_up (qz_up hc 30 7 (-2)) (38 + d) 1 1) (38 + d) 2 s) := by
      have e8 : cz_en t N T M hc0 hm0 (qz_up (qz_up hc 30 7 (-2)) (38 + d) 1 1) hm := e7.uc (by omega)
      unfold fn_Reader_inBody
      rw [bz_bn, bz_ck (by omega), bz_bn, bz_c30_0 e7.tc.1, bz_ck (by omega), t7.1, if_pos (by omega), bz_ck (by omega), if_pos (by omega), bz_ck (by omega), t7.nmC e7.w e7.tc, bz_bc, if_pos nt, if_pos (show ¬ (1 : Int) = 0 by omega), if_neg (show ¬ ¬ hc 30 7 = -2 by omega), cz_bb]
      unfold fn_Reader_giveName fn_Reader_giveName_13 fn_Reader_giveName_41 fn_Reader_giveName_56
      rw [bz_ck (by omega), cz_un (show ¬ (38 + d = 30 ∧ (0 : Int) = 7) by omega), if_pos (by omega), bz_bn, bz_ck (by omega), cz_un (show ¬ (38 + d = 30 ∧ (1 : Int) = 7) by omega), if_neg (by omega), if_pos rfl, if_pos rfl, bz_ck (by omega), bz_ck (by omega), bz_bn, bz_c30_0 e8.tc.1, bz_ck (by omega), bz_ck (by omega), bz_ck (by omega), bz_bn, cz_un (show ¬ ((34 : Int) = 38 + d ∧ (2 : Int) = 1) by omega), t7.2.1]
    rw [C]
    have e9 : cz_en t N T M hc0 hm0 (qz_up (qz_up (qz_up hc 30 7 (-2)) (38 + d) 1 1) (38 + d) 2 s) (qz_up (qz_up hm 96 d s) 97 d (L : Int)) := (((((e.um (by omega)).um (by omega)).uc (by omega)).uc (by omega)).uc (by omega))
    obtain ⟨hc2, hm2, kd', s', L', n1, n2, S2, ss, Fc, Fm⟩ := cz_adv S (by omega) e9 (by simp (disch := omega) only [cz_un]) (by simp (disch := omega) only [cz_un]) (by simp (disch := omega) only [cz_un]) (by simp (disch := omega) only [cz_un]; omega) (by simp (disch := omega) only [cz_un]; omega)
    rw [n1, n2, bz_bc]
    clear nt C
    have fc2 : ∀ o i : Int, o ≠ 34 → ¬ (o = 30 ∧ (i = 7 ∨ i = 9)) → ¬ (o = 38 + d ∧ (i = 1 ∨ i = 2)) → hc2 o i = hc o i := by
      intro o i x1 x2 x3
      rw [Fc o i (by omega) (by omega)]
      simp (disch := omega) only [cz_un]
    have fm2 : ∀ o i : Int, ¬ (o = 67 ∧ 32 ≤ i ∧ i ≤ 37) → ¬ ((o = 96 ∨ o = 97) ∧ i = d) → hm2 o i = hm o i := by
      intro o i x1 x2
      rw [Fm o i x1]
      simp (disch := omega) only [cz_un]
    have a7 : hc2 30 7 = -2 := by rw [Fc _ _ (by omega) (by omega)]; simp (disch := omega) only [cz_un, bz_us]
    have b1 : hc2 (38 + d) 1 = 1 := by rw [Fc _ _ (by omega) (by omega)]; simp (disch := omega) only [cz_un, bz_us]
    have b2 : hc2 (38 + d) 2 = s := by rw [Fc _ _ (by omega) (by omega)]; simp (disch := omega) only [cz_un, bz_us]
    have w6 : hm2 96 d = s := by rw [Fm _ _ (by omega)]; simp (disch := omega) only [cz_un, bz_us]
    have w7 : hm2 97 d = (L : Int) := by rw [Fm _ _ (by omega)]; simp (disch := omega) only [cz_un, bz_us]
    have g2 : cz_G t hc2 hm2 M c m (d + 1) (d + 1) q (-1) s' := by
      obtain ⟨gH, g5, gq⟩ := g
      refine ⟨gH.same hM (fun o i h => fc2 o i (by omega) (by omega) (by omega)) (fun o i h1 h2 => fm2 o i (by omega) (by omega)) (fm2 _ _ (by omega) (by omega)) (fm2 _ _ (by omega) (by omega)) (fm2 _ _ (by omega) (by omega)) (by omega), g5.top (by omega) (fun o i h1 h2 => fc2 o i (by omega) (by omega) (by omega)) (by rw [fm2 _ _ (by omega) (by omega)]; exact r39) (fun o i h1 h2 h3 => fm2 o i (by omega) (by omega)) ?_, gq⟩
      rw [show d + 1 - 1 = d by omega]
      refine ⟨by rw [fm2 _ _ (by omega) (by omega)]; exact lb.1, ?_, ?_⟩
      · rw [fc2 _ _ (by omega) (by omega) (by omega), fm2 _ _ (by omega) (by omega), fm2 _ _ (by omega) (by omega)]
        exact lb.2.1
      · rw [b2, w6, w7]
        exact Or.inr ⟨rfl, L, rfl, hw.1⟩
    have S2' := S2
    refine (cz_b116 (d := d + 1) (m := m) (q := q) S2 g2 (by omega) (by rw [fc2 _ _ (by omega) (by omega) (by omega)]; omega) (by rw [fc2 _ _ (by omega) (by omega) (by omega)]; exact h6) a7 (by rw [show 37 + (d + 1) = 38 + d by omega]; exact Or.inr b1) (fun h => by rw [show 37 + (d + 1) = 38 + d by omega] at h; omega) m1 (j := j) (by rw [fc2 _ _ (by omega) (by omega) (by omega)]; exact row) j10 k21).mono (by omega)
  · rw [if_neg nt, if_pos rfl]
    exact cz_b116 (d := d + 1) (m := m) (q := q) S g (by omega) (by omega) h6 h7 (by rw [show 37 + (d + 1) = 38 + d by omega]; exact Or.inl hp) (fun _ => nt) m1 row j10 k21
theorem cz_blkG {c m d q s s' : Int} (g : cz_G t hc hm M c m d d q (-1) s) (hM : M = 6 ∨ M = 18) (h64 : m < 64) (h9 : d ≤ 9) (ss : s < s') {j : Nat} (hj : j < 30) (cd2 : 2 ≤ kz_dt (-((j : Int) + 1)) 1) (cd4 : kz_dt (-((j : Int) + 1)) 1 ≤ 4) (k21 : kz_dt (-((j : Int) + 1)) 2 = 1) {hc2 hm2 : qz_H} (fc2 : ∀ o i : Int, o ≠ 34 → o ≠ 30 → o ≠ 38 + d → ¬ (o = 37 + d ∧ i = 1) → ¬ ((o = M + 2 ∨ o = M + 3) ∧ i = m) → ¬ (o = M ∧ i = 4) → ¬ (o = M + 2 + 2 * c ∧ i = 5) → hc2 o i = hc o i) (fm2 : ∀ o i : Int, ¬ (o = 67 ∧ (32 ≤ i ∧ i ≤ 37 ∨ i = 23 ∨ i = 39)) → ¬ ((o = 84 ∨ o = 85) ∧ i = m) → ¬ (93 ≤ o ∧ o ≤ 97 ∧ i = d) → hm2 o i = hm o i) (b1 : hc2 (M + 2) m = -((j : Int) + 1)) (b2 : hc2 (M + 3) m = 0) (b3 : hc2 M 4 = m + 1) (b4 : hc2 (M + 2 + 2 * c) 5 = hc (M + 2 + 2 * c) 5 + 1) (b5 : hc2 (37 + d) 1 = 4) (w1 : hm2 84 m = kz_dt (-((j : Int) + 1)) 1) (w2 : hm2 85 m = 0) (w3 : hm2 67 23 = m + 1) (w8 : hm2 67 39 = d + 1) (xb : cz_lb t hc2 hm2 d) : cz_G t hc2 hm2 M c (m + 1) (d + 1) (d + 1) q (-1) s' := by
  obtain ⟨d0, d10, _, _, _, _⟩ := g.2.1.kind
  obtain ⟨c1, c4, m0, _, _, _, _, _, _, _, _, _, _⟩ := g.rows
  obtain ⟨gH, g5, gq⟩ := g
  have gH' := gH.rowV (hc' := hc2) (hm' := hm2) hM h64 (fun o i n1 n2 n3 n4 => fc2 o i (by omega) (by omega) (by omega) (by omega) n2 n3 n4) b3 b4 (fun o i n1 n2 n3 => fm2 o i (by omega) n3 (by omega)) (fm2 _ _ (by omega) (by omega) (by omega)) w3 (fm2 _ _ (by omega) (by omega) (by omega)) (by rw [b1]; omega) (by rw [b1]; exact w1) (by rw [b2, w2]) (by rw [b1, w2]; exact cz_vl1 k21 (by omega) (by omega)) (fun _ => h9) (by rw [w1]; omega) (u' := s') (by omega)
  rw [w1, show bz_dl (kz_dt (-((j : Int) + 1)) 1) = 1 by unfold bz_dl; rw [if_pos ⟨cd2, cd4⟩]] at gH'
  exact ⟨gH', g5.pushB h9 (fun o i n1 n2 n3 => fc2 o i (by omega) (by omega) (by omega) n3 (by omega) (by omega) (by omega)) b5 w8 (fun o i n1 n2 n3 => fm2 o i (by omega) (by omega) (by omega)) xb, by rw [if_pos rfl] at gq ⊢; omega⟩
theorem cz_block {k : Nat} {s : Int} {L : Nat} {c m d q : Int} (S : cz_S t N T M hc0 hm0 k hc hm 2 s L) (g : cz_G t hc hm M c m d d q (-1) s) (h5 : hc 30 5 = d + 2) (h6 : hc 30 6 = 0) (nn : ¬ cz_nt t 2 s L) {j : Nat} (hj : j < 30) (hop : hc 34 4 = -((j : Int) + 1)) (k21 : kz_dt (-((j : Int) + 1)) 2 = 1) : cz_out t N T M hc0 hm0 c s (cz_go k hc) (fn_Md_beginBlock 67 (kz_dt (-((j : Int) + 1)) 1) (c - 1) hm) := by
  have e := S.en
  have hM := e.hM
  obtain ⟨d0, d10, _, _, kk, kf⟩ := g.2.1.kind
  obtain ⟨c1, c4, m0, m64, r3, r4, r23, r15, r50, r51, q0, r39, r28⟩ := g.rows
  have hk1 : hc (37 + d) 0 = 3 ∨ hc (37 + d) 0 = 8 ∨ hc (37 + d) 0 = 9 := by have := kk rfl; omega
  obtain ⟨j5, j6, j10, cd2, cd4, j4⟩ : j ≠ 5 ∧ j ≠ 6 ∧ j ≠ 10 ∧ 2 ≤ kz_dt (-((j : Int) + 1)) 1 ∧ kz_dt (-((j : Int) + 1)) 1 ≤ 4 ∧ (kz_dt (-((j : Int) + 1)) 1 = 4 ↔ j = 4) := by
    have o30 := cz_o30 j hj
    have op1 := o30.1.mp k21
    have op2 := o30.2.1
    have op3 := o30.2.2.1
    have op4 := o30.2.2.2.1
    have op5 := o30.2.2.2.2.1
    clear o30
    exact ⟨by omega, by omega, by omega, op1.1, op1.2, op4⟩
  have lbX : ∀ w5 : Int, w5 = 0 → (((if j = 4 then (9 : Int) else 8) = 8 ∧ ¬ (kz_dt (-((j : Int) + 1)) 1 = 4 ∧ w5 = 0)) ∨ ((if j = 4 then (9 : Int) else 8) = 9 ∧ kz_dt (-((j : Int) + 1)) 1 = 4 ∧ w5 = 0)) := by
    intro w5 h
    by_cases h4 : j = 4
    · rw [if_pos h4]
      exact Or.inr ⟨rfl, j4.mpr h4, h⟩
    · rw [if_neg h4]
      exact Or.inl ⟨rfl, fun h => h4 (j4.mp h.1)⟩
  rw [cz_goB e d0 d10 h5 h6 hk1, cz_inB e S.tk (by omega) (by omega) nn]
  clear kk kf hk1 nn j4
  have e7 : cz_en t N T M hc0 hm0 (qz_up hc 30 7 (-2)) hm := e.uc (by omega)
  have sm7 : (qz_up hc 30 7 (-2)) 30 9 = hm 67 34 := by rw [cz_un (by omega)]; exact S.sm
  rw [cz_blkC (m := m) (c := c) e7 (by rw [cz_un (by omega)]; exact r3) c1 c4 (by rw [cz_un (by omega)]; exact r4) m0 (by rw [cz_un (by omega)]; exact r50) (by rw [cz_un (by omega)]; exact r51) d0 d10 (by rw [cz_un (by omega)]; exact h5) hj j5 j6 k21 (by rw [cz_un (by omega)]; exact hop), cz_bbM e (c - 1) r23 m0 r39 d0 d10]
  by_cases h64 : m < 64
  · obtain ⟨z1, z2, z3, z4, z5, z6⟩ := cz_hD_at (hc := qz_up hc 30 7 (-2)) (M := M) (c := c) (m := m) (d := d) (x := -((j : Int) + 1)) (a := 0) hM c1 c4 d0
    have z_ : ∀ o i : Int, ¬ ((o = M + 2 ∨ o = M + 3) ∧ i = m) → ¬ (o = M ∧ i = 4) → ¬ (o = M + 2 + 2 * c ∧ i = 5) → ¬ (o = 37 + d ∧ i = 1) → ¬ (o = 30 ∧ i = 6) → ¬ (o = 30 ∧ i = 7) → cz_hD (qz_up hc 30 7 (-2)) M c m d (-((j : Int) + 1)) 0 o i = hc o i := by
      intro o i n1 n2 n3 n4 n5 n6
      rw [cz_hD_un n1 n2 n3 n4 n5, cz_un n6]
    have z7 : cz_hD (qz_up hc 30 7 (-2)) M c m d (-((j : Int) + 1)) 0 30 7 = -2 := by
      rw [cz_hD_un (by omega) (by omega) (by omega) (by omega) (by omega), bz_us]
    rw [cz_un (show ¬ (M + 2 + 2 * c = 30 ∧ (5 : Int) = 7) by omega)] at z4
    have eD : cz_en t N T M hc0 hm0 (cz_hD (qz_up hc 30 7 (-2)) M c m d (-((j : Int) + 1)) 0) hm := e.fC (fun o i n => z_ o i (by omega) (by omega) (by omega) (by omega) (by omega) (by omega))
    rw [if_pos h64]
    generalize cz_hD (qz_up hc 30 7 (-2)) M c m d (-((j : Int) + 1)) 0 = W at z1 z2 z3 z4 z5 z6 z7 z_ eD ⊢
    by_cases h9 : d ≤ 9
    · rw [if_pos h9, if_pos (show m < 64 ∧ d ≤ 9 from ⟨h64, h9⟩)]
      obtain ⟨v0, v1, v2, _, _⟩ := cz_lv_k (hc := W) (x := d + 2) (k := if j = 4 then 9 else 8)
      rw [show 36 + (d + 2) = 38 + d by omega] at v0 v1 v2
      have v_ : ∀ o i : Int, ¬ (o = 30 ∧ i = 5) → ¬ (o = 38 + d ∧ 0 ≤ i ∧ i ≤ 4) → cz_lv W (d + 2) (if j = 4 then 9 else 8) o i = W o i := fun o i n1 n2 => cz_lv_un n1 (by omega)
      have v5 : cz_lv W (d + 2) (if j = 4 then 9 else 8) 30 5 = d + 3 := by rw [cz_lv_5 (by omega)]; omega
      generalize cz_lv W (d + 2) (if j = 4 then 9 else 8) = X at v0 v1 v2 v_ v5 ⊢
      obtain ⟨y1, y2, y3, y4, y5, y6, y7, y8⟩ := cz_BY_at (hm := hm) (m := m) (d := d) (x := kz_dt (-((j : Int) + 1)) 1)
      have y_ : ∀ o i : Int, ¬ ((o = 84 ∨ o = 85) ∧ i = m) → ¬ (o = 67 ∧ (i = 23 ∨ i = 39)) → ¬ (93 ≤ o ∧ o ≤ 97 ∧ i = d) → cz_BY hm m d (kz_dt (-((j : Int) + 1)) 1) o i = hm o i := fun o i n1 n2 n3 => cz_BY_un n1 n2 n3
      generalize cz_BY hm m d (kz_dt (-((j : Int) + 1)) 1) = Y at y1 y2 y3 y4 y5 y6 y7 y8 y_ ⊢
      have e1 : cz_en t N T M hc0 hm0 X Y := (eD.fC (fun o i n => v_ o i (by omega) (by omega))).fM (fun o i n => y_ o i (by omega) (by omega) (by omega))
      obtain ⟨hc2, hm2, kd', s', L', n1, n2, S2, ss, Fc, Fm⟩ := cz_adv S (by omega) e1 (by rw [v_ _ _ (by omega) (by omega)]; exact z_ _ _ (by omega) (by omega) (by omega) (by omega) (by omega) (by omega)) (by rw [v_ _ _ (by omega) (by omega)]; exact z_ _ _ (by omega) (by omega) (by omega) (by omega) (by omega) (by omega)) (y_ _ _ (by omega) (by omega) (by omega)) (by omega) (by omega)
      rw [n1, n2, bz_bc]
      have F_ : ∀ o i : Int, o ≠ 34 → o ≠ 30 → o ≠ 38 + d → hc2 o i = W o i := fun o i x1 x2 x3 => by rw [Fc o i (by omega) (by omega)]; exact v_ o i (by omega) (by omega)
      have fc2 : ∀ o i : Int, o ≠ 34 → o ≠ 30 → o ≠ 38 + d → ¬ (o = 37 + d ∧ i = 1) → ¬ ((o = M + 2 ∨ o = M + 3) ∧ i = m) → ¬ (o = M ∧ i = 4) → ¬ (o = M + 2 + 2 * c ∧ i = 5) → hc2 o i = hc o i := by
        intro o i x1 x2 x3 x4 x5 x6 x7
        rw [F_ o i x1 x2 x3]
        exact z_ o i x5 x6 x7 x4 (by omega) (by omega)
      have G_ : ∀ o i : Int, ¬ (o = 67 ∧ 32 ≤ i ∧ i ≤ 37) → hm2 o i = Y o i := Fm
      have fm2 : ∀ o i : Int, ¬ (o = 67 ∧ (32 ≤ i ∧ i ≤ 37 ∨ i = 23 ∨ i = 39)) → ¬ ((o = 84 ∨ o = 85) ∧ i = m) → ¬ (93 ≤ o ∧ o ≤ 97 ∧ i = d) → hm2 o i = hm o i := by
        intro o i x1 x2 x3
        rw [G_ o i (by omega)]
        exact y_ o i x2 (by omega) x3
      have b1 : hc2 (M + 2) m = -((j : Int) + 1) := by rw [F_ _ _ (by omega) (by omega) (by omega)]; exact z1
      have b2 : hc2 (M + 3) m = 0 := by rw [F_ _ _ (by omega) (by omega) (by omega)]; exact z2
      have b3 : hc2 M 4 = m + 1 := by rw [F_ _ _ (by omega) (by omega) (by omega)]; exact z3
      have b4 : hc2 (M + 2 + 2 * c) 5 = hc (M + 2 + 2 * c) 5 + 1 := by rw [F_ _ _ (by omega) (by omega) (by omega)]; exact z4
      have b5 : hc2 (37 + d) 1 = 4 := by rw [F_ _ _ (by omega) (by omega) (by omega)]; exact z5
      have p0 : hc2 (38 + d) 0 = (if j = 4 then 9 else 8) := by rw [Fc _ _ (by omega) (by omega)]; exact v0
      have p1 : hc2 (38 + d) 1 = 0 := by rw [Fc _ _ (by omega) (by omega)]; exact v1
      have p2 : hc2 (38 + d) 2 = -1 := by rw [Fc _ _ (by omega) (by omega)]; exact v2
      have w1 : hm2 84 m = kz_dt (-((j : Int) + 1)) 1 := by rw [G_ _ _ (by omega)]; exact y1
      have w2 : hm2 85 m = 0 := by rw [G_ _ _ (by omega)]; exact y2
      have w3 : hm2 67 23 = m + 1 := by rw [G_ _ _ (by omega)]; exact y3
      have w4 : hm2 94 d = 0 := by rw [G_ _ _ (by omega)]; exact y4
      have w5 : hm2 95 d = 0 := by rw [G_ _ _ (by omega)]; exact y5
      have w6 : hm2 93 d = kz_dt (-((j : Int) + 1)) 1 := by rw [G_ _ _ (by omega)]; exact y6
      have w7 : hm2 97 d = 0 := by rw [G_ _ _ (by omega)]; exact y7
      have w8 : hm2 67 39 = d + 1 := by rw [G_ _ _ (by omega)]; exact y8
      have xb : cz_lb t hc2 hm2 d := by
        refine ⟨w4, ?_, Or.inl ⟨p2, w7⟩⟩
        rw [p0, w6]
        exact lbX _ w5
      have g2 := cz_blkG (s' := s') g hM h64 h9 ss hj cd2 cd4 k21 fc2 fm2 b1 b2 b3 b4 b5 w1 w2 w3 w8 xb
      have R := cz_blkN S2 (d := d) (m := m + 1) (q := q) g2 d0 (by rw [Fc _ _ (by omega) (by omega)]; exact v5) (by rw [Fc _ _ (by omega) (by omega), v_ _ _ (by omega) (by omega)]; exact z6) (by rw [Fc _ _ (by omega) (by omega), v_ _ _ (by omega) (by omega)]; exact z7) p1 (by omega) (j := j) (by rw [show m + 1 - 1 = m by omega]; exact b1) j10 k21
      rw [show m + 1 - 1 = m by omega] at R
      exact R.mono (by omega)
    · left
      rw [if_neg h9, if_neg (by omega)]
      exact cz_badI eD (Or.inr rfl) (by rw [z_ _ _ (by omega) (by omega) (by omega) (by omega) (by omega) (by omega)]; exact S.sm)
  · left
    rw [if_neg h64, if_neg (by omega)]
    exact cz_badI e7 (Or.inr rfl) sm7
end SC
