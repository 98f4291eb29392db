/-! A function begins. -/
section SC
variable {t : Int → Int} {N T M : Int} {hc0 hm0 hc hm hc' hm' : qz_H}
/-- one function more, still empty -/
theorem cz_newF {c m q u : Int} (g1 : cz_G1 hc hm M c m) (g2 : cz_G2 t hc hm c) (g4 : cz_G4 t hc hm M m q u) (g6 : cz_G6 hm c m 0) (nr : ∀ j : Int, 0 ≤ j → j < q → hm 92 j ≠ -1) (qm : q ≤ m) (h36 : hc 36 0 = 2) (h35 : hc 35 0 = 0) (h35' : hc 35 1 = 3) (hM : M = 6 ∨ M = 18) (c3 : c ≤ 3) (fc : ∀ o i : Int, (o = M ∨ M + 2 ≤ o ∧ o ≤ M + 11 ∨ o = 32 ∨ o = 35 ∨ o = 36) → ¬ (o = M ∧ i = 3) → ¬ (o = M + 4 + 2 * c ∧ 1 ≤ i ∧ i ≤ 5) → ¬ (o = 32 ∧ i = c) → hc' o i = hc o i) (fm : ∀ o i : Int, (79 ≤ o ∧ o ≤ 99 ∨ o = 67 ∧ (i = 23 ∨ i = 28)) → ¬ ((o = 79 ∨ o = 80 ∨ o = 81 ∨ o = 83 ∨ o = 87) ∧ i = c) → hm' o i = hm o i) (y3 : hc' M 3 = c + 1) (f1 : hc' (M + 4 + 2 * c) 1 = 0) (f2 : hc' (M + 4 + 2 * c) 2 = 0) (f3 : hc' (M + 4 + 2 * c) 3 = 0) (f4 : hc' (M + 4 + 2 * c) 4 = m) (f5 : hc' (M + 4 + 2 * c) 5 = 0) (n32 : hc' 32 c = -1) (h37 : hc' 37 0 = 3) (z79 : hm' 79 c = 0) (z80 : hm' 80 c = 0) (z81 : hm' 81 c = 0) (z83 : hm' 83 c = m) (z87 : hm' 87 c = 0) (z15 : hm' 67 15 = c + 1) (z39 : hm' 67 39 = 0) {u' : Int} (hu : u ≤ u') : cz_G t hc' hm' M (c + 1) m 0 0 q (-1) u' := by
  obtain ⟨a1, a2, a3, a4, a5, a6, a7, a8, a9⟩ := g1
  have e83 : ∀ f : Int, f ≠ c → hm' 83 f = hm 83 f := fun f h => fm _ _ (by omega) (by omega)
  refine ⟨⟨⟨y3, z15, by omega, by omega, by rw [fc _ _ (by omega) (by omega) (by omega) (by omega)]; exact a5, by rw [fm _ _ (by omega) (by omega)]; exact a6, a7, a8, fun f f0 f1' => ?_⟩, ⟨fun f f0 f1' => ?_, fun f g f0 fg gc n1 n2 => ?_⟩, fun k k0 k1 => ?_, g4.same (fun o i h => fc o i (by omega) (by omega) (by omega) (by omega)) (fun o i h => fm o i (by omega) (by omega)) (fm _ _ (by omega) (by omega)) hu, ⟨fun f f0 f1' n hn => ?_, fun _ => ?_⟩, by omega⟩, ⟨z39, by omega, by omega, by omega, by rw [fc _ _ (by omega) (by omega) (by omega) (by omega)]; exact h36, h37, by rw [fc _ _ (by omega) (by omega) (by omega) (by omega)]; exact h35, by rw [fc _ _ (by omega) (by omega) (by omega) (by omega)]; exact h35', fun i i0 i1 => by omega, fun i i0 i1 => by omega, fun i i0 i1 i2 => by omega, fun i j i0 i1 i2 => by omega, fun j j0 j1 hj => ?_, Or.inl rfl⟩, by rw [if_pos rfl]; omega⟩
  · by_cases hf : f = c
    · subst hf
      refine ⟨⟨by rw [f1, z79], by rw [f2, z80], by rw [f3, z81], by rw [f4, z83], by omega, by omega, by omega, by omega, by omega, by omega, fun k k0 k1 => by omega⟩, by omega, by omega, fun h => by omega, fun _ => by rw [f5, z83]; omega⟩
    · obtain ⟨⟨b1, b2, b3, b4, b5, b6, b7, b8, b9, b10, b11⟩, b12, b13, b14, b15⟩ := a9 f f0 (by omega)
      have e79 : hm' 79 f = hm 79 f := fm _ _ (by omega) (by omega)
      have e80 : hm' 80 f = hm 80 f := fm _ _ (by omega) (by omega)
      have e81 : hm' 81 f = hm 81 f := fm _ _ (by omega) (by omega)
      have ef : ∀ i : Int, hc' (M + 4 + 2 * f) i = hc (M + 4 + 2 * f) i := fun i => fc _ _ (by omega) (by omega) (by omega) (by omega)
      refine ⟨⟨by rw [ef, e79]; exact b1, by rw [ef, e80]; exact b2, by rw [ef, e81]; exact b3, by rw [ef, e83 f hf]; exact b4, by omega, by omega, by omega, by omega, by omega, by omega, fun k k0 k1 => ?_⟩, by rw [e83 f hf]; exact b12, by rw [e83 f hf]; exact b13, fun h => ?_, fun h => by omega⟩
      · rw [fc _ _ (by omega) (by omega) (by omega) (by omega), fm _ _ (by omega) (by omega)]
        exact b11 k k0 (by omega)
      · rw [ef, e83 f hf]
        by_cases hl : f + 1 = c
        · rw [hl, z83]
          exact ⟨b13, b15 hl⟩
        · rw [e83 (f + 1) hl]
          exact b14 (by omega)
  · by_cases hf : f = c
    · rw [hf, n32, z87]
      exact Or.inl ⟨rfl, rfl⟩
    · rw [fc _ _ (by omega) (by omega) (by omega) (by omega), fm _ _ (by omega) (by omega), fm _ _ (by omega) (by omega)]
      exact g2.1 f f0 (by omega)
  · have hg : g ≠ c := fun h => n2 (by rw [h]; exact z87)
    have e86 : ∀ i : Int, i ≠ c → hm' 86 i = hm 86 i := fun i h => fm _ _ (by omega) (by omega)
    have e87 : ∀ i : Int, i ≠ c → hm' 87 i = hm 87 i := fun i h => fm _ _ (by omega) (by omega)
    rw [e87 f (by omega)] at n1
    rw [e87 g hg] at n2
    rw [e86 f (by omega), e86 g hg, e87 f (by omega), e87 g hg]
    exact g2.2 f g f0 fg (by omega) n1 n2
  · rw [show c + 1 - 1 = c by omega, z80] at k1
    omega
  · have e84 : ∀ i : Int, hm' 84 i = hm 84 i := fun i => fm _ _ (by omega) (by omega)
    by_cases hf : f = c
    · subst hf
      rw [if_neg (by omega), z83] at hn
      omega
    · rw [if_pos (by omega), e83 f hf] at hn
      rw [e83 f hf, e84, cz_nd_same (hm := hm) (fun i _ => e84 _)]
      refine g6.1 f f0 (by omega) n ?_
      by_cases hl : f + 1 = c
      · rw [hl, z83] at hn
        rw [if_neg (by omega)]; exact hn
      · rw [e83 (f + 1) hl] at hn
        rw [if_pos (by omega)]; exact hn
  · rw [show c + 1 - 1 = c by omega, z83, show m - m = 0 by omega]
    rfl
  · rw [fm _ _ (by omega) (by omega)] at hj
    exact absurd hj (nr j j0 j1)
/-- the name of the function, then its head -/
theorem cz_func {k : Nat} {kd s : Int} {L : Nat} {c m q : Int} (S : cz_S t N T M hc0 hm0 k hc hm kd s L) (g : cz_G t hc hm M c m 0 0 q (-1) s) (h5 : hc 30 5 = 2) (h6 : hc 30 6 = 0) (h7 : hc 30 7 = -2) (p0 : hc 37 1 = 0) (z80 : hm 80 (c - 1) = 0) (z79 : hm 79 (c - 1) = 0) (z87 : hm 87 (c - 1) = 0) : cz_end t N T M hc0 hm0 c (s - 1) (cz_go k hc) (qz_bc (fn_Md_isId 67 hm) fun r6 h7 => if r6 = 0 then fn_Md_readFunction_119 67 (c - 1) h7 else qz_bn (0 : Int) fun x8 => fn_Md_readFunction_42 qz_NF 67 (c - 1) x8 h7) := by
  have e := S.en
  have hM := e.hM
  have wN := e.w.2.1
  have s0 := S.tk.2.2.2.2.1
  obtain ⟨c1, c4, m0, m64, r3, r4, r23, r15, r50, r51, q0, r39, r28⟩ := g.rows
  have h37 : hc 37 0 = 3 := g.2.1.2.2.2.2.2.1
  rw [S.tk.nmM e.w e.tm, bz_bc]
  by_cases nt : cz_nt t kd s L
  · have hw : cz_wd t s L ∧ hm 67 35 = (L : Int) := by
      rcases S.tk.2.2.2.2.2.2 with h | h | h
      · have := nt.1; omega
      · exact ⟨h.2.1, h.2.2.2.2.1⟩
      · have := nt.1; omega
    have kd2 := nt.1
    have g2 := g.1.2.1
    rw [if_pos nt, if_neg (show ¬ (1 : Int) = 0 by omega), bz_bn]
    obtain ⟨x, x1, x2⟩ := cz_fnC0 (hc := qz_up hc 30 7 (-2)) (e.uc (by omega)) (c := c) (by rw [cz_un (by omega)]; exact r3) (by omega) c4 hw.1 (fun f f0 f1 => by rw [cz_un (by omega)]; exact g2.1 f f0 f1)
    obtain ⟨y1, y2⟩ := cz_fnM0 e c1 c4 hw.1 S.tk.2.2.1 hw.2 (fun f f0 f1 => g2.1 f f0 (by omega))
    have e7 : cz_en t N T M hc0 hm0 (qz_up hc 30 7 (-2)) hm := e.uc (by omega)
    have t7 : cz_tk t N (qz_up hc 30 7 (-2)) hm kd s L := S.tk.fC (fun i _ _ => cz_un (by omega))
    have sm7 : (qz_up hc 30 7 (-2)) 30 9 = hm 67 34 := by rw [cz_un (by omega)]; exact S.sm
    rw [cz_goB e (d := 0) (by omega) (by omega) h5 h6 (Or.inl h37), show (37 : Int) + 0 = 37 by omega]
    have C : fn_Reader_inBody 30 37 hc = if x < 0 then some (0, qz_up (qz_up (qz_up (qz_up hc 30 7 (-2)) 32 (c - 1) s) 37 1 1) 37 2 s) else some (1, qz_up hc 30 7 (-2)) := by
      have e8 : cz_en t N T M hc0 hm0 (qz_up (qz_up hc 30 7 (-2)) 32 (c - 1) s) hm := e7.uc (by omega)
      have e9 : cz_en t N T M hc0 hm0 (qz_up (qz_up (qz_up hc 30 7 (-2)) 32 (c - 1) s) 37 1 1) hm := e8.uc (by omega)
      unfold fn_Reader_inBody
      rw [bz_bn, bz_ck (by omega), bz_bn, bz_c30_0 e7.tc.1, bz_ck (by omega), t7.1, if_pos (by omega), bz_ck (by omega), if_pos (by omega), bz_ck (by omega), t7.nmC e7.w e7.tc, bz_bc, if_pos nt, if_pos (show ¬ (1 : Int) = 0 by omega), if_neg (show ¬ ¬ hc 30 7 = -2 by omega), cz_bb]
      unfold fn_Reader_giveName fn_Reader_giveName_13 fn_Reader_giveName_39 fn_Reader_giveName_41 fn_Reader_setFunctionName fn_Reader_setFunctionName_26 fn_Reader_giveName_56
      rw [bz_ck (by omega), cz_un (show ¬ ((37 : Int) = 30 ∧ (0 : Int) = 7) by omega), if_neg (show ¬ ¬ hc 37 0 = 3 by omega), bz_bn, bz_ck (by omega), cz_un (show ¬ ((37 : Int) = 30 ∧ (1 : Int) = 7) by omega), if_neg (show ¬ ¬ hc 37 1 = 0 by omega), if_neg (show ¬ (1 : Int) = 0 by omega), bz_c30_0 e7.tc.1, bz_ck (by omega), t7.2.1, x1, bz_bc]
      by_cases hx : x < 0
      · rw [if_pos hx, if_pos hx, if_neg (show ¬ (1 : Int) = 0 by omega), bz_c30_0 e7.tc.1, bz_ck (by omega), e7.m4, bz_ck (by omega), show (qz_up hc 30 7 (-2)) M 3 = c by rw [cz_un (by omega)]; exact r3, bz_w (by omega) (by omega), bz_bn, if_neg (by omega), if_neg (by omega), bz_c30_2 e7.tc.1, bz_ck (by omega), bz_c32_m1 e7.tc.1, bz_ck (by omega), bz_bn, bz_bc, bz_ck (by omega), bz_ck (by omega), bz_bn, t7.2.1, bz_c30_0 e9.tc.1, bz_ck (by omega), bz_ck (by omega), bz_ck (by omega), bz_bn, cz_un (show ¬ ((34 : Int) = 37 ∧ (2 : Int) = 1) by omega), cz_un (show ¬ ((34 : Int) = 32 ∧ (2 : Int) = c - 1) by omega), t7.2.1]
      · rw [if_neg hx, if_neg hx]
    rw [C]
    rcases x2 with ⟨hx, no⟩ | ⟨hx, hxc, yes⟩
    · rw [if_pos (by omega), y2 (fun f f0 f1 => no f f0 (by omega))]
      unfold fn_Md_readFunction_105
      have e8 : cz_en t N T M hc0 hm0 hc (qz_up hm 86 (c - 1) s) := e.um (by omega)
      rw [bz_m67_25 e8.tm.1, bz_ck (by omega), bz_m87_m1 e8.tm.1, bz_ck (by omega), bz_bn, show (qz_up hm 86 (c - 1) s) 67 35 = (L : Int) by rw [cz_un (by omega)]; exact hw.2]
      have e9 : cz_en t N T M hc0 hm0 (qz_up (qz_up (qz_up (qz_up hc 30 7 (-2)) 32 (c - 1) s) 37 1 1) 37 2 s) (qz_up (qz_up hm 86 (c - 1) s) 87 (c - 1) (L : Int)) := ((((((e.um (by omega)).um (by omega)).uc (by omega)).uc (by omega)).uc (by omega)).uc (by omega))
      obtain ⟨hc2, hm2, kd', s', L', n1, n2, S2, ss, Fc, Fm⟩ := cz_adv S (by omega) e9 (by simp (disch := omega) only [cz_un]) (by simp (disch := omega) only [cz_un]) (by simp (disch := omega) only [cz_un]) (by simp (disch := omega) only [cz_un]; omega) (by simp (disch := omega) only [cz_un]; omega)
      rw [n1, n2, bz_bc]
      clear nt C y1 y2 x1
      have fc2 : ∀ o i : Int, o ≠ 34 → ¬ (o = 30 ∧ (i = 7 ∨ i = 9)) → ¬ (o = 32 ∧ i = c - 1) → ¬ (o = 37 ∧ (i = 1 ∨ i = 2)) → hc2 o i = hc o i := by
        intro o i x1 x2 x3 x4
        rw [Fc o i (by omega) (by omega)]
        simp (disch := omega) only [cz_un]
      have fm2 : ∀ o i : Int, ¬ (o = 67 ∧ 32 ≤ i ∧ i ≤ 37) → ¬ ((o = 86 ∨ o = 87) ∧ i = c - 1) → hm2 o i = hm o i := by
        intro o i x1 x2
        rw [Fm o i x1]
        simp (disch := omega) only [cz_un]
      have a7 : hc2 30 7 = -2 := by rw [Fc _ _ (by omega) (by omega)]; simp (disch := omega) only [cz_un, bz_us]
      have b32 : hc2 32 (c - 1) = s := by rw [Fc _ _ (by omega) (by omega)]; simp (disch := omega) only [cz_un, bz_us]
      have b1 : hc2 37 1 = 1 := by rw [Fc _ _ (by omega) (by omega)]; simp (disch := omega) only [cz_un, bz_us]
      have w6 : hm2 86 (c - 1) = s := by rw [Fm _ _ (by omega)]; simp (disch := omega) only [cz_un, bz_us]
      have w7 : hm2 87 (c - 1) = (L : Int) := by rw [Fm _ _ (by omega)]; simp (disch := omega) only [cz_un, bz_us]
      have g2' : cz_G t hc2 hm2 M c m 0 0 q (-1) s' := by
        obtain ⟨⟨u1, u2, u3, u4, u6, u7⟩, u5, uq⟩ := g
        refine ⟨⟨u1.same hM (fun o i h => fc2 o i (by omega) (by omega) (by omega) (by omega)) (fun o i h1 h2 => fm2 o i (by omega) (by omega)) (fm2 _ _ (by omega) (by omega)) (fm2 _ _ (by omega) (by omega)), ⟨fun f f0 f1 => ?_, fun f f' f0 ff fc' n1 n2 => ?_⟩, u3.same (fun i => fc2 _ _ (by omega) (by omega) (by omega) (by omega)) (fun o i h => fm2 _ _ (by omega) (by omega)), u4.same (fun o i h => fc2 o i (by omega) (by omega) (by omega) (by omega)) (fun o i h => fm2 o i (by omega) (by omega)) (fm2 _ _ (by omega) (by omega)) (by omega), u6.same (fun o i h => fm2 o i (by omega) (by omega)), u7⟩, ?_, uq⟩
        · by_cases hf : f = c - 1
          · rw [hf, b32, w6, w7]
            exact Or.inr ⟨rfl, L, rfl, hw.1⟩
          · rw [fc2 _ _ (by omega) (by omega) (by omega) (by omega), fm2 _ _ (by omega) (by omega), fm2 _ _ (by omega) (by omega)]
            exact u2.1 f f0 f1
        · have e86 : ∀ i : Int, i ≠ c - 1 → hm2 86 i = hm 86 i := fun i h => fm2 _ _ (by omega) (by omega)
          have e87 : ∀ i : Int, i ≠ c - 1 → hm2 87 i = hm 87 i := fun i h => fm2 _ _ (by omega) (by omega)
          rw [e87 f (by omega)] at n1
          by_cases hf : f' = c - 1
          · rw [hf, w6, w7, Int.toNat_natCast, e86 f (by omega), e87 f (by omega)]
            exact fun h => no f f0 (by omega) ⟨n1, h⟩
          · rw [e87 f' hf] at n2
            rw [e86 f (by omega), e86 f' hf, e87 f (by omega), e87 f' hf]
            exact u2.2 f f' f0 ff fc' n1 n2
        · obtain ⟨p1, p2, p3, p4, p5, p6, p7, p8, p9, p10, p11, p12, p13, p14⟩ := u5
          refine ⟨by rw [fm2 _ _ (by omega) (by omega)]; exact p1, p2, p3, p4, by rw [fc2 _ _ (by omega) (by omega) (by omega) (by omega)]; exact p5, by rw [fc2 _ _ (by omega) (by omega) (by omega) (by omega)]; exact p6, by rw [fc2 _ _ (by omega) (by omega) (by omega) (by omega)]; exact p7, by rw [fc2 _ _ (by omega) (by omega) (by omega) (by omega)]; exact p8, fun i i0 i1 => by omega, fun i i0 i1 => by omega, fun i i0 i1 i2 => by omega, fun i j i0 i1 i2 => by omega, fun j j0 j1 hj => ?_, Or.inl rfl⟩
          rw [fm2 _ _ (by omega) (by omega)] at hj
          rcases p13 j j0 j1 hj with h | ⟨i, i0, i1, _⟩
          · exact Or.inl h
          · omega
      unfold fn_Md_readFunction_119
      rw [bz_bn, bz_bn]
      refine (cz_head (l2 := 0) qz_NF S2 g2' ?_ ?_ a7 (Or.inl ⟨Or.inr b1, rfl⟩) (fun h => by omega) (fun _ => ?_) (by have : (qz_NF : Int) = 4000 := rfl; omega)).mono (by omega)
      · rw [fc2 _ _ (by omega) (by omega) (by omega) (by omega)]; exact h5
      · rw [fc2 _ _ (by omega) (by omega) (by omega) (by omega)]; exact h6
      · rw [fm2 _ _ (by omega) (by omega), fm2 _ _ (by omega) (by omega), z79, z80]
    · left
      rw [if_neg (by omega), y1 ⟨x, hx, by
        by_cases hf : x = c - 1
        · rw [hf] at yes; exact absurd z87 yes.1
        · omega, yes⟩]
      exact cz_badI e7 (Or.inl rfl) sm7
  · rw [if_neg nt, if_pos rfl]
    unfold fn_Md_readFunction_119
    rw [bz_bn, bz_bn]
    exact (cz_head (l2 := 0) qz_NF S g h5 h6 h7 (Or.inl ⟨Or.inl p0, rfl⟩) (fun _ => nt) (fun _ => by rw [z79, z80]) (by have : (qz_NF : Int) = 4000 := rfl; omega)).mono (by omega)
end SC
