/-! An instruction in a body: what the class does with it; the plain ones. -/
section SC
variable {t : Int → Int} {N T M : Int} {hc0 hm0 hc hm hc' hm' : qz_H}
theorem cz_inB (e : cz_en t N T M hc0 hm0 hc hm) {kd s : Int} {L : Nat} (tk : cz_tk t N hc hm kd s L) (k0 : kd ≠ 0) (k1 : kd ≠ 1) (nn : ¬ cz_nt t kd s L) (l : Int) : fn_Reader_inBody 30 l hc = fn_Reader_instructionIn 30 l (qz_up hc 30 7 (-2)) := by
  have e1 : cz_en t N T M hc0 hm0 (qz_up hc 30 7 (-2)) hm := e.uc (by omega)
  have tk1 : cz_tk t N (qz_up hc 30 7 (-2)) hm kd s L := tk.fC (fun i _ _ => cz_un (by omega))
  unfold fn_Reader_inBody
  rw [bz_bn, bz_ck (by omega), bz_bn, bz_c30_0 e1.tc.1, bz_ck (by omega), tk1.1, if_pos k0, bz_ck (by omega), if_pos k1, bz_ck (by omega), tk1.nmC e1.w e1.tc, bz_bc, if_neg nn, if_neg (show ¬ ¬ (0 : Int) = 0 by omega), cz_bb]
def cz_hD (hc : qz_H) (M c m d x a : Int) : qz_H := qz_up (qz_up (qz_up (qz_up (qz_up (qz_up hc (M + 2) m x) (M + 3) m 0) M 4 (m + 1)) (M + 2 + 2 * c) 5 (hc (M + 2 + 2 * c) 5 + 1)) (37 + d) 1 4) 30 6 a
theorem cz_hD_un {c m d x a : Int} {o i : Int} (n1 : ¬ ((o = M + 2 ∨ o = M + 3) ∧ i = m)) (n2 : ¬ (o = M ∧ i = 4)) (n3 : ¬ (o = M + 2 + 2 * c ∧ i = 5)) (n4 : ¬ (o = 37 + d ∧ i = 1)) (n5 : ¬ (o = 30 ∧ i = 6)) : cz_hD hc M c m d x a o i = hc o i := by
  unfold cz_hD
  simp (disch := omega) only [cz_un]
theorem cz_hD_at {c m d x a : Int} (hM : M = 6 ∨ M = 18) (c1 : 1 ≤ c) (c4 : c ≤ 4) (d0 : 0 ≤ d) : cz_hD hc M c m d x a (M + 2) m = x ∧ cz_hD hc M c m d x a (M + 3) m = 0 ∧ cz_hD hc M c m d x a M 4 = m + 1 ∧ cz_hD hc M c m d x a (M + 2 + 2 * c) 5 = hc (M + 2 + 2 * c) 5 + 1 ∧ cz_hD hc M c m d x a (37 + d) 1 = 4 ∧ cz_hD hc M c m d x a 30 6 = a := by
  unfold cz_hD
  refine ⟨?_, ?_, ?_, ?_, ?_, ?_⟩ <;> simp (disch := omega) only [cz_un, bz_us]
theorem cz_i44 (e : cz_en t N T M hc0 hm0 hc hm) {c m d : Int} (m3 : hc M 3 = c) (c1 : 1 ≤ c) (c4 : c ≤ 4) (m4 : hc M 4 = m) (m0 : 0 ≤ m) (y0 : 0 ≤ hc (M + 2 + 2 * c) 5) (y1 : hc (M + 2 + 2 * c) 5 ≤ 64) (d0 : 0 ≤ d) (d10 : d ≤ 10) {j : Nat} (hj : j < 30) : fn_Reader_instructionIn_44 30 (37 + d) (-((j : Int) + 1)) hc = if m < 64 then (if kz_dt (-((j : Int) + 1)) 2 = 1 then fn_Reader_instructionIn_93 30 (if j = 4 then 9 else 8) (cz_hD hc M c m d (-((j : Int) + 1)) (if kz_dt (-((j : Int) + 1)) 2 = 0 ∨ kz_dt (-((j : Int) + 1)) 2 = 1 then 0 else 1)) else if j = 5 then fn_Reader_instructionIn_126 30 (37 + d) (-((j : Int) + 1)) (qz_up (qz_up (cz_hD hc M c m d (-((j : Int) + 1)) (if kz_dt (-((j : Int) + 1)) 2 = 0 ∨ kz_dt (-((j : Int) + 1)) 2 = 1 then 0 else 1)) 30 7 (hc (37 + d) 2)) (37 + d) 0 8) else fn_Reader_instructionIn_126 30 (37 + d) (-((j : Int) + 1)) (cz_hD hc M c m d (-((j : Int) + 1)) (if kz_dt (-((j : Int) + 1)) 2 = 0 ∨ kz_dt (-((j : Int) + 1)) 2 = 1 then 0 else 1))) else some (2, hc) := by
  have hM := e.hM
  unfold fn_Reader_instructionIn_44
  rw [e.m4, bz_ck (by omega), cz_add e m3 c1 c4 m4 m0 (by omega) y0 y1]
  by_cases h : m < 64
  · have e1 : cz_en t N T M hc0 hm0 (qz_up (qz_up (qz_up (qz_up (qz_up hc (M + 2) m (-((j : Int) + 1))) (M + 3) m 0) M 4 (m + 1)) (M + 2 + 2 * c) 5 (hc (M + 2 + 2 * c) 5 + 1)) (37 + d) 1 4) hm := ((((e.uc (by omega)).uc (by omega)).uc (by omega)).uc (by omega)).uc (by omega)
    have e2 : ∀ a, cz_en t N T M hc0 hm0 (cz_hD hc M c m d (-((j : Int) + 1)) a) hm := fun a => e1.uc (by omega)
    rw [if_pos h, if_pos h, bz_bc, if_pos (show ¬ (1 : Int) = 0 by omega), bz_ck (by omega), bz_ck (by omega), bz_bn, bz_ck (by omega), cz_awC e1.tc.1 hj, bz_bc, bz_ck (by split <;> omega), bz_ck (by omega), bz_bn, bz_ck (by omega)]
    generalize (if kz_dt (-((j : Int) + 1)) 2 = 0 ∨ kz_dt (-((j : Int) + 1)) 2 = 1 then (0 : Int) else 1) = a
    have := cz_obC (e2 a).tc.1 hj
    unfold cz_hD at this ⊢
    rw [this, bz_bc]
    by_cases ho : kz_dt (-((j : Int) + 1)) 2 = 1
    · rw [if_pos ho, if_pos ho, if_neg (show ¬ (1 : Int) = 0 by omega)]
      by_cases h4 : j = 4
      · rw [if_pos h4, if_neg (show ¬ ¬ -((j : Int) + 1) = -5 by omega)]
      · rw [if_neg h4, if_pos (show ¬ -((j : Int) + 1) = -5 by omega)]
    · rw [if_neg ho, if_neg ho, if_pos rfl]
      by_cases h5 : j = 5
      · rw [if_pos h5, if_neg (show ¬ ¬ -((j : Int) + 1) = -6 by omega), bz_ck (by omega), bz_ck (by omega), bz_bn, bz_ck (by omega), bz_ck (by omega), bz_bn]
        congr 3
        simp (disch := omega) only [cz_un]
      · rw [if_neg h5, if_pos (show ¬ -((j : Int) + 1) = -6 by omega)]
  · rw [if_neg h, if_neg h, bz_bc, if_neg (show ¬ ¬ (0 : Int) = 0 by omega)]
theorem cz_G.rows {c m d b q e' u : Int} (g : cz_G t hc hm M c m d b q e' u) : 1 ≤ c ∧ c ≤ 4 ∧ 0 ≤ m ∧ m ≤ 64 ∧ hc M 3 = c ∧ hc M 4 = m ∧ hm 67 23 = m ∧ hm 67 15 = c ∧ 0 ≤ hc (M + 2 + 2 * c) 5 ∧ hc (M + 2 + 2 * c) 5 ≤ 64 ∧ 0 ≤ q ∧ hm 67 39 = d ∧ hm 67 28 = q := by
  obtain ⟨gH, g5, gq⟩ := g
  have c1 : 1 ≤ c := gH.2.2.2.2.2
  obtain ⟨a1, a2, a3, a4, a5, a6, a7, a8, a9⟩ := gH.1
  have gf := a9 (c - 1) (by omega) (by omega)
  have y5 := gf.2.2.2.2 (by omega)
  have y83 := gf.2.1
  have y83' := gf.2.2.1
  rw [show M + 4 + 2 * (c - 1) = M + 2 + 2 * c by omega] at y5
  exact ⟨c1, a4, a7, a8, a1, a5, a6, a2, by omega, by omega, gH.2.2.2.1.2.1, g5.1, gH.2.2.2.1.1⟩
def cz_np (j : Nat) : Prop := ¬ (2 ≤ kz_dt (-((j : Int) + 1)) 1 ∧ kz_dt (-((j : Int) + 1)) 1 ≤ 5 ∨ kz_dt (-((j : Int) + 1)) 1 = 11)
theorem cz_plain {k : Nat} {s : Int} {L : Nat} {c m d q : Int} (S : cz_S t N T M hc0 hm0 k hc hm 2 s L) (g : cz_G t hc hm M c m d d q (-1) s) (h5 : hc 30 5 = d + 2) (h6 : hc 30 6 = 0) (nn : ¬ cz_nt t 2 s L) {j : Nat} (hj : j < 30) (hop : hc 34 4 = -((j : Int) + 1)) (hp : ¬ (2 ≤ kz_dt (-((j : Int) + 1)) 1 ∧ kz_dt (-((j : Int) + 1)) 1 ≤ 5 ∨ kz_dt (-((j : Int) + 1)) 1 = 11)) : cz_out t N T M hc0 hm0 c s (cz_go k hc) (fn_Md_readInstruction_39 67 (c - 1) (kz_dt (-((j : Int) + 1)) 1) hm) := by
  have e := S.en
  have hM := e.hM
  obtain ⟨d0, d10, _, _, kk, kf⟩ := g.2.1.kind
  obtain ⟨c1, c4, m0, m64, r3, r4, r23, r15, r50, r51, q0, r39, r28⟩ := g.rows
  obtain ⟨j5, j6, nd, r20⟩ : j ≠ 5 ∧ j ≠ 6 ∧ kz_dt (-((j : Int) + 1)) 2 ≠ 1 ∧ 0 ≤ kz_dt (-((j : Int) + 1)) 2 := by
    have o30 := cz_o30 j hj
    have op1 := o30.1
    have op2 := o30.2.1
    have op3 := o30.2.2.1
    have := o30.2.2.2.2.2.2.2.2.2.2.1
    clear o30
    omega
  have hk1 : hc (37 + d) 0 = 3 ∨ hc (37 + d) 0 = 8 ∨ hc (37 + d) 0 = 9 := by have := kk rfl; omega
  have hk7 : hc (37 + d) 0 ≠ 7 := by omega
  have hP : cz_np j := hp
  have kI0 : kz_dt (-((j : Int) + 1)) 2 = 0 → cz_vl (-((j : Int) + 1)) 0 := cz_kq0 j hj
  clear kk kf
  rw [cz_goB e d0 d10 h5 h6 hk1, cz_inB e S.tk (by omega) (by omega) nn]
  have e7 : cz_en t N T M hc0 hm0 (qz_up hc 30 7 (-2)) hm := e.uc (by omega)
  unfold fn_Reader_instructionIn fn_Reader_instructionIn_28 fn_Md_readInstruction_39 fn_Md_readInstruction_68
  rw [bz_c30_0 e7.tc.1, bz_ck (by omega), show (qz_up hc 30 7 (-2)) 34 4 = -((j : Int) + 1) by rw [cz_un (by omega)]; exact hop, bz_bn, if_neg (by omega), if_pos (by omega), if_pos (by omega), cz_i44 (m := m) (c := c) e7 (by rw [cz_un (by omega)]; exact r3) c1 c4 (by rw [cz_un (by omega)]; exact r4) m0 (by rw [cz_un (by omega)]; exact r50) (by rw [cz_un (by omega)]; exact r51) d0 d10 hj, cz_plM, bz_bc, if_neg hp, if_pos (show ¬ (1 : Int) = 0 by omega), cz_room e, r23]
  clear hp hk1
  by_cases hm64 : m < 64
  · rw [if_pos hm64, if_pos hm64, if_neg (by omega), if_neg (by omega), bz_bc, if_neg (show ¬ (1 : Int) = 0 by omega)]
    unfold fn_Reader_instructionIn_126
    rw [if_pos (by omega), cz_RI_eq]
    obtain ⟨z1, z2, z3, z4, z5, z6⟩ := cz_hD_at (hc := qz_up hc 30 7 (-2)) (M := M) (c := c) (m := m) (d := d) (x := -((j : Int) + 1)) (a := if kz_dt (-((j : Int) + 1)) 2 = 0 ∨ kz_dt (-((j : Int) + 1)) 2 = 1 then 0 else 1) hM c1 c4 d0
    have z_ : ∀ o i : Int, ¬ ((o = M + 2 ∨ o = M + 3) ∧ i = m) → ¬ (o = M ∧ i = 4) → ¬ (o = M + 2 + 2 * c ∧ i = 5) → ¬ (o = 37 + d ∧ i = 1) → ¬ (o = 30 ∧ i = 6) → ¬ (o = 30 ∧ i = 7) → cz_hD (qz_up hc 30 7 (-2)) M c m d (-((j : Int) + 1)) (if kz_dt (-((j : Int) + 1)) 2 = 0 ∨ kz_dt (-((j : Int) + 1)) 2 = 1 then 0 else 1) o i = hc o i := by
      intro o i n1 n2 n3 n4 n5 n6
      rw [cz_hD_un n1 n2 n3 n4 n5, cz_un n6]
    have z7 : cz_hD (qz_up hc 30 7 (-2)) M c m d (-((j : Int) + 1)) (if kz_dt (-((j : Int) + 1)) 2 = 0 ∨ kz_dt (-((j : Int) + 1)) 2 = 1 then 0 else 1) 30 7 = -2 := by
      rw [cz_hD_un (by omega) (by omega) (by omega) (by omega) (by omega), bz_us]
    generalize cz_hD (qz_up hc 30 7 (-2)) M c m d (-((j : Int) + 1)) (if kz_dt (-((j : Int) + 1)) 2 = 0 ∨ kz_dt (-((j : Int) + 1)) 2 = 1 then 0 else 1) = X at z1 z2 z3 z4 z5 z6 z7 z_ ⊢
    rw [cz_un (show ¬ (M + 2 + 2 * c = 30 ∧ (5 : Int) = 7) by omega)] at z4
    have e1 : cz_en t N T M hc0 hm0 X (qz_up (qz_up hm 67 47 0) 67 48 (-1)) := ((e.fC (fun o i n => z_ o i (by omega) (by omega) (by omega) (by omega) (by omega) (by omega))).um (by omega)).um (by omega)
    obtain ⟨hc2, hm2, kd', s', L', n1, n2, S2, ss, Fc, Fm⟩ := cz_adv S (by omega) e1 (z_ _ _ (by omega) (by omega) (by omega) (by omega) (by omega) (by omega)) (z_ _ _ (by omega) (by omega) (by omega) (by omega) (by omega) (by omega)) (by simp (disch := omega) only [cz_un]) (by rw [z_ _ _ (by omega) (by omega) (by omega) (by omega) (by omega) (by omega)]; omega) (by rw [z_ _ _ (by omega) (by omega) (by omega) (by omega) (by omega) (by omega)]; omega)
    rw [n1, n2, bz_bc]
    have F_ : ∀ o i : Int, o ≠ 34 → o ≠ 30 → hc2 o i = X o i := fun o i x1 x2 => Fc o i (by omega) (by omega)
    have fc2 : ∀ o i : Int, o ≠ 34 → o ≠ 30 → ¬ (o = 37 + d ∧ i = 1) → ¬ ((o = M + 2 ∨ o = M + 3) ∧ i = m) → ¬ (o = M ∧ i = 4) → ¬ (o = M + 2 + 2 * c ∧ i = 5) → hc2 o i = hc o i := by
      intro o i x1 x2 x3 x4 x5 x6
      rw [F_ o i x1 x2]
      exact z_ o i x4 x5 x6 x3 (by omega) (by omega)
    have b1 : hc2 (M + 2) m = -((j : Int) + 1) := by rw [F_ _ _ (by omega) (by omega)]; exact z1
    have b2 : hc2 (M + 3) m = 0 := by rw [F_ _ _ (by omega) (by omega)]; exact z2
    have b3 : hc2 M 4 = m + 1 := by rw [F_ _ _ (by omega) (by omega)]; exact z3
    have b4 : hc2 (M + 2 + 2 * c) 5 = hc (M + 2 + 2 * c) 5 + 1 := by rw [F_ _ _ (by omega) (by omega)]; exact z4
    have b5 : hc2 (37 + d) 1 = 4 := by rw [F_ _ _ (by omega) (by omega)]; exact z5
    have b0 : hc2 (37 + d) 0 = hc (37 + d) 0 := fc2 _ _ (by omega) (by omega) (by omega) (by omega) (by omega) (by omega)
    have a5 : hc2 30 5 = d + 2 := by
      rw [Fc _ _ (by omega) (by omega), z_ _ _ (by omega) (by omega) (by omega) (by omega) (by omega) (by omega)]; exact h5
    have a6 : hc2 30 6 = (if kz_dt (-((j : Int) + 1)) 2 = 0 ∨ kz_dt (-((j : Int) + 1)) 2 = 1 then 0 else 1) := by
      rw [Fc _ _ (by omega) (by omega)]; exact z6
    have a7 : hc2 30 7 = -2 := by
      rw [Fc _ _ (by omega) (by omega)]; exact z7
    have m47 : hm2 67 47 = 0 := by
      rw [Fm _ _ (by omega)]
      simp (disch := omega) only [cz_un, bz_us]
    have m48 : hm2 67 48 = -1 := by
      rw [Fm _ _ (by omega)]
      simp (disch := omega) only [cz_un, bz_us]
    have fm2 : ∀ o i : Int, ¬ (o = 67 ∧ (32 ≤ i ∧ i ≤ 37 ∨ i = 47 ∨ i = 48)) → hm2 o i = hm o i := by
      intro o i x1
      rw [Fm o i (by omega)]
      simp (disch := omega) only [cz_un]
    by_cases h2 : kz_dt (-((j : Int) + 1)) 2 = 0 ∨ kz_dt (-((j : Int) + 1)) 2 = 1
    · rw [cz_RI0 _ _ hj h2]
      rw [if_pos h2] at a6
      rw [bz_bc, if_pos (show ¬ (1 : Int) = 0 by omega)]
      obtain ⟨h, w1, w2⟩ := cz_plainF g hm64 hj hP S2 ss fc2 b3 b4 b1 b2 a5 a6 a7 b5 (Or.inl ⟨kI0 (by omega), m47, m48, fm2⟩)
      exact Or.inr ⟨_, _, _, _, _, _, rfl, w1, ss, w2⟩
    · rw [if_neg h2] at a6
      have o2 : 2 ≤ kz_dt (-((j : Int) + 1)) 2 := by
        omega
      have eC : cz_en t N T M hc0 hm0 (qz_up hc2 30 6 0) hm2 := S2.en.uc (by omega)
      have tC : cz_tk t N (qz_up hc2 30 6 0) hm2 kd' s' L' := S2.tk.fC (fun i _ _ => cz_un (by omega))
      have R := cz_opdG g eC tC m48 hj o2 (fun o i x => by rw [cz_un (by omega)]; exact fc2 o i (by omega) (by omega) (by omega) (by omega) (by omega) (by omega)) (fun o i x => fm2 o i (by omega)) (Or.inl (by rw [cz_un (by omega)]; exact a5))
      by_cases k2 : kd' = 2
      · have rf : ∃ r h, fn_Reader_readOperand 30 (kz_dt (-((j : Int) + 1)) 2) (qz_up hc2 30 6 0) = some (r, h) ∧ ∀ o i : Int, ¬ (o = 34 ∧ i = 5) → ¬ (o = 30 ∧ i = 8) → h o i = (qz_up hc2 30 6 0) o i := by
          rcases R with ⟨hm3, r1, r2, r3⟩ | ⟨k2, hc3, hm3, v, r1, r2, r3, r4, r5⟩
          · rcases r3 with r3 | ⟨hc3, r3, r4⟩
            · exact absurd k2 r3
            · exact ⟨_, _, r3, r4⟩
          · exact ⟨_, _, r1, r2⟩
        obtain ⟨rr, hh, f1, f2⟩ := rf
        rw [cz_inOpP S2.en S2.tk d0 d10 a5 a6 (by omega) hj b3 m0 hm64 b1 (fun h r hr o i x1 x2 => by
          rw [f1] at hr
          cases hr
          rw [f2 _ _ (by omega) (by omega), cz_un (by omega)]) (fun h r hr => by
          rw [f1] at hr
          cases hr
          rw [f2 _ _ (by omega) (by omega), cz_un (by omega)]
          exact S2.en.m4)]
        clear f1 f2
        rcases R with ⟨hm3, r1, r2, r3⟩ | ⟨k2, hc3, hm3, v, r1, r2, r3, r4, r5⟩
        · left
          rw [r1, bz_bc, if_neg (show ¬ ¬ (0 : Int) = 0 by omega), bz_ck (by omega)]
          have e3 : cz_en t N T M hc0 hm0 (qz_up hc2 30 6 0) hm3 := eC.fM (fun o i x => r2 o i (by omega))
          have sm : (qz_up hc2 30 6 0) 30 9 = hm3 67 34 := by rw [cz_un (by omega), r2 _ _ (by omega)]; exact S2.sm
          rcases r3 with r3 | ⟨hc3, r3, r4⟩
          · exact absurd k2 r3
          · rw [if_neg (show ¬ ¬ kd' = 2 by omega), r3, bz_bc, if_neg (show ¬ ¬ (0 : Int) = 0 by omega)]
            exact cz_badI (e3.fC (fun o i x => r4 o i (by omega) (by omega))) (by omega) (by rw [r4 _ _ (by omega) (by omega)]; exact sm)
        · rw [if_neg (show ¬ ¬ kd' = 2 by omega), r1, bz_bc, if_pos (show ¬ (1 : Int) = 0 by omega)]
          have fm3 : ∀ o i : Int, ¬ (o = 67 ∧ (i = 47 ∨ i = 48 ∨ i = 28)) → ¬ ((o = 90 ∨ o = 91 ∨ o = 92) ∧ i = q) → hm3 o i = hm2 o i := by
            intro o i x1 x2
            rcases r5 with r5 | r5
            · exact r5.2.2.2 o i (by omega)
            · exact r5.2.2.2.2.2.2.2.2.2 o i x1 x2
          have eD : cz_en t N T M hc0 hm0 (qz_up hc3 (M + 3) m (hc3 30 8)) hm3 := cz_en.fM (cz_en.uc (cz_en.fC eC (fun o i x => r2 o i (by omega) (by omega))) (by omega)) (fun o i x => fm3 o i (by omega) (by omega))
          obtain ⟨hc4, hm4, kd4, s4, L4, n3, n4, S4, ss4, Fc4, Fm4⟩ := cz_adv S2 (by omega) eD (by rw [cz_un (by omega), r2 _ _ (by omega) (by omega), cz_un (by omega)]) (by rw [cz_un (by omega), r2 _ _ (by omega) (by omega), cz_un (by omega)]) (fm3 _ _ (by omega) (by omega)) (by rw [cz_un (by omega), r2 _ _ (by omega) (by omega), cz_un (by omega)]; omega) (by rw [cz_un (by omega), r2 _ _ (by omega) (by omega), cz_un (by omega)]; omega)
          rw [n3, r4, n4, bz_bc, bz_bc, if_pos (show ¬ (1 : Int) = 0 by omega)]
          have fc4 : ∀ o i : Int, o ≠ 34 → o ≠ 30 → ¬ (o = M + 3 ∧ i = m) → hc4 o i = hc2 o i := by
            intro o i x1 x2 x3
            rw [Fc4 o i (by omega) (by omega), cz_un (by omega), r2 _ _ (by omega) (by omega), cz_un (by omega)]
          have y30 : ∀ i : Int, i ≠ 8 → i ≠ 9 → hc4 30 i = (qz_up hc2 30 6 0) 30 i := by
            intro i x1 x2
            rw [Fc4 _ _ (by omega) (by omega), cz_un (by omega), r2 _ _ (by omega) (by omega)]
          obtain ⟨h, w1, w2⟩ := cz_plainF (v := v) g hm64 hj hP S4 (by omega) (fun o i x1 x2 x3 x4 x5 x6 => by rw [fc4 o i x1 x2 (by omega)]; exact fc2 o i x1 x2 x3 x4 x5 x6) (by rw [fc4 _ _ (by omega) (by omega) (by omega)]; exact b3) (by rw [fc4 _ _ (by omega) (by omega) (by omega)]; exact b4) (by rw [fc4 _ _ (by omega) (by omega) (by omega)]; exact b1) (by rw [Fc4 _ _ (by omega) (by omega), bz_us]; exact r3) (by rw [y30 _ (by omega) (by omega), cz_un (by omega)]; exact a5) (by rw [y30 _ (by omega) (by omega), bz_us]) (by rw [y30 _ (by omega) (by omega), cz_un (by omega)]; exact a7) (by rw [fc4 _ _ (by omega) (by omega) (by omega)]; exact b5) (by
            rcases r5 with ⟨v1, v2, v3, v4⟩ | ⟨v1, v2, v3, v4, v5, v6, v7, v8, v9, v10⟩
            · exact Or.inl ⟨v1, by rw [Fm4 _ _ (by omega)]; exact v2, by rw [Fm4 _ _ (by omega)]; exact v3, fun o i x => by rw [Fm4 _ _ (by omega), v4 _ _ (by omega)]; exact fm2 _ _ (by omega)⟩
            · exact Or.inr ⟨v1, s', L', v2, by omega, by omega, v3, by rw [Fm4 _ _ (by omega)]; exact v4, by rw [Fm4 _ _ (by omega)]; exact v5, by rw [Fm4 _ _ (by omega)]; exact v6, by rw [Fm4 _ _ (by omega)]; exact v7, by rw [Fm4 _ _ (by omega)]; exact v8, by rw [Fm4 _ _ (by omega)]; exact v9, fun o i x x' => by rw [Fm4 _ _ (by omega), v10 _ _ (by omega) x']; exact fm2 _ _ (by omega)⟩)
          exact Or.inr ⟨_, _, _, _, _, _, rfl, w1, by omega, w2⟩
      · left
        have R' : cz_go (k + 1) hc2 = cz_rest (k + 1) (some (1, qz_up hc2 30 6 0)) := by
          unfold cz_go
          rw [a5, bz_lev S2.en.tc.1 (by omega) (by omega), show 35 + (d + 2) = 37 + d by omega]
          obtain ⟨u0, u1, u2, u3, u4, u5⟩ := bz_mod S2.en.tc.1 hM
          unfold fn_Reader_judge fn_Reader_inOperand fn_Reader_inOperand_14 fn_Reader_inOperand_53 fn_Reader_inOperand_81
          rw [if_neg (by omega), bz_ck (by omega), if_pos (by omega), bz_bn, if_neg (by omega), S2.en.m4, bz_ck (by omega), b3, if_pos (by omega), bz_ck (by omega), bz_ck (by omega), u1, bz_ck (by omega), show m + 1 - 1 = m by omega, bz_w (by omega) (by omega), u4, bz_ck (by omega), b1, bz_bn, bz_ck (by omega), bz_ck (by omega), bz_bn, bz_c30_0 eC.tc.1, bz_ck (by omega), tC.1, if_pos k2]
          rfl
        rw [R']
        rcases R with ⟨hm3, r1, r2, r3⟩ | ⟨k2', _⟩
        · rw [r1, bz_bc, if_neg (show ¬ ¬ (0 : Int) = 0 by omega), bz_ck (by omega)]
          exact cz_badI (eC.fM (fun o i x => r2 o i (by omega))) (by omega) (by rw [cz_un (by omega), r2 _ _ (by omega)]; exact S2.sm)
        · exact absurd k2' k2
  · left
    rw [if_neg hm64, if_neg hm64, bz_bc, if_pos rfl, bz_ck (by omega)]
    exact cz_badI e7 (by omega) (by rw [cz_un (by omega)]; exact S.sm)
end SC
