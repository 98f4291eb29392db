section BDY
variable {M : Int} {P : qz_H}
theorem bz_erC (hM : M = 6 ∨ M = 18) (wf : bz_wf P) {h : qz_H} {L : List Int} (xc : bz_XC h M P L) {f k : Int} (f0 : 0 ≤ f) (f1 : f < P 0 0) (k0 : 0 ≤ k) (k1 : k < P 2 f) : (bz_er P f k → fn_Encoder_endsRun (M + 4 + 2 * f) k h = some (1, h)) ∧ (¬ bz_er P f k → fn_Encoder_endsRun (M + 4 + 2 * f) k h = some (0, h)) := by
  have w := wf.2.1
  obtain ⟨x1, x2, x3, x4, x5, x6, x7, x8, x9, x10, x11⟩ := wf.2.2 f f0 f1
  obtain ⟨b1, b2, b3⟩ := bz_fun xc.1 hM f0 (show f ≤ 3 by omega)
  obtain ⟨c1, c2, c3, c4, c5, c6, c7⟩ := xc.2.1.2 f f0 f1
  unfold fn_Encoder_endsRun fn_Encoder_endsRun_28 fn_Encoder_endsRun_33
  simp only [bz_ck (show M + 4 + 2 * f ≠ 0 by omega), bz_w (show -2147483648 ≤ k + 1 by omega) (show k + 1 ≤ 2147483647 by omega), bz_hasS, bz_bc, c2, b2, b3]
  by_cases q : k + 1 < P 2 f
  · have z : (if 0 ≤ k + 1 ∧ k + 1 < P 2 f ∧ k + 1 < 8 then (1 : Int) else 0) = 1 := if_pos (by omega)
    rw [z, if_neg (by omega), bz_ck (by omega), bz_ck (by omega), bz_ck (by omega), bz_ck (by omega), c6 (k + 1) (by omega) q, c6 k k0 k1]
    unfold bz_er
    by_cases q2 : P 7 (8 * f + (k + 1)) = P 7 (8 * f + k)
    · rw [if_pos q2]
      exact ⟨fun a => a.elim (fun b => absurd q b) (fun b => absurd q2 b), fun _ => bz_ck (by simp)⟩
    · rw [if_neg q2]
      exact ⟨fun _ => bz_ck (by simp), fun a => absurd (Or.inr q2) a⟩
  · have z : (if 0 ≤ k + 1 ∧ k + 1 < P 2 f ∧ k + 1 < 8 then (1 : Int) else 0) = 0 := if_neg (by omega)
    rw [z, if_pos rfl]
    exact ⟨fun _ => bz_ck (by simp), fun a => absurd (Or.inl q) a⟩
theorem bz_em_rns (hM : M = 6 ∨ M = 18) (wf : bz_wf P) {f : Int} (f0 : 0 ≤ f) (f1 : f < P 0 0) : bz_em M P (fn_Encoder_addRuns 63 (M + 4 + 2 * f)) (bz_rns P f) := by
  have w := wf.2.1
  obtain ⟨x1, x2, x3, x4, x5, x6, x7, x8, x9, x10, x11⟩ := wf.2.2 f f0 f1
  -- the runs
  have loop2 : ∀ (m n : Nat) (k r : Int) (h : qz_H) (L : List Int), (m : Int) + k = P 2 f → 0 ≤ k → 0 ≤ r → r ≤ 100 - m → bz_XC h M P L → L.length + (bz_rn P f m k r).length ≤ 1000 → ∃ h', fn_Encoder_addRuns_58 (n + m + 1) 63 (M + 4 + 2 * f) r k h = some (0, h') ∧ bz_XC h' M P (L ++ bz_rn P f m k r) ∧ bz_fe h h' := by
    intro m
    induction m with
    | zero =>
      intro n k r h L hm k0 r0 r1 xc hl
      obtain ⟨c1, c2, c3, c4, c5, c6, c7⟩ := xc.2.1.2 f f0 f1
      refine ⟨h, ?_, by rw [bz_rn, List.append_nil]; exact xc, bz_fe.rf _⟩
      rw [fn_Encoder_addRuns_58]
      unfold fn_Encoder_addRuns_58_b fn_Encoder_addRuns_112
      by_cases q : 8 ≤ k
      · rw [if_pos q]
      · have z : (if 0 ≤ k ∧ k < P 2 f ∧ k < 8 then (1 : Int) else 0) = 0 := if_neg (by omega)
        rw [if_neg q, bz_ck (by omega), bz_hasS, bz_bc, c2, z, if_pos rfl]
    | succ m ih =>
      intro n k r h L hm k0 r0 r1 xc hl
      obtain ⟨b1, b2, b3⟩ := bz_fun xc.1 hM f0 (show f ≤ 3 by omega)
      obtain ⟨c1, c2, c3, c4, c5, c6, c7⟩ := xc.2.1.2 f f0 f1
      obtain ⟨t1, t2⟩ := bz_erC hM wf xc f0 f1 k0 (show k < P 2 f by omega)
      have z : (if 0 ≤ k ∧ k < P 2 f ∧ k < 8 then (1 : Int) else 0) = 1 := if_pos (by omega)
      rw [bz_rn] at hl ⊢
      rw [show n + (m + 1) + 1 = (n + m + 1) + 1 from by omega, fn_Encoder_addRuns_58]
      unfold fn_Encoder_addRuns_58_b fn_Encoder_addRuns_106
      simp only [bz_bn]
      rw [if_neg (by omega), bz_ck (by omega), bz_hasS, bz_bc, c2, z, if_neg (by omega), bz_w (show -2147483648 ≤ r + 1 by omega) (by omega), bz_w (show -2147483648 ≤ k + 1 by omega) (by omega)]
      by_cases q : bz_er P f k
      · rw [if_pos q] at hl ⊢
        rw [List.length_append, List.length_cons] at hl
        obtain ⟨h1, e1, e2, e3⟩ := bz_em_U hM wf (v := r + 1) (by omega) (by omega) h L xc (by omega)
        obtain ⟨d1, d2, d3⟩ := bz_fun e2.1 hM f0 (show f ≤ 3 by omega)
        obtain ⟨h2, g1, g2, g3⟩ := bz_em_T hM wf (P 7 (8 * f + k)) h1 _ e2 (by rw [List.length_append, List.length_singleton]; omega)
        obtain ⟨h3, i1, i2, i3⟩ := ih n (k + 1) 0 h2 _ (by omega) (by omega) (by omega) (by omega) g2 (by simp only [List.length_append, List.length_singleton]; omega)
        refine ⟨h3, ?_, by simpa only [List.append_assoc, List.cons_append, List.nil_append] using i2, (e3.tr g3).tr i3⟩
        rw [t1 q, bz_bc, if_neg (by omega), e1, bz_bc, bz_ck (by omega), d2, bz_ck (by omega), d3, bz_ck (by omega), (e2.2.1.2 f f0 f1).2.2.2.2.2.1 k k0 (by omega), g1, bz_bc, i1]
      · rw [if_neg q] at hl ⊢
        obtain ⟨h3, i1, i2, i3⟩ := ih n (k + 1) (r + 1) h L (by omega) (by omega) (by omega) (by omega) xc hl
        exact ⟨h3, by rw [t2 q, bz_bc, if_pos rfl, i1], i2, i3⟩
  -- how many
  have loop1 : ∀ (m n : Nat) (k r : Int) (h : qz_H) (L : List Int), (m : Int) + k = P 2 f → 0 ≤ k → 0 ≤ r → r ≤ 100 - m → bz_XC h M P L → fn_Encoder_addRuns_7 (n + m + 1) 63 (M + 4 + 2 * f) r k h = fn_Encoder_addRuns_44 63 (M + 4 + 2 * f) (r + bz_rc P f m k) h := by
    intro m
    induction m with
    | zero =>
      intro n k r h L hm k0 r0 r1 xc
      obtain ⟨c1, c2, c3, c4, c5, c6, c7⟩ := xc.2.1.2 f f0 f1
      rw [fn_Encoder_addRuns_7, bz_rc, Int.add_zero]
      unfold fn_Encoder_addRuns_7_b
      by_cases q : 8 ≤ k
      · rw [if_pos q]
      · have z : (if 0 ≤ k ∧ k < P 2 f ∧ k < 8 then (1 : Int) else 0) = 0 := if_neg (by omega)
        rw [if_neg q, bz_ck (by omega), bz_hasS, bz_bc, c2, z, if_pos rfl]
    | succ m ih =>
      intro n k r h L hm k0 r0 r1 xc
      obtain ⟨c1, c2, c3, c4, c5, c6, c7⟩ := xc.2.1.2 f f0 f1
      obtain ⟨t1, t2⟩ := bz_erC hM wf xc f0 f1 k0 (show k < P 2 f by omega)
      have z : (if 0 ≤ k ∧ k < P 2 f ∧ k < 8 then (1 : Int) else 0) = 1 := if_pos (by omega)
      rw [show n + (m + 1) + 1 = (n + m + 1) + 1 from by omega, fn_Encoder_addRuns_7, bz_rc]
      unfold fn_Encoder_addRuns_7_b fn_Encoder_addRuns_36
      simp only [bz_bn]
      rw [if_neg (by omega), bz_ck (by omega), bz_hasS, bz_bc, c2, z, if_neg (by omega), bz_w (show -2147483648 ≤ k + 1 by omega) (by omega)]
      by_cases q : bz_er P f k
      · rw [t1 q, bz_bc, if_neg (by omega), if_pos q, bz_w (by omega) (by omega), ih n (k + 1) (r + 1) h L (by omega) (by omega) (by omega) (by omega) xc, Int.add_assoc r]
      · rw [t2 q, bz_bc, if_pos rfl, if_neg q, bz_w (by omega) (by omega), ih n (k + 1) (r + 0) h L (by omega) (by omega) (by omega) (by omega) xc, Int.add_assoc r]
  intro h L xc hl
  unfold bz_rns at hl ⊢
  rw [List.length_append] at hl
  obtain ⟨c1, c2, c3, c4, c5, c6, c7⟩ := xc.2.1.2 f f0 f1
  obtain ⟨r0, r1⟩ := bz_rc_rg P f (P 2 f - P 1 f).toNat (P 1 f)
  obtain ⟨h1, e1, e2, e3⟩ := bz_em_U hM wf (v := bz_rc P f (P 2 f - P 1 f).toNat (P 1 f)) r0 (by omega) h L xc (by omega)
  obtain ⟨h2, g1, g2, g3⟩ := loop2 (P 2 f - P 1 f).toNat (3999 - (P 2 f - P 1 f).toNat) (P 1 f) 0 h1 _ (by omega) x1 (by omega) (by omega) e2 (by rw [List.length_append]; omega)
  have k1 := loop1 (P 2 f - P 1 f).toNat (3999 - (P 2 f - P 1 f).toNat) (P 1 f) 0 h L (by omega) x1 (by omega) (by omega) xc
  rw [show 3999 - (P 2 f - P 1 f).toNat + (P 2 f - P 1 f).toNat + 1 = qz_NF from by unfold qz_NF; omega] at k1 g1
  rw [Int.zero_add] at k1
  refine ⟨h2, ?_, by simpa only [List.append_assoc] using g2, e3.tr g3⟩
  unfold fn_Encoder_addRuns
  simp only [bz_bn]
  rw [bz_ck (by omega), c1, k1]
  unfold fn_Encoder_addRuns_44
  simp only [bz_bn]
  rw [e1, bz_bc, bz_ck (by omega), (e2.2.1.2 f f0 f1).1, g1]
theorem bz_ib_len (P : qz_H) (i : Int) : (bz_ib P i).length ≤ 11 := by
  unfold bz_ib
  have h1 := (bz_un_len 9 (P 6 i)).2
  have h2 := bz_sg_len 9 (P 6 i)
  rw [List.length_cons]
  split
  · simp
  split
  · simp
  split
  · exact Nat.succ_le_succ h2
  · exact Nat.succ_le_succ h1
theorem bz_op_code : ∀ j : Nat, j < 30 → 0 ≤ kz_dt (-((j : Int) + 1)) 1 ∧ kz_dt (-((j : Int) + 1)) 1 ≤ 255 := by decide +kernel
theorem bz_em_ib (hM : M = 6 ∨ M = 18) (wf : bz_wf P) {i : Int} (hr : bz_row P i) {h : qz_H} {L : List Int} (xc : bz_XC h M P L) (hl : L.length + (bz_ib P i).length ≤ 1000) : ∃ h1 h2, fn_Encoder_add 63 (h (P 8 i) 1) h = some (0, h1) ∧ bz_fe h h1 ∧ bz_XC h1 M P (L ++ [P 5 i]) ∧ fn_Encoder_addOperand 63 (P 8 i) (P 6 i) h1 = some (0, h2) ∧ bz_XC h2 M P (L ++ bz_ib P i) ∧ bz_fe h h2 := by
  obtain ⟨r1, r2, r3, r4, r5, r6, r7, r8, r9⟩ := hr
  have cd := bz_op_code (-P 8 i - 1).toNat (by omega)
  have kk := (bz_opk (-P 8 i - 1).toNat (by omega)).2.1
  rw [show -(((-P 8 i - 1).toNat : Int) + 1) = P 8 i from by omega] at cd kk
  unfold bz_ib at hl ⊢
  rw [List.length_cons] at hl
  obtain ⟨h1, e1, e2, e3⟩ := bz_em_add hM wf (c := P 5 i) (by omega) (by omega) h L xc (by rw [List.length_singleton]; omega)
  have ex : h (P 8 i) 1 = P 5 i := by rw [xc.1.2 _ 1 (by omega) (by omega) (by omega) (by omega), r3]
  rw [ex]
  have e4 := e2.1.2 (P 8 i) 2 (by omega) (by omega) (by omega) (by omega)
  have key : ∃ h2, fn_Encoder_addOperand 63 (P 8 i) (P 6 i) h1 = some (0, h2) ∧ bz_XC h2 M P ((L ++ [P 5 i]) ++ (if kz_dt (P 8 i) 2 = 0 then [] else if kz_dt (P 8 i) 2 = 1 then [bz_ty (P 6 i)] else if kz_dt (P 8 i) 2 = 5 ∨ kz_dt (P 8 i) 2 = 6 then bz_S (P 6 i) else bz_U (P 6 i))) ∧ bz_fe h1 h2 := by
    unfold fn_Encoder_addOperand fn_Encoder_addOperand_73
    rw [bz_ck (by omega), e4]
    rcases kk with k | k | k | k | k | k | k
    · simp only [k, qz_swt, if_true] at hl ⊢
      exact ⟨h1, rfl, by rw [List.append_nil]; exact e2, bz_fe.rf _⟩
    · have := r7 k
      simp only [k, qz_swt, if_true, show ¬ (1 : Int) = 0 from by omega, if_false] at hl ⊢
      obtain ⟨h2, g1, g2, g3⟩ := bz_em_T hM wf (P 6 i) h1 _ e2 (by rw [List.length_append, List.length_singleton]; omega)
      exact ⟨h2, by rw [bz_w (by omega) (by omega), g1, bz_bc], g2, g3⟩
    · have := r8 (Or.inl k)
      rw [if_neg (by omega), if_neg (by omega), if_neg (by omega)] at hl ⊢
      obtain ⟨h2, g1, g2, g3⟩ := bz_em_U hM wf (v := P 6 i) (by omega) (by omega) h1 _ e2 (by rw [List.length_append, List.length_singleton]; omega)
      exact ⟨h2, by rw [g1, k]; rfl, g2, g3⟩
    · have := r8 (Or.inr (Or.inl k))
      rw [if_neg (by omega), if_neg (by omega), if_neg (by omega)] at hl ⊢
      obtain ⟨h2, g1, g2, g3⟩ := bz_em_U hM wf (v := P 6 i) (by omega) (by omega) h1 _ e2 (by rw [List.length_append, List.length_singleton]; omega)
      exact ⟨h2, by rw [g1, k]; rfl, g2, g3⟩
    · have := r8 (Or.inr (Or.inr k))
      rw [if_neg (by omega), if_neg (by omega), if_neg (by omega)] at hl ⊢
      obtain ⟨h2, g1, g2, g3⟩ := bz_em_U hM wf (v := P 6 i) (by omega) (by omega) h1 _ e2 (by rw [List.length_append, List.length_singleton]; omega)
      exact ⟨h2, by rw [g1, k]; rfl, g2, g3⟩
    · rw [if_neg (by omega), if_neg (by omega), if_pos (by omega)] at hl ⊢
      obtain ⟨h2, g1, g2, g3⟩ := bz_eS hM wf r4 r5 e2 (by rw [List.length_append, List.length_singleton]; omega)
      exact ⟨h2, by rw [g1, k]; rfl, g2, g3⟩
    · rw [if_neg (by omega), if_neg (by omega), if_pos (by omega)] at hl ⊢
      obtain ⟨h2, g1, g2, g3⟩ := bz_eS hM wf r4 r5 e2 (by rw [List.length_append, List.length_singleton]; omega)
      exact ⟨h2, by rw [g1, k]; rfl, g2, g3⟩
  obtain ⟨h2, g1, g2, g3⟩ := key
  exact ⟨h1, h2, e1, e3, e2, g1, by simpa only [List.append_assoc, List.cons_append, List.nil_append] using g2, e3.tr g3⟩
theorem bz_em_bdy (hM : M = 6 ∨ M = 18) (wf : bz_wf P) {f : Int} (f0 : 0 ≤ f) (f1 : f < P 0 0) : bz_em M P (fn_Encoder_addBody 63 M (M + 4 + 2 * f)) (bz_szd (bz_bdy P f)) := by
  have w := wf.2.1
  obtain ⟨x1, x2, x3, x4, x5, x6, x7, x8, x9, x10, x11⟩ := wf.2.2 f f0 f1
  have loop : ∀ (m n : Nat) (k : Int) (h : qz_H) (A B : List Int), (m : Int) + k = P 4 (f + 1) - P 4 f → 0 ≤ k → bz_XC h M P (A ++ B) → A.length + B.length + (bz_fl (bz_ib P) (P 4 f + k) m).length + 1 ≤ 1000 → ∃ h', fn_Encoder_addBody_13 (n + m + 1) 63 M (M + 4 + 2 * f) A.length k h = some (0, h') ∧ bz_XC h' M P (A ++ (bz_U (B ++ (bz_fl (bz_ib P) (P 4 f + k) m ++ [11])).length ++ (B ++ (bz_fl (bz_ib P) (P 4 f + k) m ++ [11])))) ∧ bz_fe h h' := by
    intro m
    induction m with
    | zero =>
      intro n k h A B hm k0 xc hl
      rw [bz_fl] at hl ⊢
      rw [List.length_nil] at hl
      obtain ⟨c1, c2, c3, c4, c5, c6, c7⟩ := xc.2.1.2 f f0 f1
      obtain ⟨h1, e1, e2, e3⟩ := bz_em_add hM wf (c := 11) (by omega) (by omega) h _ xc (by rw [List.length_append, List.length_singleton]; omega)
      rw [List.append_assoc] at e2
      obtain ⟨h2, g1, g2, g3⟩ := bz_ePut hM wf e2 (by rw [List.length_append, List.length_singleton]; omega)
      refine ⟨h2, ?_, by rw [List.nil_append]; exact g2, e3.tr g3⟩
      rw [fn_Encoder_addBody_13]
      unfold fn_Encoder_addBody_13_b fn_Encoder_addBody_81
      rw [bz_ck (by omega), c5, if_pos (by omega), xc.1.2 (-7) 1 (by omega) (by omega) (by omega) (by omega), show kz_dt (-7) 1 = 11 from by decide +kernel, e1, bz_bc, g1, bz_bc]
    | succ m ih =>
      intro n k h A B hm k0 xc hl
      rw [bz_fl] at hl ⊢
      rw [List.length_append] at hl
      obtain ⟨a1, a2, a3, a4, a5, a6⟩ := bz_mod xc.1 hM
      obtain ⟨c1, c2, c3, c4, c5, c6, c7⟩ := xc.2.1.2 f f0 f1
      obtain ⟨d1, d2⟩ := c7 (P 4 f + k) (by omega) (by omega)
      have hr := x11 (P 4 f + k) (by omega) (by omega)
      obtain ⟨h1, h2, e1, e2, e3, e4, e5, e6⟩ := bz_em_ib hM wf hr xc (by rw [List.length_append]; omega)
      obtain ⟨a1', a2', a3', a4', a5', a6'⟩ := bz_mod e3.1 hM
      obtain ⟨c1', c2', c3', c4', c5', c6', c7'⟩ := e3.2.1.2 f f0 f1
      obtain ⟨d1', d2'⟩ := c7' (P 4 f + k) (by omega) (by omega)
      rw [List.append_assoc] at e5
      obtain ⟨h3, i1, i2, i3⟩ := ih n (k + 1) h2 A (B ++ bz_ib P (P 4 f + k)) (by omega) (by omega) e5 (by rw [List.length_append, ← Int.add_assoc]; omega)
      refine ⟨h3, ?_, ?_, e6.tr i3⟩
      · rw [show n + (m + 1) + 1 = (n + m + 1) + 1 from by omega, fn_Encoder_addBody_13]
        unfold fn_Encoder_addBody_13_b
        simp only [bz_bn]
        rw [bz_ck (by omega), c5, c4, if_neg (by omega), bz_ck (by omega), bz_w (show -2147483648 ≤ P 4 f + k by omega) (by omega), if_neg (by omega), a2, a5, d1]
        simp only [bz_ck (show M ≠ 0 by omega), bz_ck (show M + 4 + 2 * f ≠ 0 by omega), bz_ck (show M + 2 ≠ 0 by omega), bz_ck (show 0 ≤ P 4 f + k ∧ P 4 f + k < 64 by omega)]
        rw [bz_ck (show P 8 (P 4 f + k) ≠ 0 by have := hr.2.1; omega), e1, bz_bc, a3', a6', c4', bz_w (show -2147483648 ≤ P 4 f + k by omega) (by omega), d2', bz_ck (by omega), bz_ck (by omega), e4, bz_bc, bz_w (by omega) (by omega), i1]
      · rw [← Int.add_assoc] at i2
        simpa only [List.append_assoc] using i2
  intro h L xc hl
  unfold bz_szd at hl ⊢
  have hle : (bz_bdy P f).length = (bz_rns P f).length + ((bz_fl (bz_ib P) (P 4 f) (P 4 (f + 1) - P 4 f).toNat).length + 1) := by unfold bz_bdy; rw [List.length_append, List.length_append, List.length_singleton]
  rw [List.length_append] at hl
  obtain ⟨h1, e1, e2, e3⟩ := bz_em_rns hM wf f0 f1 h L xc (by omega)
  obtain ⟨h2, g1, g2, g3⟩ := loop (P 4 (f + 1) - P 4 f).toNat (3999 - (P 4 (f + 1) - P 4 f).toNat) 0 h1 L (bz_rns P f) (by omega) (by omega) e2 (by rw [Int.add_zero]; omega)
  rw [show 3999 - (P 4 (f + 1) - P 4 f).toNat + (P 4 (f + 1) - P 4 f).toNat + 1 = qz_NF from by unfold qz_NF; omega] at g1
  rw [Int.add_zero] at g2
  refine ⟨h2, ?_, g2, e3.tr g3⟩
  unfold fn_Encoder_addBody
  simp only [bz_bn]
  rw [xc.2.2.1, e1, bz_bc, g1]
theorem bz_fr_cse (hM : M = 6 ∨ M = 18) (wf : bz_wf P) {h : qz_H} {L : List Int} (xc : bz_XC h M P L) (hl : L.length + (10 :: bz_szd (bz_cse P)).length ≤ 1000) : ∃ h', fn_Encoder_addBodies 63 M h = some (0, h') ∧ bz_XC h' M P (L ++ 10 :: bz_szd (bz_cse P)) ∧ ∀ o i : Int, o ≠ 64 → o ≠ 65 → ¬ (o = 63 ∧ i = 2) → h' o i = h o i := by
  have w0 := wf.1
  have w := wf.2.1
  unfold bz_szd at hl ⊢
  rw [List.length_cons, List.length_append] at hl
  have hle : (bz_cse P).length = (bz_U (P 0 0)).length + (bz_fl (fun f => bz_szd (bz_bdy P f)) 0 (P 0 0).toNat).length := by unfold bz_cse; rw [List.length_append]
  obtain ⟨h1, e1, e2, e3⟩ := bz_em_add hM wf (c := 10) (by omega) (by omega) h L xc (by rw [List.length_singleton]; omega)
  obtain ⟨h3, i1, i2, i3⟩ := bz_em_U hM wf (v := P 0 0) w0 (by omega) h1 _ e2 (by rw [List.length_append, List.length_singleton]; omega)
  have loop : ∀ (m n : Nat) (f : Int) (h : qz_H) (B : List Int), (m : Int) + f = P 0 0 → 0 ≤ f → bz_XC h M P ((L ++ [10]) ++ B) → L.length + 1 + B.length + (bz_fl (fun f => bz_szd (bz_bdy P f)) f m).length ≤ 1000 → ∃ h', fn_Encoder_addBodies_22 (n + m + 1) 63 M ((L ++ [10]).length : Int) f h = some (0, h') ∧ bz_XC h' M P ((L ++ [10]) ++ (bz_U (B ++ bz_fl (fun f => bz_szd (bz_bdy P f)) f m).length ++ (B ++ bz_fl (fun f => bz_szd (bz_bdy P f)) f m))) ∧ bz_fe h h' := by
    intro m
    induction m with
    | zero =>
      intro n f h B hm f0 xc hl
      obtain ⟨h', p1, p2, p3⟩ := bz_ePut hM wf xc (by rw [List.length_append, List.length_singleton]; omega)
      refine ⟨h', ?_, by rw [bz_fl, List.append_nil]; exact p2, p3⟩
      rw [fn_Encoder_addBodies_22]
      unfold fn_Encoder_addBodies_22_b fn_Encoder_addBodies_52
      rw [bz_ck (by omega), xc.2.1.1, if_pos (by omega), p1, bz_bc]
    | succ m ih =>
      intro n f h B hm f0 xc hl
      obtain ⟨a1, a2, a3, a4, a5, a6⟩ := bz_mod xc.1 hM
      obtain ⟨b1, b2, b3⟩ := bz_fun xc.1 hM f0 (show f ≤ 3 by omega)
      rw [bz_fl] at hl ⊢
      rw [List.length_append] at hl
      obtain ⟨h', k1, k2, k3⟩ := bz_em_bdy hM wf f0 (show f < P 0 0 by omega) h _ xc (by rw [List.length_append, List.length_append, List.length_singleton]; omega)
      rw [List.append_assoc] at k2
      obtain ⟨h'', l1, l2, l4⟩ := ih n (f + 1) h' (B ++ bz_szd (bz_bdy P f)) (by omega) (by omega) k2 (by rw [List.length_append]; omega)
      rw [List.append_assoc B] at l2
      refine ⟨h'', ?_, l2, k3.tr l4⟩
      rw [show n + (m + 1) + 1 = (n + m + 1) + 1 from by omega, fn_Encoder_addBodies_22]
      unfold fn_Encoder_addBodies_22_b
      rw [bz_ck (by omega), xc.2.1.1, if_neg (by omega), if_neg (by omega), bz_ck (by omega), a1, bz_ck (by omega), a4, bz_ck (by omega), b1, k1, bz_bc, bz_bn, bz_w (by omega) (by omega), l1]
  obtain ⟨h4, k1, k2, k4⟩ := loop (P 0 0).toNat (3999 - (P 0 0).toNat) 0 h3 _ (by omega) (by omega) i2 (by omega)
  rw [show 3999 - (P 0 0).toNat + (P 0 0).toNat + 1 = qz_NF from by unfold qz_NF; omega] at k1
  refine ⟨h4, ?_, ?_, fun o i o1 o2 o3 => ((k4 o i o1 o3).trans (i3 o i o1 o3)).trans (e3 o i o1 o3)⟩
  · unfold fn_Encoder_addBodies
    simp only [bz_bn]
    rw [e1, bz_bc, e2.2.2.1, bz_ck (by omega), e2.2.1.1, i1, bz_bc]
    exact k1
  · have e : bz_cse P = bz_U (P 0 0) ++ bz_fl (fun f => bz_szd (bz_bdy P f)) 0 (P 0 0).toNat := rfl
    rw [← e] at k2
    rw [List.append_assoc] at k2
    exact k2
end BDY
