theorem bz_tab {h : qz_H} {T : List (Int × Int × Int)} (hL : ∀ q ∈ T, h q.1 q.2.1 = q.2.2) (o : Int) (L : List Int) (n : Nat) (hd : (List.range n).all (fun (d : Nat) => T.any fun q => decide (q = (o, (d : Int), L.getD d 0))) = true) {d : Nat} (h2 : d < n) : h o (d : Int) = L.getD d 0 := by
  have z := List.all_eq_true.mp hd d (List.mem_range.mpr h2)
  obtain ⟨q, q1, q2⟩ := List.any_eq_true.mp z
  rw [decide_eq_true_eq] at q2
  subst q2
  exact hL _ q1
set_option maxRecDepth 20000 in
theorem bz_t70 {h : qz_H} (hL : bz_LM h) {d : Nat} (hd : d < 30) : h 70 (d : Int) = bz_cO.getD d 0 := bz_tab hL 70 bz_cO 30 (by decide +kernel) hd
set_option maxRecDepth 20000 in
theorem bz_t68 {h : qz_H} (hL : bz_LM h) {d : Nat} (hd : d < 30) : h 68 (d : Int) = bz_hd.getD d 0 := bz_tab hL 68 bz_hd 30 (by decide +kernel) hd
set_option maxRecDepth 20000 in
theorem bz_t69 {h : qz_H} (hL : bz_LM h) {d : Nat} (hd : d < 30) : h 69 (d : Int) = bz_rt.getD d 0 := bz_tab hL 69 bz_rt 30 (by decide +kernel) hd
/-- the thirty instructions: the place of an Op's code in the model's table, and its word there -/
theorem bz_op30 : ∀ j : Nat, j < 30 → bz_wo.getD j 0 < 30 ∧ bz_cO.getD (bz_wo.getD j 0) 0 = kz_dt (-((j : Int) + 1)) 1 ∧ (∀ d : Nat, d < bz_wo.getD j 0 → bz_cO.getD d 0 ≠ kz_dt (-((j : Int) + 1)) 1) ∧ bz_b8 (bz_hd.getD (bz_wo.getD j 0) 0) 7 ++ bz_b8 (bz_rt.getD (bz_wo.getD j 0) 0) 7 = bz_wd (-((j : Int) + 1)) := by decide +kernel
/-- a code says what stands behind the word -/
theorem bz_opk : ∀ j : Nat, j < 30 → (kz_dt (-((j : Int) + 1)) 2 = 1 ↔ 2 ≤ kz_dt (-((j : Int) + 1)) 1 ∧ kz_dt (-((j : Int) + 1)) 1 ≤ 4) ∧ (kz_dt (-((j : Int) + 1)) 2 = 0 ∨ kz_dt (-((j : Int) + 1)) 2 = 1 ∨ kz_dt (-((j : Int) + 1)) 2 = 2 ∨ kz_dt (-((j : Int) + 1)) 2 = 3 ∨ kz_dt (-((j : Int) + 1)) 2 = 4 ∨ kz_dt (-((j : Int) + 1)) 2 = 5 ∨ kz_dt (-((j : Int) + 1)) 2 = 6) ∧ (kz_dt (-((j : Int) + 1)) 2 = 5 ↔ kz_dt (-((j : Int) + 1)) 1 = 65) ∧ (kz_dt (-((j : Int) + 1)) 2 = 6 ↔ kz_dt (-((j : Int) + 1)) 1 = 66) ∧ (kz_dt (-((j : Int) + 1)) 2 = 3 ↔ kz_dt (-((j : Int) + 1)) 1 = 16) ∧ (kz_dt (-((j : Int) + 1)) 2 = 2 ↔ kz_dt (-((j : Int) + 1)) 1 = 12 ∨ kz_dt (-((j : Int) + 1)) 1 = 13) ∧ (kz_dt (-((j : Int) + 1)) 2 = 4 ↔ 32 ≤ kz_dt (-((j : Int) + 1)) 1 ∧ kz_dt (-((j : Int) + 1)) 1 ≤ 34) := by decide +kernel
section PRN
variable {P : qz_H}
theorem bz_inM {i : Int} (i0 : 0 ≤ i) (i1 : i < 64) (hr : bz_row P i) {h : qz_H} (pm : bz_PM h P) (h77 : ∀ h : qz_H, bz_PM h P → h 77 i = P 5 i ∧ h 78 i = P 6 i) (hb : h 67 62 ≤ 36000) : fn_Md_outInstruction 67 i h = some (0, bz_mps h (bz_inl P i)) := by
  obtain ⟨r1, r2, r3, r4, r5, r6, r7, r8, r9⟩ := hr
  obtain ⟨j, hj, hx⟩ : ∃ j : Nat, j < 30 ∧ P 8 i = -((j : Int) + 1) := ⟨(-P 8 i - 1).toNat, by omega, by omega⟩
  obtain ⟨w1, w2, w3, w4⟩ := bz_op30 j hj
  obtain ⟨k1, k2, k3, k4, k5, k6, k7⟩ := bz_opk j hj
  rw [hx] at r3 r6 r7 r8 r9
  rw [← r3] at w2 w3 k1 k3 k4 k5 k6 k7
  -- the word
  have pm1 := pm.mps [32]
  have n1 : bz_mps h [32] 67 62 = h 67 62 + 1 := bz_mps_n _ _
  have pm2 := pm1.mps (bz_b8 (bz_hd.getD (bz_wo.getD j 0) 0) 7)
  have n2 : bz_mps (bz_mps h [32]) (bz_b8 (bz_hd.getD (bz_wo.getD j 0) 0) 7) 67 62 = bz_mps h [32] 67 62 + (bz_b8 (bz_hd.getD (bz_wo.getD j 0) 0) 7).length := bz_mps_n _ _
  have l2 := bz_b8_len (bz_hd.getD (bz_wo.getD j 0) 0) 7
  have pm3 := pm2.mps (bz_b8 (bz_rt.getD (bz_wo.getD j 0) 0) 7)
  have n3 : bz_mps (bz_mps (bz_mps h [32]) (bz_b8 (bz_hd.getD (bz_wo.getD j 0) 0) 7)) (bz_b8 (bz_rt.getD (bz_wo.getD j 0) 0) 7) 67 62 = bz_mps (bz_mps h [32]) (bz_b8 (bz_hd.getD (bz_wo.getD j 0) 0) 7) 67 62 + (bz_b8 (bz_rt.getD (bz_wo.getD j 0) 0) 7).length := bz_mps_n _ _
  have l3 := bz_b8_len (bz_rt.getD (bz_wo.getD j 0) 0) 7
  have e3 : bz_mps (bz_mps (bz_mps h [32]) (bz_b8 (bz_hd.getD (bz_wo.getD j 0) 0) 7)) (bz_b8 (bz_rt.getD (bz_wo.getD j 0) 0) 7) = bz_mps h (32 :: bz_wd (P 8 i)) := by
    rw [bz_mps_app, w4, bz_mps_app, hx]
    rfl
  rw [e3] at pm3 n3
  have tail : (if P 5 i = 12 then fn_Md_outInstruction_93 67 i (P 5 i) (bz_mps h (32 :: bz_wd (P 8 i))) else if P 5 i = 13 then fn_Md_outInstruction_93 67 i (P 5 i) (bz_mps h (32 :: bz_wd (P 8 i))) else if P 5 i = 16 then fn_Md_outInstruction_93 67 i (P 5 i) (bz_mps h (32 :: bz_wd (P 8 i))) else if P 5 i < 32 then fn_Md_outInstruction_81 67 i (P 5 i) (bz_mps h (32 :: bz_wd (P 8 i))) else if P 5 i ≤ 34 then fn_Md_outInstruction_93 67 i (P 5 i) (bz_mps h (32 :: bz_wd (P 8 i))) else fn_Md_outInstruction_81 67 i (P 5 i) (bz_mps h (32 :: bz_wd (P 8 i)))) = some (0, bz_mps h (bz_inl P i)) := by
    have pm4 := pm3.mps [32]
    have n4 : bz_mps (bz_mps h (32 :: bz_wd (P 8 i))) [32] 67 62 = bz_mps h (32 :: bz_wd (P 8 i)) 67 62 + 1 := bz_mps_n _ _
    have numd : fn_Md_outInstruction_93 67 i (P 5 i) (bz_mps h (32 :: bz_wd (P 8 i))) = some (0, bz_mps h (32 :: (bz_wd (P 8 i) ++ 32 :: bz_num (P 6 i)))) := by
      unfold fn_Md_outInstruction_93 fn_Md_outInstruction_98 fn_Md_outInstruction_162
      rw [bz_bn, if_neg (by omega), bz_outM pm3 (by omega) (by omega) (by omega), bz_bc, bz_m67_14 pm4.1, bz_ck (by omega), bz_m78_m1 pm4.1, bz_ck (by omega), (h77 _ pm4).2, bz_numM r4 r5 pm4 (by omega), bz_bc, bz_mps_app, bz_mps_app]
      simp only [List.cons_append, List.nil_append, List.append_assoc]
    have bare : (P 5 i < 2 ∨ 4 < P 5 i) → fn_Md_outInstruction_98 67 i (P 5 i) 0 (bz_mps h (32 :: bz_wd (P 8 i))) = some (0, bz_mps h (32 :: (bz_wd (P 8 i) ++ []))) := by
      intro hq
      unfold fn_Md_outInstruction_98 fn_Md_outInstruction_162
      rw [bz_bn, if_pos rfl, List.append_nil]
      by_cases q : P 5 i < 2
      · rw [if_pos q]
      · rw [if_neg q, if_pos (by omega)]
    have blk : 2 ≤ P 5 i → P 5 i ≤ 4 → 0 ≤ P 6 i → P 6 i ≤ 2 → fn_Md_outInstruction_98 67 i (P 5 i) 0 (bz_mps h (32 :: bz_wd (P 8 i))) = some (0, bz_mps h (32 :: (bz_wd (P 8 i) ++ (if P 6 i = 0 then [] else 32 :: bz_rs (P 6 i))))) := by
      intro q1 q2 q3 q4
      unfold fn_Md_outInstruction_98 fn_Md_outInstruction_162
      rw [bz_bn, if_pos rfl, if_neg (by omega), if_neg (by omega), bz_m67_14 pm3.1, bz_ck (by omega), bz_m78_m1 pm3.1, bz_ck (by omega), (h77 _ pm3).2]
      by_cases q : P 6 i = 0
      · rw [if_pos q, q, bz_cmp_eq, if_pos (by omega), List.append_nil]
      · rw [if_neg q, bz_cmp_gt (by omega), if_neg (by omega), bz_outM pm3 (by omega) (by omega) (by omega), bz_bc, bz_m67_14 pm4.1, bz_ck (by omega), bz_m78_m1 pm4.1, bz_ck (by omega), (h77 _ pm4).2, bz_w (by omega) (by omega), bz_outR pm4 (by omega), bz_bc, bz_mps_app, bz_mps_app]
        simp only [List.cons_append, List.nil_append, List.append_assoc]
    unfold fn_Md_outInstruction_81 bz_inl
    rw [hx] at numd bare blk ⊢
    rcases k2 with k | k | k | k | k | k | k
    · rw [k] at k1 k3 k4 k5 k6 k7
      simp (disch := omega) only [if_pos, if_neg, ite_self]
      exact bare (by omega)
    · rw [k] at k1 k3 k4 k5 k6 k7
      have := r7 k
      simp (disch := omega) only [if_pos k, if_pos, if_neg]
      exact blk (by omega) (by omega) (by omega) (by omega)
    · rw [k] at k1 k3 k4 k5 k6 k7
      rw [if_neg (show ¬ kz_dt (-((j : Int) + 1)) 2 = 0 by omega), if_neg (show ¬ kz_dt (-((j : Int) + 1)) 2 = 1 by omega), ← numd]
      rcases k6.mp rfl with z | z
      · rw [if_pos z]
      · rw [if_neg (by omega), if_pos z]
    · rw [k] at k1 k3 k4 k5 k6 k7
      rw [if_neg (show ¬ kz_dt (-((j : Int) + 1)) 2 = 0 by omega), if_neg (show ¬ kz_dt (-((j : Int) + 1)) 2 = 1 by omega), ← numd]
      simp (disch := omega) only [if_pos, if_neg]
    · rw [k] at k1 k3 k4 k5 k6 k7
      rw [if_neg (show ¬ kz_dt (-((j : Int) + 1)) 2 = 0 by omega), if_neg (show ¬ kz_dt (-((j : Int) + 1)) 2 = 1 by omega), ← numd]
      simp (disch := omega) only [if_pos, if_neg]
    · rw [k] at k1 k3 k4 k5 k6 k7
      rw [if_neg (show ¬ kz_dt (-((j : Int) + 1)) 2 = 0 by omega), if_neg (show ¬ kz_dt (-((j : Int) + 1)) 2 = 1 by omega), ← numd]
      simp (disch := omega) only [if_pos, if_neg]
    · rw [k] at k1 k3 k4 k5 k6 k7
      rw [if_neg (show ¬ kz_dt (-((j : Int) + 1)) 2 = 0 by omega), if_neg (show ¬ kz_dt (-((j : Int) + 1)) 2 = 1 by omega), ← numd]
      simp (disch := omega) only [if_pos, if_neg]
  -- the search
  have key : ∀ (m d n : Nat), d + m = bz_wo.getD j 0 → fn_Md_outInstruction_9 (n + m + 1) 67 i (P 5 i) (d : Int) h = some (0, bz_mps h (bz_inl P i)) := by
    intro m
    induction m with
    | zero =>
      intro d n hd
      have hd' : d = bz_wo.getD j 0 := by omega
      rw [fn_Md_outInstruction_9]
      unfold fn_Md_outInstruction_9_b
      rw [bz_m67_2 pm.1, bz_ck (by omega), bz_m70_m1 pm.1, bz_ck (by omega), bz_t70 pm.1 (show d < 30 by omega), hd', if_pos w2, bz_outM pm (by omega) (by omega) (by omega), bz_bc, bz_m67_0 pm1.1, bz_ck (by omega), bz_m68_m1 pm1.1, bz_ck (by omega), bz_t68 pm1.1 w1, bz_outLong _ pm1 (by omega), bz_bc, bz_m67_1 pm2.1, bz_ck (by omega), bz_m69_m1 pm2.1, bz_ck (by omega), bz_t69 pm2.1 w1, bz_outLong _ pm2 (by omega), bz_bc, e3]
      exact tail
    | succ m ih =>
      intro d n hd
      rw [show n + (m + 1) + 1 = (n + m + 1) + 1 from by omega, fn_Md_outInstruction_9]
      unfold fn_Md_outInstruction_9_b
      rw [bz_m67_2 pm.1, bz_ck (by omega), bz_m70_m1 pm.1, bz_ck (by omega), bz_t70 pm.1 (show d < 30 by omega), if_neg (w3 d (by omega)), bz_bn, bz_w (by omega) (by omega)]
      have e : (d : Int) + 1 = ((d + 1 : Nat) : Int) := by omega
      rw [e, ih (d + 1) n (by omega)]
  unfold fn_Md_outInstruction
  rw [bz_m67_13 pm.1, bz_ck (by omega), bz_m77_m1 pm.1, bz_ck (by omega), bz_bn, (h77 _ pm).1, bz_bn]
  have k := key (bz_wo.getD j 0) 0 (3999 - bz_wo.getD j 0) (by omega)
  rw [show 3999 - bz_wo.getD j 0 + bz_wo.getD j 0 + 1 = qz_NF from by unfold qz_NF; omega] at k
  exact k
theorem bz_r3M (wf : bz_wf P) {f : Int} (f0 : 0 ≤ f) (f1 : f < P 0 0) {w : Int} {op : List Int} (hw : op = 40 :: bz_b8 w 7) {a b : Int} {h : qz_H} (pm : bz_PM h P) (hb : h 67 62 ≤ 35000) (a0 : 0 ≤ a) (b0 : b ≤ P 2 f) : fn_Md_outRow 67 w f a b h = some (0, bz_mps h (bz_r3 op P f a b)) := by
  have w4 := wf.2.1
  have x4 := (wf.2.2 f f0 f1).2.2.2.1
  have key : ∀ (m n : Nat) (a : Int) (h : qz_H), bz_PM h P → h 67 62 + 4 * m ≤ 39000 → 0 ≤ a → (m : Int) = b - a → fn_Md_outRow_22 (n + m + 1) 67 f b a h = some (0, bz_mps h (bz_fl (fun k => 32 :: bz_wt (P 7 (8 * f + k))) a m ++ [41])) := by
    intro m
    induction m with
    | zero =>
      intro n a h pm hb a0 hm
      rw [fn_Md_outRow_22]
      unfold fn_Md_outRow_22_b fn_Md_outRow_57
      rw [if_pos (by omega), bz_outM pm (by omega) (by omega) (by omega), bz_bc]
      rfl
    | succ m ih =>
      intro n a h pm hb a0 hm
      have n1 : bz_mps h (32 :: bz_wt (P 7 (8 * f + a))) 67 62 = h 67 62 + (32 :: bz_wt (P 7 (8 * f + a))).length := bz_mps_n _ _
      rw [List.length_cons, bz_wt_len] at n1
      rw [show n + (m + 1) + 1 = (n + m + 1) + 1 from by omega, fn_Md_outRow_22]
      unfold fn_Md_outRow_22_b
      rw [if_neg (by omega), bz_m67_11 pm.1, bz_ck (by omega), bz_w (show -2147483648 ≤ 8 * f by omega) (by omega), bz_w (show -2147483648 ≤ 8 * f + a by omega) (by omega), bz_m75_m1 pm.1, bz_ck (by omega), (pm.2.1.2 f f0 f1).2.2.2.2.2.1 a a0 (by omega), bz_outT pm (by omega), bz_bc, bz_bn, bz_w (by omega) (by omega), ih n (a + 1) _ (pm.mps _) (by omega) (by omega) (by omega), bz_mps_app, bz_fl, List.append_assoc]
  unfold fn_Md_outRow fn_Md_outRow_57 bz_r3
  by_cases hab : a < b
  · have pm1 := pm.mps [40]
    have n1 : bz_mps h [40] 67 62 = h 67 62 + 1 := bz_mps_n _ _
    have pm2 := pm1.mps (bz_b8 w 7)
    have n2 : bz_mps (bz_mps h [40]) (bz_b8 w 7) 67 62 = bz_mps h [40] 67 62 + (bz_b8 w 7).length := bz_mps_n _ _
    have l2 := bz_b8_len w 7
    have k := key (b - a).toNat (3999 - (b - a).toNat) a _ pm2 (by omega) a0 (by omega)
    rw [show 3999 - (b - a).toNat + (b - a).toNat + 1 = qz_NF from by unfold qz_NF; omega] at k
    rw [if_neg (by omega), if_pos hab, bz_outM pm (by omega) (by omega) (by omega), bz_bc, bz_outLong _ pm1 (by omega), bz_bc, bz_bn, k, bz_mps_app, bz_mps_app, hw]
    simp only [List.cons_append, List.nil_append, List.append_assoc]
  · rw [if_pos (by omega), if_neg hab]
    rfl
/-- the rows of one function, and what comes behind them -/
theorem bz_isM (wf : bz_wf P) {f : Int} (f0 : 0 ≤ f) (f1 : f < P 0 0) (k20 : Int → Int → qz_H → Option qz_R) : ∀ (m n : Nat) (i : Int) (h : qz_H), bz_PM h P → h 67 62 + 60 * m ≤ 35000 → P 4 f ≤ i → (m : Int) = P 4 (f + 1) - i → fn_Md_print_102 k20 (n + m + 1) 67 f i h = k20 67 (f + 1) (bz_mps h (bz_fl (bz_inl P) i m ++ [41])) := by
  have w4 := wf.2.1
  obtain ⟨x1, x2, x3, x4, x5, x6, x7, x8, x9, x10, x11⟩ := wf.2.2 f f0 f1
  intro m
  induction m with
  | zero =>
    intro n i h pm hb i0 hm
    rw [fn_Md_print_102]
    unfold fn_Md_print_102_b
    rw [bz_m67_12 pm.1, bz_ck (by omega), bz_w (show -2147483648 ≤ f + 1 by omega) (by omega), bz_m76_m1 pm.1, bz_ck (by omega), (pm.2.1.2 f f0 f1).2.2.2.2.1, if_pos (by omega), bz_outM pm (by omega) (by omega) (by omega), bz_bc, bz_bn]
    rfl
  | succ m ih =>
    intro n i h pm hb i0 hm
    have l1 := bz_inl_len P i
    have n1 : bz_mps h (bz_inl P i) 67 62 = h 67 62 + (bz_inl P i).length := bz_mps_n _ _
    rw [show n + (m + 1) + 1 = (n + m + 1) + 1 from by omega, fn_Md_print_102]
    unfold fn_Md_print_102_b
    rw [bz_m67_12 pm.1, bz_ck (by omega), bz_w (show -2147483648 ≤ f + 1 by omega) (by omega), bz_m76_m1 pm.1, bz_ck (by omega), (pm.2.1.2 f f0 f1).2.2.2.2.1, if_neg (by omega), bz_inM (by omega) (by omega) (x11 i i0 (by omega)) pm (fun h pm => (pm.2.1.2 f f0 f1).2.2.2.2.2.2 i i0 (by omega)) (by omega), bz_bc, bz_bn, bz_w (by omega) (by omega), ih n (i + 1) _ (pm.mps _) (by omega) (by omega) (by omega), bz_mps_app, bz_fl, List.append_assoc]
/-- the functions: printed, and then what the end of print does -/
def bz_pend (h : qz_H) : Option qz_R := if h 67 62 ≤ 320 then fn_Md_print_166 qz_NF 67 0 (qz_up h 67 3 0) else qz_bc (fn_Md_raise 67 1 h) fun r5 h6 => some (r5, h6)
theorem bz_fsM (wf : bz_wf P) : ∀ (m n : Nat) (f : Int) (h : qz_H), bz_PM h P → h 67 62 + 5000 * m ≤ 25000 → 0 ≤ f → (m : Int) + f = P 0 0 → fn_Md_print_20 (n + m + 1) 67 f h = bz_pend (bz_mps h (bz_fl (bz_fnl P) f m ++ [41])) := by
  have w4 := wf.2.1
  intro m
  induction m with
  | zero =>
    intro n f h pm hb f0 hm
    rw [fn_Md_print_20]
    unfold fn_Md_print_20_b bz_pend
    rw [pm.2.1.1, if_pos (by omega), bz_outM pm (by omega) (by omega) (by omega), bz_bc]
    rfl
  | succ m ih =>
    intro n f h pm hb f0 hm
    have f1 : f < P 0 0 := by omega
    obtain ⟨x1, x2, x3, x4, x5, x6, x7, x8, x9, x10, x11⟩ := wf.2.2 f f0 f1
    have lf := bz_fnl_len (wf.2.2 f f0 f1)
    have e5 : kz_sb 11 = [40] ++ bz_b8 1718972003 7 := by decide +kernel
    have pm1 := pm.mps [40]
    have n1 : bz_mps h [40] 67 62 = h 67 62 + 1 := bz_mps_n _ _
    have pm2 := pm.mps (kz_sb 11)
    have n2 : bz_mps h (kz_sb 11) 67 62 = h 67 62 + (kz_sb 11).length := bz_mps_n _ _
    have l2 := bz_sb_len 11
    have pm3 := pm2.mps (bz_r3 (kz_sb 12) P f 0 (P 1 f))
    have n3 : bz_mps (bz_mps h (kz_sb 11)) (bz_r3 (kz_sb 12) P f 0 (P 1 f)) 67 62 = bz_mps h (kz_sb 11) 67 62 + (bz_r3 (kz_sb 12) P f 0 (P 1 f)).length := bz_mps_n _ _
    have l3 := bz_r3_len (bz_sb_len 12) P f (show (0 : Int) ≤ 0 by omega) (show P 1 f ≤ 8 by omega)
    have key : ∀ h2 : qz_H, bz_PM h2 P → h2 67 62 ≤ h 67 62 + 200 → fn_Md_print_75 (fn_Md_print_20 (n + m + 1)) 67 f h2 = fn_Md_print_20 (n + m + 1) 67 (f + 1) (bz_mps h2 (bz_r3 (kz_sb 14) P f (P 1 f) (P 2 f) ++ (bz_fl (bz_inl P) (P 4 f) (P 4 (f + 1) - P 4 f).toNat ++ [41]))) := by
      intro h2 pm hb2
      have pm1 := pm.mps (bz_r3 (kz_sb 14) P f (P 1 f) (P 2 f))
      have n1 : bz_mps h2 (bz_r3 (kz_sb 14) P f (P 1 f) (P 2 f)) 67 62 = h2 67 62 + (bz_r3 (kz_sb 14) P f (P 1 f) (P 2 f)).length := bz_mps_n _ _
      have l1 := bz_r3_len (bz_sb_len 14) P f x1 x4
      obtain ⟨d1, d2, d3, d4, d5, d6, d7⟩ := pm.2.1.2 f f0 f1
      have k := bz_isM wf f0 f1 (fn_Md_print_20 (n + m + 1)) (P 4 (f + 1) - P 4 f).toNat (3999 - (P 4 (f + 1) - P 4 f).toNat) (P 4 f) _ pm1 (by omega) (by omega) (by omega)
      rw [show 3999 - (P 4 (f + 1) - P 4 f).toNat + (P 4 (f + 1) - P 4 f).toNat + 1 = qz_NF from by unfold qz_NF; omega] at k
      unfold fn_Md_print_75
      rw [bz_m67_8 pm.1, bz_m67_9 pm.1, bz_m72_m1 pm.1, bz_m73_m1 pm.1, bz_ck (by omega), bz_ck (by omega), bz_ck (by omega), bz_ck (by omega), d1, d2, bz_r3M wf f0 f1 (op := kz_sb 14) (by decide +kernel) pm (by omega) x1 (Int.le_refl _), bz_bc, bz_m67_12 pm1.1, bz_m76_m1 pm1.1, bz_ck (by omega), bz_ck (by omega), bz_bn, (pm1.2.1.2 f f0 f1).2.2.2.1, k, bz_mps_app]
    have step : fn_Md_print_20 (n + (m + 1) + 1) 67 f h = fn_Md_print_20 (n + m + 1) 67 (f + 1) (bz_mps h (bz_fnl P f)) := by
      rw [show n + (m + 1) + 1 = (n + m + 1) + 1 from by omega, fn_Md_print_20]
      unfold fn_Md_print_20_b bz_fnl
      rw [pm.2.1.1, if_neg (by omega), bz_outM pm (by omega) (by omega) (by omega), bz_bc, bz_outLong _ pm1 (by omega), bz_bc, bz_mps_app, ← e5, bz_m67_8 pm2.1, bz_m72_m1 pm2.1, bz_ck (by omega), bz_ck (by omega), (pm2.2.1.2 f f0 f1).1, bz_r3M wf f0 f1 (op := kz_sb 12) (by decide +kernel) pm2 (by omega) (by omega) (show P 1 f ≤ P 2 f by omega), bz_bc, bz_m67_10 pm3.1, bz_m74_m1 pm3.1, bz_ck (by omega), bz_ck (by omega), (pm3.2.1.2 f f0 f1).2.2.1]
      by_cases c : P 3 f = 0
      · rw [if_pos (by omega), if_pos c, key _ pm3 (by omega), bz_mps_app, bz_mps_app]
        simp only [List.nil_append]
      · have pm4 := pm3.mps (bz_rs (P 3 f))
        have n4 : bz_mps (bz_mps (bz_mps h (kz_sb 11)) (bz_r3 (kz_sb 12) P f 0 (P 1 f))) (bz_rs (P 3 f)) 67 62 = bz_mps (bz_mps h (kz_sb 11)) (bz_r3 (kz_sb 12) P f 0 (P 1 f)) 67 62 + (bz_rs (P 3 f)).length := bz_mps_n _ _
        have l4 := bz_rs_len (P 3 f)
        rw [if_neg (by omega), if_neg c, bz_ck (by omega), bz_ck (by omega), bz_outR pm3 (by omega), bz_bc, key _ pm4 (by omega), bz_mps_app, bz_mps_app, bz_mps_app]
    have n5 : bz_mps h (bz_fnl P f) 67 62 = h 67 62 + (bz_fnl P f).length := bz_mps_n _ _
    rw [step, ih n (f + 1) _ (pm.mps _) (by omega) (by omega) (by omega), bz_mps_app, bz_fl, List.append_assoc]
theorem bz_wrM (wf : bz_wf P) {h : qz_H} (hL : bz_LM h) (mm : bz_MM h P) : fn_Md_print 67 h = bz_pend (bz_mps (qz_up h 67 62 0) (bz_prt P)) := by
  have w := wf.2.1
  have w0 := wf.1
  have pm : bz_PM (qz_up h 67 62 0) P := ⟨bz_LM_up (a := 67) (b := 67) (c := 62) (e := 62) (by decide +kernel) (by omega) (by omega) (by omega) (by omega) hL, bz_MM_same (bz_ui (by omega)) (fun o i o1 o2 => bz_uo (by omega)) mm, by rw [bz_us]; omega⟩
  have e0 : qz_up h 67 62 0 67 62 = 0 := bz_us _ _ _ _
  have e5 : kz_sb 10 = [40] ++ bz_b8 120325194214501 7 := by decide +kernel
  have l1 := bz_sb_len 10
  have pm1 := pm.mps [40]
  have n1 : bz_mps (qz_up h 67 62 0) [40] 67 62 = qz_up h 67 62 0 67 62 + 1 := bz_mps_n _ _
  have pm2 := pm.mps (kz_sb 10)
  have n2 : bz_mps (qz_up h 67 62 0) (kz_sb 10) 67 62 = qz_up h 67 62 0 67 62 + (kz_sb 10).length := bz_mps_n _ _
  have k := bz_fsM wf (P 0 0).toNat (3999 - (P 0 0).toNat) 0 _ pm2 (by omega) (by omega) (by omega)
  rw [show 3999 - (P 0 0).toNat + (P 0 0).toNat + 1 = qz_NF from by unfold qz_NF; omega] at k
  unfold fn_Md_print bz_prt
  rw [bz_ck (by omega), bz_bn, bz_outM pm (by omega) (by omega) (by omega), bz_bc, bz_outLong _ pm1 (by omega), bz_bc, bz_mps_app, ← e5, bz_bn, k, bz_mps_app]
end PRN
