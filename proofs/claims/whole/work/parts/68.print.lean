theorem bz_op_aw {h : qz_H} (hL : bz_LC h) {x : Int} (x1 : -30 ≤ x) (x2 : x ≤ -1) : fn_Op_awaitsOperand x h = some (if kz_dt x 2 = 0 ∨ kz_dt x 2 = 1 then 0 else 1, h) := by
  unfold fn_Op_awaitsOperand fn_Op_awaitsOperand_19 fn_Op_awaitsOperand_20
  rw [hL.2 x 2 (by omega) (by omega) (by omega) (by omega)]
  by_cases c0 : kz_dt x 2 = 0
  · rw [if_pos c0, if_pos (Or.inl c0)]; rfl
  by_cases c1 : kz_dt x 2 = 1
  · rw [if_neg c0, if_pos c1, if_pos (Or.inr c1)]; rfl
  · rw [if_neg c0, if_neg c1, if_neg (by omega)]; rfl
theorem bz_op_ob {h : qz_H} (hL : bz_LC h) {x : Int} (x1 : -30 ≤ x) (x2 : x ≤ -1) : fn_Op_opensBlock x h = some (if kz_dt x 2 = 1 then 1 else 0, h) := by
  unfold fn_Op_opensBlock fn_Op_opensBlock_13
  rw [hL.2 x 2 (by omega) (by omega) (by omega) (by omega)]
  by_cases c1 : kz_dt x 2 = 1
  · rw [if_neg (by omega), if_pos c1]; rfl
  · rw [if_pos c1, if_neg c1]; rfl
theorem bz_op_wd {x : Int} (x1 : -30 ≤ x) (x2 : x ≤ -1) : kz_dt x 0 = -35 - 2 * ((kz_opw.getD (-x - 1).toNat 0 : Nat) : Int) ∧ kz_opw.getD (-x - 1).toNat 0 < 46 := by
  refine ⟨?_, kz_opw_lt _ (by omega)⟩
  unfold kz_dt
  rw [if_pos x1, if_neg (by omega), if_pos rfl]
section PRD
variable {T M : Int} {P : qz_H}
theorem bz_inC (hT : T = 2 ∨ T = 4) (hM : M = 6 ∨ M = 18) (wf : bz_wf P) {i : Int} (hr : bz_row P i) {h : qz_H} (pc : bz_PC h T M P) (hb : h T 1 ≤ 36000) : fn_Printer_writeInstruction 66 (P 8 i) (P 6 i) h = some (0, bz_aps h T (bz_inl P i)) := by
  obtain ⟨r1, r2, r3, r4, r5, r6, r7, r8, r9⟩ := hr
  obtain ⟨w1, w2⟩ := bz_op_wd r1 r2
  have pc1 := pc.aps hT hM wf [32]
  have n1 : bz_aps h T [32] T 1 = h T 1 + 1 := bz_aps_n _ _ _
  have pc2 := pc1.aps hT hM wf (bz_wd (P 8 i))
  have l2 := bz_sb_len (kz_opw.getD (-P 8 i - 1).toNat 0)
  have n2 : bz_aps (bz_aps h T [32]) T (bz_wd (P 8 i)) T 1 = bz_aps h T [32] T 1 + (bz_wd (P 8 i)).length := bz_aps_n _ _ _
  have l2' : (bz_wd (P 8 i)).length ≤ 30 := l2
  have pc3 := pc2.aps hT hM wf [32]
  have n3 : bz_aps (bz_aps (bz_aps h T [32]) T (bz_wd (P 8 i))) T [32] T 1 = bz_aps (bz_aps h T [32]) T (bz_wd (P 8 i)) T 1 + 1 := bz_aps_n _ _ _
  unfold fn_Printer_writeInstruction fn_Printer_writeInstruction_75 bz_inl
  rw [pc.2.1, bz_ck (by omega), bz_pAdd hT pc (by omega) (by omega) (by omega), bz_bc, bz_ck (by omega), pc1.2.1, bz_ck (by omega), pc1.1.2 _ 0 (by omega) (by omega) (by omega) (by omega), bz_addS hT (kz_opw.getD (-P 8 i - 1).toNat 0) w1 w2 pc1.1 pc1.2.2.2 (by omega), bz_bc, bz_ck (by omega)]
  rw [show kz_sb (kz_opw.getD (-P 8 i - 1).toNat 0) = bz_wd (P 8 i) from rfl]
  rw [bz_op_aw pc2.1 r1 r2, bz_bc]
  by_cases c0 : kz_dt (P 8 i) 2 = 0
  · have q : (if kz_dt (P 8 i) 2 = 0 ∨ kz_dt (P 8 i) 2 = 1 then (0 : Int) else 1) = 0 := if_pos (Or.inl c0)
    have q2 : (if kz_dt (P 8 i) 2 = 1 then (1 : Int) else 0) = 0 := if_neg (by omega)
    rw [q, if_pos rfl, bz_ck (by omega), bz_op_ob pc2.1 r1 r2, bz_bc, q2, if_pos rfl, if_pos c0, bz_aps_app, List.append_nil]
    rfl
  by_cases c1 : kz_dt (P 8 i) 2 = 1
  · have q : (if kz_dt (P 8 i) 2 = 0 ∨ kz_dt (P 8 i) 2 = 1 then (0 : Int) else 1) = 0 := if_pos (Or.inr c1)
    have q2 : (if kz_dt (P 8 i) 2 = 1 then (1 : Int) else 0) = 1 := if_pos c1
    obtain ⟨v0, v1⟩ := r7 c1
    rw [q, if_pos rfl, bz_ck (by omega), bz_op_ob pc2.1 r1 r2, bz_bc, q2, if_neg (by omega), if_neg c0, if_pos c1]
    by_cases cv : P 6 i = 0
    · rw [cv, bz_cmp_eq, if_pos rfl, if_pos rfl, bz_aps_app, List.append_nil]
      rfl
    · rw [bz_cmp_gt (by omega), if_neg (by omega), if_neg cv, pc2.2.1, bz_ck (by omega), bz_pAdd hT pc2 (by omega) (by omega) (by omega), bz_bc, bz_w (by omega) (by omega), bz_rsC hT hM wf pc3 (by omega), bz_bc, bz_aps_app, bz_aps_app, bz_aps_app]
      simp only [List.cons_append, List.nil_append]
  · have q : (if kz_dt (P 8 i) 2 = 0 ∨ kz_dt (P 8 i) 2 = 1 then (0 : Int) else 1) = 1 := if_neg (by omega)
    rw [q, if_neg (by omega), if_neg c0, if_neg c1, pc2.2.1, bz_ck (by omega), bz_pAdd hT pc2 (by omega) (by omega) (by omega), bz_bc, pc3.2.1, bz_ck (by omega), bz_numC hT hM wf r4 r5 pc3 (by omega), bz_bc, bz_aps_app, bz_aps_app, bz_aps_app]
    simp only [List.cons_append, List.nil_append]
theorem bz_isC (hT : T = 2 ∨ T = 4) (hM : M = 6 ∨ M = 18) (wf : bz_wf P) {f : Int} (f0 : 0 ≤ f) (f1 : f < P 0 0) : ∀ (m n : Nat) (k : Int) (h : qz_H), bz_PC h T M P → h T 1 + 60 * m ≤ 35000 → 0 ≤ k → (m : Int) + k = P 4 (f + 1) - P 4 f →
    fn_Printer_writeFunction_53 (n + m + 1) 66 M (M + 4 + 2 * f) k h = some (0, bz_aps h T (bz_fl (bz_inl P) (P 4 f + k) m ++ [41])) := by
  intro m
  induction m with
  | zero =>
    intro n k h pc hb k0 hm
    rw [fn_Printer_writeFunction_53]
    unfold fn_Printer_writeFunction_53_b fn_Printer_writeFunction_104
    obtain ⟨c1, c2, c3, c4, c5, c6, c7⟩ := pc.2.2.1.2 f f0 f1
    rw [bz_ck (by omega), c5, if_pos (by omega), pc.2.1, bz_ck (by omega), bz_pAdd hT pc (by omega) (by omega) (by omega), bz_bc]
    rfl
  | succ m ih =>
    intro n k h pc hb k0 hm
    obtain ⟨x1, x2, x3, x4, x5, x6, x7, x8, x9, x10, x11⟩ := wf.2.2 f f0 f1
    obtain ⟨c1, c2, c3, c4, c5, c6, c7⟩ := pc.2.2.1.2 f f0 f1
    obtain ⟨a1, a2, a3, a4, a5, a6⟩ := bz_mod pc.1 hM
    obtain ⟨d1, d2⟩ := c7 (P 4 f + k) (by omega) (by omega)
    have hr := x11 (P 4 f + k) (by omega) (by omega)
    have l1 := bz_inl_len P (P 4 f + k)
    have n1 : bz_aps h T (bz_inl P (P 4 f + k)) T 1 = h T 1 + (bz_inl P (P 4 f + k)).length := bz_aps_n _ _ _
    rw [show n + (m + 1) + 1 = (n + m + 1) + 1 from by omega, fn_Printer_writeFunction_53]
    unfold fn_Printer_writeFunction_53_b
    rw [bz_ck (by omega), c5, c4, if_neg (by omega), bz_ck (by omega), bz_w (show -2147483648 ≤ P 4 f + k by omega) (by omega), if_neg (by omega), a2, a3, a5, a6, d1, d2]
    simp only [bz_ck (show M ≠ 0 by omega), bz_ck (show M + 4 + 2 * f ≠ 0 by have := wf.2.1; omega), bz_ck (show M + 2 ≠ 0 by omega), bz_ck (show M + 3 ≠ 0 by omega), bz_ck (show 0 ≤ P 4 f + k ∧ P 4 f + k < 64 by omega)]
    rw [bz_inC hT hM wf hr pc (by omega), bz_bc, bz_bn, bz_w (by omega) (by omega), ih n (k + 1) _ (pc.aps hT hM wf _) (by omega) (by omega) (by omega), bz_aps_app, bz_fl, List.append_assoc, Int.add_assoc]
theorem bz_fnC (hT : T = 2 ∨ T = 4) (hM : M = 6 ∨ M = 18) (wf : bz_wf P) {f : Int} (f0 : 0 ≤ f) (f1 : f < P 0 0) {h : qz_H} (pc : bz_PC h T M P) (hb : h T 1 ≤ 30000) : fn_Printer_writeFunction 66 M (M + 4 + 2 * f) h = some (0, bz_aps h T (bz_fnl P f)) := by
  obtain ⟨x1, x2, x3, x4, x5, x6, x7, x8, x9, x10, x11⟩ := wf.2.2 f f0 f1
  have l1 := bz_sb_len 11
  have n1 : bz_aps h T (kz_sb 11) T 1 = h T 1 + (kz_sb 11).length := bz_aps_n _ _ _
  have pc1 := pc.aps hT hM wf (kz_sb 11)
  have n2 : bz_aps (bz_aps h T (kz_sb 11)) T (bz_r3 (kz_sb 12) P f 0 (P 1 f)) T 1 = bz_aps h T (kz_sb 11) T 1 + (bz_r3 (kz_sb 12) P f 0 (P 1 f)).length := bz_aps_n _ _ _
  have l2 := bz_r3_len (bz_sb_len 12) P f (show (0 : Int) ≤ 0 by omega) (show P 1 f ≤ 8 by omega)
  have pc2 := pc1.aps hT hM wf (bz_r3 (kz_sb 12) P f 0 (P 1 f))
  have d1 := (pc1.2.2.1.2 f f0 f1).1
  have d3 := (pc2.2.2.1.2 f f0 f1).2.2.1
  have key : ∀ h : qz_H, bz_PC h T M P → h T 1 ≤ 31000 → fn_Printer_writeFunction_36 66 M (M + 4 + 2 * f) h = some (0, bz_aps h T (bz_r3 (kz_sb 14) P f (P 1 f) (P 2 f) ++ (bz_fl (bz_inl P) (P 4 f) (P 4 (f + 1) - P 4 f).toNat ++ [41]))) := by
    intro h pc hb
    have pc1 := pc.aps hT hM wf (bz_r3 (kz_sb 14) P f (P 1 f) (P 2 f))
    have n1 : bz_aps h T (bz_r3 (kz_sb 14) P f (P 1 f) (P 2 f)) T 1 = h T 1 + (bz_r3 (kz_sb 14) P f (P 1 f) (P 2 f)).length := bz_aps_n _ _ _
    have l1 := bz_r3_len (bz_sb_len 14) P f x1 x4
    obtain ⟨c1, c2, c3, c4, c5, c6, c7⟩ := pc.2.2.1.2 f f0 f1
    have k := bz_isC hT hM wf f0 f1 (P 4 (f + 1) - P 4 f).toNat (3999 - (P 4 (f + 1) - P 4 f).toNat) 0 _ pc1 (by omega) (by omega) (by omega)
    rw [show 3999 - (P 4 (f + 1) - P 4 f).toNat + (P 4 (f + 1) - P 4 f).toNat + 1 = qz_NF from by unfold qz_NF; omega, Int.add_zero] at k
    unfold fn_Printer_writeFunction_36
    rw [bz_ck (by omega), bz_ck (by omega), c1, c2]
    have z := bz_r3C hT hM wf f0 f1 (i := 14) (by omega) pc (by omega) x1 (show P 2 f ≤ P 2 f by omega)
    rw [show (-35 - 2 * ((14 : Nat) : Int)) = -63 from rfl] at z
    rw [z, bz_bc, bz_bn, k, bz_aps_app]
  unfold fn_Printer_writeFunction bz_fnl
  rw [pc.2.1, bz_ck (by omega), bz_addS hT 11 (by omega) (by omega) pc.1 pc.2.2.2 (by omega), bz_bc, bz_ck (by omega), d1]
  have z := bz_r3C hT hM wf f0 f1 (i := 12) (by omega) pc1 (by omega) (show (0 : Int) ≤ 0 by omega) (show P 1 f ≤ P 2 f by omega)
  rw [show (-35 - 2 * ((12 : Nat) : Int)) = -59 from rfl] at z
  rw [z, bz_bc, bz_ck (by omega), d3]
  by_cases c : P 3 f = 0
  · rw [if_pos c, if_pos c, key _ pc2 (by omega), bz_aps_app, bz_aps_app]
    simp only [List.nil_append]
  · have pc3 := pc2.aps hT hM wf (bz_rs (P 3 f))
    have n3 : bz_aps (bz_aps (bz_aps h T (kz_sb 11)) T (bz_r3 (kz_sb 12) P f 0 (P 1 f))) T (bz_rs (P 3 f)) T 1 = bz_aps (bz_aps h T (kz_sb 11)) T (bz_r3 (kz_sb 12) P f 0 (P 1 f)) T 1 + (bz_rs (P 3 f)).length := bz_aps_n _ _ _
    have l3 := bz_rs_len (P 3 f)
    rw [if_neg c, if_neg c, bz_ck (by omega), bz_rsC hT hM wf pc2 (by omega), bz_bc, key _ pc3 (by omega), bz_aps_app, bz_aps_app, bz_aps_app]
theorem bz_fsC (hT : T = 2 ∨ T = 4) (hM : M = 6 ∨ M = 18) (wf : bz_wf P) : ∀ (m n : Nat) (k : Int) (h : qz_H), bz_PC h T M P → h T 1 + 5000 * m ≤ 25000 → 0 ≤ k → (m : Int) + k = P 0 0 →
    fn_Printer_write_24 (n + m + 1) 66 M k h = some (0, bz_aps h T (bz_fl (bz_fnl P) k m ++ [41])) := by
  intro m
  induction m with
  | zero =>
    intro n k h pc hb k0 hm
    rw [fn_Printer_write_24]
    unfold fn_Printer_write_24_b fn_Printer_write_54
    rw [bz_ck (by omega), pc.2.2.1.1, if_pos (by omega), pc.2.1, bz_ck (by omega), bz_pAdd hT pc (by omega) (by omega) (by omega), bz_bc]
    rfl
  | succ m ih =>
    intro n k h pc hb k0 hm
    have w := wf.2.1
    obtain ⟨a1, a2, a3, a4, a5, a6⟩ := bz_mod pc.1 hM
    obtain ⟨b1, b2, b3⟩ := bz_fun pc.1 hM k0 (show k ≤ 3 by omega)
    have l1 := bz_fnl_len (wf.2.2 k k0 (by omega))
    have n1 : bz_aps h T (bz_fnl P k) T 1 = h T 1 + (bz_fnl P k).length := bz_aps_n _ _ _
    rw [show n + (m + 1) + 1 = (n + m + 1) + 1 from by omega, fn_Printer_write_24]
    unfold fn_Printer_write_24_b
    rw [bz_ck (by omega), pc.2.2.1.1, if_neg (by omega), if_neg (by omega), bz_ck (by omega), a1, bz_ck (by omega), a4, bz_ck (by omega), b1, bz_fnC hT hM wf k0 (by omega) pc (by omega), bz_bc, bz_bn, bz_w (by omega) (by omega), ih n (k + 1) _ (pc.aps hT hM wf _) (by omega) (by omega) (by omega), bz_aps_app, bz_fl, List.append_assoc]
/-- the class has printed -/
theorem bz_wrC (hT : T = 2 ∨ T = 4) (hM : M = 6 ∨ M = 18) (wf : bz_wf P) {h : qz_H} (hL : bz_LC h) (mc : bz_MC h M P) : fn_Printer_write 66 M T h = some (0, bz_aps (qz_up (qz_up h 66 0 T) T 1 0) T (bz_prt P)) := by
  have pc : bz_PC (qz_up (qz_up h 66 0 T) T 1 0) T M P := by
    have hL1 : bz_LC (qz_up h 66 0 T) := bz_LC_up (a := 66) (b := 66) (c := 0) (e := 0) (by decide +kernel) (by omega) (by omega) (by omega) (by omega) (by omega) hL
    refine ⟨?_, ?_, ?_, ?_⟩
    · rcases hT with rfl | rfl
      · exact bz_LC_up (a := 2) (b := 2) (c := 1) (e := 1) (by decide +kernel) (by omega) (by omega) (by omega) (by omega) (by omega) hL1
      · exact bz_LC_up (a := 4) (b := 4) (c := 1) (e := 1) (by decide +kernel) (by omega) (by omega) (by omega) (by omega) (by omega) hL1
    · rw [bz_uo (by omega), bz_us]
    · exact bz_MC_same hM wf (fun o i o1 o2 => by rw [bz_uo (by omega), bz_uo (by omega)]) mc
    · rw [bz_us]; omega
  have w := wf.2.1
  have w0 := wf.1
  have l1 := bz_sb_len 10
  have e0 : qz_up (qz_up h 66 0 T) T 1 0 T 1 = 0 := bz_us _ _ _ _
  have pc1 := pc.aps hT hM wf (kz_sb 10)
  have n1 : bz_aps (qz_up (qz_up h 66 0 T) T 1 0) T (kz_sb 10) T 1 = 0 + (kz_sb 10).length := by rw [bz_aps_n, e0]
  have k := bz_fsC hT hM wf (P 0 0).toNat (3999 - (P 0 0).toNat) 0 _ pc1 (by omega) (by omega) (by omega)
  rw [show 3999 - (P 0 0).toNat + (P 0 0).toNat + 1 = qz_NF from by unfold qz_NF; omega] at k
  unfold fn_Printer_write bz_prt
  rw [bz_ck (by omega), bz_bn, bz_us, bz_ck (by omega), bz_ck (by omega), bz_bn, pc.2.1, bz_ck (by omega), bz_addS hT 10 (by omega) (by omega) pc.1 pc.2.2.2 (by omega), bz_bc, bz_bn, k, bz_aps_app]
end PRD
