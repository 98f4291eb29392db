/-! A module, as data: (0, 0) how many functions; 1 parameters, 2 slots, 3 result, 4 start, by function; 5 code, 6 value, 8 the Op, by row; 7 types, at 8 f + k. -/
def bz_row (P : qz_H) (i : Int) : Prop := -30 ≤ P 8 i ∧ P 8 i ≤ -1 ∧ P 5 i = kz_dt (P 8 i) 1 ∧ -9223372036854775808 ≤ P 6 i ∧ P 6 i ≤ 9223372036854775807 ∧ (kz_dt (P 8 i) 2 = 0 → P 6 i = 0) ∧ (kz_dt (P 8 i) 2 = 1 → 0 ≤ P 6 i ∧ P 6 i ≤ 2) ∧ ((kz_dt (P 8 i) 2 = 2 ∨ kz_dt (P 8 i) 2 = 3 ∨ kz_dt (P 8 i) 2 = 4) → 0 ≤ P 6 i ∧ P 6 i ≤ 4294967295) ∧ (kz_dt (P 8 i) 2 = 5 → -2147483648 ≤ P 6 i ∧ P 6 i ≤ 2147483647)
def bz_fok (P : qz_H) (f : Int) : Prop := 0 ≤ P 1 f ∧ P 1 f ≤ 6 ∧ P 1 f ≤ P 2 f ∧ P 2 f ≤ 8 ∧ 0 ≤ P 3 f ∧ P 3 f ≤ 2 ∧ 0 ≤ P 4 f ∧ P 4 f ≤ P 4 (f + 1) ∧ P 4 (f + 1) ≤ 64 ∧ (∀ k : Int, 0 ≤ k → k < P 2 f → P 7 (8 * f + k) = 1 ∨ P 7 (8 * f + k) = 2) ∧ ∀ i : Int, P 4 f ≤ i → i < P 4 (f + 1) → bz_row P i
def bz_wf (P : qz_H) : Prop := 0 ≤ P 0 0 ∧ P 0 0 ≤ 4 ∧ ∀ f : Int, 0 ≤ f → f < P 0 0 → bz_fok P f
/-- the class's module M, the model's, are that data -/
def bz_MC (h : qz_H) (M : Int) (P : qz_H) : Prop := h M 3 = P 0 0 ∧ ∀ f : Int, 0 ≤ f → f < P 0 0 → h (M + 4 + 2 * f) 1 = P 1 f ∧ h (M + 4 + 2 * f) 2 = P 2 f ∧ h (M + 4 + 2 * f) 3 = P 3 f ∧ h (M + 4 + 2 * f) 4 = P 4 f ∧ h (M + 4 + 2 * f) 5 = P 4 (f + 1) - P 4 f ∧ (∀ k : Int, 0 ≤ k → k < P 2 f → h (M + 5 + 2 * f) k = P 7 (8 * f + k)) ∧ ∀ i : Int, P 4 f ≤ i → i < P 4 (f + 1) → h (M + 2) i = P 8 i ∧ h (M + 3) i = P 6 i
def bz_MM (h : qz_H) (P : qz_H) : Prop := h 67 7 = P 0 0 ∧ ∀ f : Int, 0 ≤ f → f < P 0 0 → h 72 f = P 1 f ∧ h 73 f = P 2 f ∧ h 74 f = P 3 f ∧ h 76 f = P 4 f ∧ h 76 (f + 1) = P 4 (f + 1) ∧ (∀ k : Int, 0 ≤ k → k < P 2 f → h 75 (8 * f + k) = P 7 (8 * f + k)) ∧ ∀ i : Int, P 4 f ≤ i → i < P 4 (f + 1) → h 77 i = P 5 i ∧ h 78 i = P 6 i
/-- the bytes -/
def bz_RE (hc hm : qz_H) : Prop := 0 ≤ hc 63 2 ∧ hc 63 2 ≤ 1024 ∧ hm 67 58 = hc 63 2 ∧ ∀ k : Int, 0 ≤ k → k < hc 63 2 → qz_and (hc 64 k) 255 = hm 106 k
theorem bz_cmp_lt {a b : Int} (h : a < b) : qz_cmp a b = -1 := by
  unfold qz_cmp
  rw [if_neg (by omega), if_neg (by omega)]
theorem bz_cmp_gt {a b : Int} (h : b < a) : qz_cmp a b = 1 := by
  unfold qz_cmp
  rw [if_pos h]
theorem bz_cmp_eq (a : Int) : qz_cmp a a = 0 := by
  unfold qz_cmp
  rw [if_neg (by omega), if_pos rfl]
theorem bz_cmp_neg (a b : Int) : qz_cmp a b < 0 ↔ a < b := by
  unfold qz_cmp
  split <;> (try split) <;> omega
theorem bz_cmp_nn (a b : Int) : 0 ≤ qz_cmp a b ↔ b ≤ a := by
  unfold qz_cmp
  split <;> (try split) <;> omega
theorem bz_hasF (h : qz_H) (M f : Int) : fn_Module_hasFunction M f h = some (if 0 ≤ f ∧ f < h M 3 ∧ f < 4 then 1 else 0, h) := by
  unfold fn_Module_hasFunction fn_Module_hasFunction_28 fn_Module_hasFunction_29
  simp only [bz_cmp_neg, bz_cmp_nn]
  by_cases c1 : f < 0
  · rw [if_pos c1, if_neg (by omega)]; rfl
  rw [if_neg c1]
  by_cases c2 : h M 3 ≤ f
  · rw [if_pos c2, if_neg (by omega)]; rfl
  rw [if_neg c2]
  by_cases c3 : 4 ≤ f
  · rw [if_pos c3, if_neg (by omega)]; rfl
  rw [if_neg c3, if_pos (by omega)]; rfl
theorem bz_hasS (h : qz_H) (F k : Int) : fn_Function_hasSlot F k h = some (if 0 ≤ k ∧ k < h F 2 ∧ k < 8 then 1 else 0, h) := by
  unfold fn_Function_hasSlot fn_Function_hasSlot_28 fn_Function_hasSlot_29
  simp only [bz_cmp_neg, bz_cmp_nn]
  by_cases c1 : k < 0
  · rw [if_pos c1, if_neg (by omega)]; rfl
  rw [if_neg c1]
  by_cases c2 : h F 2 ≤ k
  · rw [if_pos c2, if_neg (by omega)]; rfl
  rw [if_neg c2]
  by_cases c3 : 8 ≤ k
  · rw [if_pos c3, if_neg (by omega)]; rfl
  rw [if_neg c3, if_pos (by omega)]; rfl
theorem bz_isF (h : qz_H) (f : Int) : fn_Md_isFunction 67 f h = some (if 0 ≤ f ∧ f < h 67 7 then 1 else 0, h) := by
  unfold fn_Md_isFunction fn_Md_isFunction_16 fn_Md_isFunction_17
  by_cases c1 : f < 0
  · rw [if_pos c1, if_neg (by omega)]; rfl
  rw [if_neg c1]
  by_cases c2 : h 67 7 ≤ f
  · rw [if_pos c2, if_neg (by omega)]; rfl
  rw [if_neg c2, if_pos (by omega)]; rfl
/-- the model's first act -/
theorem bz_th_LM {h : qz_H} (hL : bz_LM h) (v : Int) : bz_LM (qz_up h 67 3 v) := bz_LM_up (a := 67) (b := 67) (c := 3) (e := 5) (by decide +kernel) (by omega) (by omega) (by omega) (by omega) hL
theorem bz_th_MM {h P : qz_H} (hM : bz_MM h P) (v : Int) : bz_MM (qz_up h 67 3 v) P := by
  refine ⟨by rw [bz_ui (by omega)]; exact hM.1, fun f f0 f1 => ?_⟩
  simp (disch := omega) only [bz_uo]
  exact hM.2 f f0 f1
section QRY
variable {hc hm P : qz_H} {M : Int}
theorem bz_functions (hM : M = 6 ∨ M = 18) (h16 : hc 1 6 = M) (mc : bz_MC hc M P) (mm : bz_MM hm P) : fn_SA_functions 1 hc = some (P 0 0, hc) ∧ fn_Md_functions 67 hm = some (P 0 0, qz_up hm 67 3 0) := by
  constructor
  · unfold fn_SA_functions
    rw [h16, bz_ck (by omega), mc.1]
  · unfold fn_Md_functions
    rw [bz_ck (by omega), bz_bn, bz_ui (by omega), mm.1]
theorem bz_place (hp : hc 1 8 = hm 67 4) : fn_SA_place 1 hc = some (hm 67 4, hc) ∧ fn_Md_place 67 hm = some (hm 67 4, qz_up hm 67 3 0) := by
  constructor
  · unfold fn_SA_place
    rw [hp]
  · unfold fn_Md_place
    rw [bz_ck (by omega), bz_bn, bz_ui (by omega)]
theorem bz_octet (hL : bz_LC hc) (hLM : bz_LM hm) (hE : bz_RE hc hm) (k : Int) : ∃ r, fn_SA_octet 1 k hc = some (r, hc) ∧ fn_Md_octet 67 k hm = some (r, qz_up hm 67 3 0) := by
  obtain ⟨e1, e2, e3, e4⟩ := hE
  unfold fn_SA_octet fn_SA_octet_23 fn_Encoder_at fn_Encoder_at_32 fn_Encoder_at_33 fn_Md_octet fn_Md_octet_38 fn_Md_octet_39
  have z1 : qz_up hm 67 3 0 67 58 = hc 63 2 := by rw [bz_ui (by omega)]; exact e3
  have z2 : qz_up hm 67 3 0 67 59 = 106 := by rw [bz_ui (by omega)]; exact bz_m67_59 hLM
  have z3 : qz_up hm 67 3 0 106 (-1) = 1400 := by rw [bz_uo (by omega)]; exact bz_m106_m1 hLM
  have z4 : qz_up hm 67 3 0 106 k = hm 106 k := bz_uo (by omega)
  simp only [bz_bn, bz_c1_2 hL, z1, z2, z3, z4, bz_c63_0 hL, bz_c64_m1 hL]
  by_cases c0 : k = -1
  · simp (disch := omega) only [if_pos, if_neg, bz_ck]
    exact ⟨_, rfl, rfl⟩
  by_cases c1 : k < 0
  · simp (disch := omega) only [if_pos, if_neg, bz_ck, bz_bc]
    exact ⟨_, rfl, rfl⟩
  by_cases c2 : hc 63 2 ≤ k
  · simp (disch := omega) only [if_pos, if_neg, bz_ck, bz_bc]
    exact ⟨_, rfl, rfl⟩
  simp (disch := omega) only [if_pos, if_neg, bz_ck, bz_bc]
  rw [e4 k (by omega) (by omega)]
  exact ⟨_, rfl, rfl⟩
theorem bz_function (hL : bz_LC hc) (hLM : bz_LM hm) (hM : M = 6 ∨ M = 18) (h16 : hc 1 6 = M) (wf : bz_wf P) (mc : bz_MC hc M P) (mm : bz_MM hm P) {f k : Int} (k1 : -2147483648 ≤ k) (k2 : k ≤ 2147483647) : ∃ r, fn_SA_function 1 f k hc = some (r, hc) ∧ fn_Md_function 67 f k hm = some (r, qz_up hm 67 3 0) := by
  have mm3 := bz_th_MM mm 0
  have hL3 := bz_th_LM hLM 0
  obtain ⟨a1, a2, a3, a4, a5, a6⟩ := bz_mod hL hM
  obtain ⟨w1, w2, w3⟩ := wf
  unfold fn_SA_function fn_SA_function_16 fn_SA_function_103 fn_Md_function fn_Md_function_23 fn_Md_function_116 fn_Md_function_59
  simp only [bz_bn, bz_bc, bz_hasF, bz_hasS, bz_isF, h16]
  simp only [bz_ck (show M ≠ 0 by omega), bz_ck (show (0 : Int) < 67 by omega), mm3.1, mc.1]
  by_cases c1 : 0 ≤ f ∧ f < P 0 0
  · have q1 : 0 ≤ f ∧ f < P 0 0 ∧ f < 4 := by omega
    simp only [if_pos c1, if_pos q1, if_neg (show ¬ (1 : Int) = 0 by omega)]
    obtain ⟨b1, b2, b3⟩ := bz_fun hL hM c1.1 (show f ≤ 3 by omega)
    obtain ⟨x1, x2, x3, x4, x5, x6, x7, x8, x9, x10, x11⟩ := w3 f c1.1 c1.2
    obtain ⟨c1', c2', c3', c4', c5', c6', c7'⟩ := mc.2 f c1.1 c1.2
    obtain ⟨d1, d2, d3, d4, d5, d6, d7⟩ := mm3.2 f c1.1 c1.2
    by_cases c2 : k < 0
    · rw [if_neg (by omega), if_pos c2]
      exact ⟨_, rfl, rfl⟩
    rw [if_pos (by omega), if_neg c2, a1, a4, b1]
    simp only [bz_ck (show M + 1 ≠ 0 by omega), bz_ck (show 0 ≤ f ∧ f < 4 by omega), bz_ck (show M + 4 + 2 * f ≠ 0 by omega)]
    simp only [bz_m67_8 hL3, bz_m67_9 hL3, bz_m67_10 hL3, bz_m67_11 hL3, bz_m67_12 hL3, bz_m72_m1 hL3, bz_m73_m1 hL3, bz_m74_m1 hL3, bz_m75_m1 hL3, bz_m76_m1 hL3, bz_w (show -2147483648 ≤ f + 1 by omega) (by omega), bz_w (show -2147483648 ≤ k - 4 by omega) (by omega), bz_w (show -2147483648 ≤ 8 * f by omega) (by omega), c1', c2', c3', c5', d1, d2, d3, d4, d5, b2, b3, qz_swt]
    by_cases k0 : k = 0
    · subst k0
      simp (disch := omega) only [if_pos, if_neg, bz_ck]
      exact ⟨_, rfl, rfl⟩
    by_cases k1 : k = 1
    · subst k1
      simp (disch := omega) only [if_pos, if_neg, bz_ck]
      exact ⟨_, rfl, rfl⟩
    by_cases k2 : k = 2
    · subst k2
      simp (disch := omega) only [if_pos, if_neg, bz_ck]
      exact ⟨_, rfl, rfl⟩
    by_cases k3 : k = 3
    · subst k3
      simp (disch := omega) only [if_pos, if_neg, bz_ck, bz_w]
      exact ⟨_, rfl, rfl⟩
    by_cases k11 : k ≤ 11
    · by_cases ks : k - 4 < P 2 f
      · have hw : qz_w (qz_w (8 * f + k) - 4) = 8 * f + (k - 4) := by
          rw [bz_w (show -2147483648 ≤ 8 * f + k by omega) (by omega), bz_w (by omega) (by omega)]
          omega
        simp (disch := omega) only [if_pos, if_neg, bz_ck, hw]
        rw [c6' (k - 4) (by omega) (by omega), d6 (k - 4) (by omega) (by omega)]
        exact ⟨_, rfl, rfl⟩
      · simp (disch := omega) only [if_pos, if_neg, bz_ck]
        exact ⟨_, rfl, rfl⟩
    · simp (disch := omega) only [if_pos, if_neg, bz_ck]
      exact ⟨_, rfl, rfl⟩
  · have q1 : ¬ (0 ≤ f ∧ f < P 0 0 ∧ f < 4) := by omega
    simp only [if_neg c1, if_neg q1, if_true]
    exact ⟨_, rfl, rfl⟩
theorem bz_hasI (hL : bz_LC hc) (hLM : bz_LM hm) (hM : M = 6 ∨ M = 18) (wf : bz_wf P) (mc : bz_MC hc M P) (mm : bz_MM hm P) {f k : Int} (k1 : -2147483648 ≤ k) (k2 : k ≤ 2147483647) : (fn_Module_hasInstruction M f k hc = some (0, hc) ∧ fn_Md_isInstruction 67 f k hm = some (0, hm)) ∨ (fn_Module_hasInstruction M f k hc = some (1, hc) ∧ fn_Md_isInstruction 67 f k hm = some (1, hm) ∧ 0 ≤ f ∧ f < P 0 0 ∧ 0 ≤ k ∧ k < P 4 (f + 1) - P 4 f) := by
  obtain ⟨a1, a2, a3, a4, a5, a6⟩ := bz_mod hL hM
  obtain ⟨w1, w2, w3⟩ := wf
  unfold fn_Module_hasInstruction fn_Module_hasInstruction_46 fn_Module_hasInstruction_47 fn_Md_isInstruction fn_Md_isInstruction_35 fn_Md_isInstruction_36
  simp only [bz_bc, bz_hasF, bz_isF]
  simp only [mm.1, mc.1]
  by_cases c1 : 0 ≤ f ∧ f < P 0 0
  · have q1 : 0 ≤ f ∧ f < P 0 0 ∧ f < 4 := by omega
    simp only [if_pos c1, if_pos q1, if_neg (show ¬ (1 : Int) = 0 by omega)]
    obtain ⟨b1, b2, b3⟩ := bz_fun hL hM c1.1 (show f ≤ 3 by omega)
    obtain ⟨x1, x2, x3, x4, x5, x6, x7, x8, x9, x10, x11⟩ := w3 f c1.1 c1.2
    obtain ⟨c1', c2', c3', c4', c5', c6', c7'⟩ := mc.2 f c1.1 c1.2
    obtain ⟨d1, d2, d3, d4, d5, d6, d7⟩ := mm.2 f c1.1 c1.2
    by_cases c2 : k < 0
    · rw [if_pos c2, if_pos c2]
      exact Or.inl ⟨rfl, rfl⟩
    simp only [if_neg c2, a1, a4, b1, c4', c5', bz_m67_12 hLM, bz_m76_m1 hLM, bz_w (show -2147483648 ≤ f + 1 by omega) (by omega), d4, d5, bz_w (show -2147483648 ≤ P 4 (f + 1) - P 4 f by omega) (by omega)]
    by_cases c3 : P 4 (f + 1) - P 4 f ≤ k
    · simp (disch := omega) only [if_pos, if_neg, bz_ck]
      exact Or.inl ⟨rfl, rfl⟩
    · rw [bz_w (show -2147483648 ≤ P 4 f + k by omega) (by omega)]
      simp (disch := omega) only [if_pos, if_neg, bz_ck]
      exact Or.inr ⟨rfl, rfl, by omega, by omega, by omega, by omega⟩
  · have q1 : ¬ (0 ≤ f ∧ f < P 0 0 ∧ f < 4) := by omega
    simp only [if_neg c1, if_neg q1, if_true]
    exact Or.inl ⟨rfl, rfl⟩
theorem bz_ins (hL : bz_LC hc) (hLM : bz_LM hm) (hM : M = 6 ∨ M = 18) (h16 : hc 1 6 = M) (wf : bz_wf P) (mc : bz_MC hc M P) (mm : bz_MM hm P) {f k : Int} (k1 : -2147483648 ≤ k) (k2 : k ≤ 2147483647) : (∃ r, fn_SA_instruction 1 f k hc = some (r, hc) ∧ fn_Md_instruction 67 f k hm = some (r, qz_up hm 67 3 0)) ∧ ∃ r, fn_SA_immediate 1 f k hc = some (r, hc) ∧ fn_Md_immediate 67 f k hm = some (r, qz_up hm 67 3 0) := by
  have mm3 := bz_th_MM mm 0
  have hL3 := bz_th_LM hLM 0
  obtain ⟨a1, a2, a3, a4, a5, a6⟩ := bz_mod hL hM
  unfold fn_SA_instruction fn_SA_instruction_41 fn_SA_immediate fn_SA_immediate_38 fn_Md_instruction fn_Md_instruction_31 fn_Md_immediate fn_Md_immediate_31
  simp only [bz_bn, h16, bz_ck (show M ≠ 0 by omega), bz_ck (show (0 : Int) < 67 by omega)]
  rcases bz_hasI hL hL3 hM wf mc mm3 (f := f) k1 k2 with ⟨e1, e2⟩ | ⟨e1, e2, f1, f2, k3, k4⟩
  · simp only [e1, e2, bz_bc]
    exact ⟨⟨_, rfl, rfl⟩, ⟨_, rfl, rfl⟩⟩
  · obtain ⟨w1, w2, w3⟩ := wf
    obtain ⟨b1, b2, b3⟩ := bz_fun hL hM f1 (show f ≤ 3 by omega)
    obtain ⟨x1, x2, x3, x4, x5, x6, x7, x8, x9, x10, x11⟩ := w3 f f1 f2
    obtain ⟨c1', c2', c3', c4', c5', c6', c7'⟩ := mc.2 f f1 f2
    obtain ⟨d1, d2, d3, d4, d5, d6, d7⟩ := mm3.2 f f1 f2
    obtain ⟨z1, z2⟩ := c7' (P 4 f + k) (by omega) (by omega)
    obtain ⟨y1, y2⟩ := d7 (P 4 f + k) (by omega) (by omega)
    obtain ⟨p1, p2, p3, p4⟩ := x11 (P 4 f + k) (by omega) (by omega)
    simp only [e1, e2, bz_bc, h16, a1, a2, a3, a4, a5, a6, b1, c4', d4, bz_m67_12 hL3, bz_m67_13 hL3, bz_m67_14 hL3, bz_m76_m1 hL3, bz_m77_m1 hL3, bz_m78_m1 hL3, bz_w (show -2147483648 ≤ P 4 f + k by omega) (by omega), z1, z2, y1, y2]
    simp (disch := omega) only [if_pos, if_neg, bz_ck]
    rw [hL.2 _ 1 (by omega) (by omega) (by omega) (by omega), p3]
    exact ⟨⟨_, rfl, rfl⟩, ⟨_, rfl, rfl⟩⟩
end QRY
