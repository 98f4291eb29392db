/-- how deep the blocks of a function stand, row by row -/
def bz_nd (P : qz_H) (f : Int) : Nat → Int
  | 0 => 0
  | m + 1 => bz_nd P f m + bz_dl (P 5 (P 4 f + (m : Int)))
def bz_nst (P : qz_H) (f : Int) : Prop := ∀ m : Nat, (m : Int) < P 4 (f + 1) - P 4 f → (2 ≤ P 5 (P 4 f + (m : Int)) ∧ P 5 (P 4 f + (m : Int)) ≤ 4 → bz_nd P f m ≤ 9) ∧ (P 5 (P 4 f + (m : Int)) = 5 ∨ P 5 (P 4 f + (m : Int)) = 11 → 1 ≤ bz_nd P f m)
section CKI
variable {h0 m0 hc hm P : qz_H} {M f : Int}
/-- the start of a function -/
theorem bz_RF0 (a6 : hc 48 6 = 0) {rs : Int} (r0 : 0 ≤ rs) (r1 : rs ≤ 2) : bz_RF (qz_up (qz_up (qz_up (qz_up (qz_up (qz_up (qz_up hc 48 4 0) 48 5 0) 51 0 rs) 51 1 rs) 51 2 0) 51 3 0) 51 4 0) (qz_up (qz_up (qz_up (qz_up (qz_up (qz_up (qz_up (qz_up (qz_up hm 67 49 0) 67 51 0) 67 57 0) 101 0 rs) 102 0 rs) 103 0 0) 104 0 0) 105 0 0) 67 51 1) 0 0 0 := by
  refine ⟨⟨?_, ?_, ?_, ?_, ?_, ?_⟩, ⟨Or.inl rfl, by omega, by omega, by omega, by omega⟩, fun k k0 k1 => by omega, fun j j0 j1 => ?_, fun j j0 j1 => by omega, ?_⟩
  · simp (disch := omega) only [bz_uo, bz_ui, bz_us]
  · simp (disch := omega) only [bz_uo, bz_ui, bz_us]
  · simp (disch := omega) only [bz_uo, bz_ui, bz_us]
  · rw [bz_us]; rfl
  · simp (disch := omega) only [bz_uo, bz_ui]; exact a6
  · simp (disch := omega) only [bz_uo, bz_ui, bz_us]
  · have : j = 0 := by omega
    subst this
    unfold bz_fm1
    rw [show (51 : Int) + 0 = 51 from rfl]
    simp (disch := omega) only [bz_uo, bz_ui, bz_us]
    exact ⟨trivial, trivial, trivial, trivial, by simp, Or.inl trivial, ⟨r0, r1⟩, ⟨r0, r1⟩, by omega, Or.inl trivial⟩
  · rw [show (51 : Int) + 0 = 51 from rfl]
    simp (disch := omega) only [bz_uo, bz_ui, bz_us]
    exact Int.le_refl _
/-- how the rows of a function end -/
def bz_FE (h0 m0 : qz_H) (M : Int) (P : qz_H) (f : Int) (k2 : Int → Int → qz_H → Option qz_R) (a b : Option qz_R) : Prop := (∃ n hc' hm', a = some (n, hc') ∧ b = k2 67 (f + 1) hm' ∧ bz_XK h0 hc' M P f ∧ hc' 48 6 = 0 ∧ bz_XL m0 hm' P) ∨ (∃ p hc' hm', a = some (p, hc') ∧ b = some (0, qz_up hm' 67 4 (64 * f + p)) ∧ bz_Iv h0 m0 hc' hm' M P f ∧ 0 ≤ p ∧ p ≤ 64)
theorem bz_rowsK (hM : M = 6 ∨ M = 18) (wf : bz_wf P) (f0 : 0 ≤ f) (f1 : f < P 0 0) (ns : bz_nst P f) (k2 : Int → Int → qz_H → Option qz_R) : ∀ (m n k : Nat) (t : Int) (hc hm : qz_H), (m : Int) + k = P 4 (f + 1) - P 4 f → bz_K h0 m0 hc hm M P f (bz_nd P f k) t 0 → t ≤ k → bz_FE h0 m0 M P f k2 (fn_Checker_checkFunction_36 (n + m + 2) 48 (k : Int) hc) (fn_Md_isValid_60 k2 (n + m + 2) 67 f (P 4 (f + 1) - P 4 f) (k : Int) hm) := by
  have w4 := wf.2.1
  obtain ⟨x1, x2, x3, x4, x5, x6, x7, x8, x9, x10, x11⟩ := wf.2.2 f f0 f1
  have bad : ∀ (n p : Nat) (hm : qz_H) (k60 : Int → Int → Int → Int → qz_H → Option qz_R), hm 67 57 = 1 → (p : Int) ≤ 64 → fn_Md_isValid_106 k2 k60 67 f (P 4 (f + 1) - P 4 f) (p : Int) hm = some (0, qz_up hm 67 4 (64 * f + p)) := by
    intro n p hm k60 h57 hp
    unfold fn_Md_isValid_106
    rw [h57, if_neg (by omega), bz_ck (by omega), bz_bn, bz_w (show -2147483648 ≤ 64 * f by omega) (by omega), bz_w (by omega) (by omega), bz_ck (by omega)]
  intro m
  induction m with
  | zero =>
    intro n k t hc hm hk kk htk
    obtain ⟨h1, m1, e1, e2, e3⟩ := bz_endf hM wf kk
    have hk4 : hc 48 3 = M + 4 + 2 * f := kk.1.2.2.2.1
    obtain ⟨c1, c2, c3, c4, c5, c6, c7⟩ := kk.1.2.1.2 f f0 f1
    have hcS : ∀ h1, fn_Checker_endFrame 48 hc = some (0, h1) → bz_XK h0 h1 M P f → fn_Checker_checkFunction_36 (n + 0 + 2) 48 (k : Int) hc = some (P 4 (f + 1) - P 4 f, h1) := by
      intro h1 e1 xk
      rw [show n + 0 + 2 = (n + 1) + 1 from rfl, fn_Checker_checkFunction_36]
      unfold fn_Checker_checkFunction_36_b fn_Checker_checkFunction_114
      rw [hk4, bz_ck (by omega), c5, if_pos (by omega), e1, bz_bc, xk.2.2.2.1, bz_ck (by omega), (xk.2.1.2 f f0 f1).2.2.2.2.1]
    have hmS : fn_Md_isValid_60 k2 (n + 0 + 2) 67 f (P 4 (f + 1) - P 4 f) (k : Int) hm = fn_Md_isValid_106 k2 (fn_Md_isValid_60 k2 (n + 1)) 67 f (P 4 (f + 1) - P 4 f) (k : Int) m1 := by
      rw [show n + 0 + 2 = (n + 1) + 1 from rfl, fn_Md_isValid_60]
      unfold fn_Md_isValid_60_b
      rw [if_neg (by omega), bz_m67_20 kk.2.1.1, bz_m83_m1 kk.2.1.1, bz_ck (by omega), bz_ck (by omega), bz_bn, if_neg (by omega), e2, bz_bc]
    rw [hmS]
    rcases e3 with ⟨t', k1, ht', hle⟩ | ⟨iv, -⟩
    · left
      refine ⟨_, h1, m1, hcS h1 e1 k1.1, ?_, k1.1, k1.2.2.1.2.2.2.2.1, k1.2.1⟩
      unfold fn_Md_isValid_106
      rw [k1.2.2.1.2.2.2.2.2, if_pos rfl, bz_bn, bz_w (show -2147483648 ≤ (k : Int) + 1 by omega) (by omega), fn_Md_isValid_60]
      unfold fn_Md_isValid_60_b
      rw [if_pos (by omega), bz_bn, bz_w (by omega) (by omega)]
    · right
      refine ⟨P 4 (f + 1) - P 4 f, h1, m1, hcS h1 e1 iv.1, ?_, iv, by omega, by omega⟩
      rw [bad 0 k m1 _ iv.2.2.2 (by omega)]
      rw [show (k : Int) = P 4 (f + 1) - P 4 f from by omega]
  | succ m ih =>
    intro n k t hc hm hk kk htk
    obtain ⟨n1, n2⟩ := ns k (by omega)
    have hr := x11 (P 4 f + (k : Int)) (by omega) (by omega)
    obtain ⟨h1, m1, e1, e2, e3⟩ := bz_chk hM wf kk f0 f1 (by omega) hr n1 n2
    have hk4 : hc 48 3 = M + 4 + 2 * f := kk.1.2.2.2.1
    obtain ⟨c1, c2, c3, c4, c5, c6, c7⟩ := kk.1.2.1.2 f f0 f1
    obtain ⟨a1, a2, a3, a4, a5, a6⟩ := bz_mod kk.1.1 hM
    obtain ⟨d1, d2⟩ := c7 (P 4 f + (k : Int)) (by omega) (by omega)
    obtain ⟨g1, g2⟩ := (kk.2.1.2.1.2 f f0 f1).2.2.2.2.2.2 (P 4 f + (k : Int)) (by omega) (by omega)
    have hcS : fn_Checker_checkFunction_36 (n + (m + 1) + 2) 48 (k : Int) hc = if h1 48 6 = 0 then fn_Checker_checkFunction_36 (n + m + 2) 48 ((k + 1 : Nat) : Int) h1 else some ((k : Int), h1) := by
      rw [show n + (m + 1) + 2 = (n + m + 2) + 1 from by omega, fn_Checker_checkFunction_36]
      unfold fn_Checker_checkFunction_36_b
      rw [hk4, bz_ck (show M + 4 + 2 * f ≠ 0 by omega), c5, if_neg (by omega), bz_ck (show M + 4 + 2 * f ≠ 0 by omega), c4, bz_w (show -2147483648 ≤ P 4 f + (k : Int) by omega) (by omega), if_neg (by omega), kk.1.2.2.1, a2, a3, a5, a6, bz_ck (show M ≠ 0 by omega), bz_ck (show M + 4 + 2 * f ≠ 0 by omega), bz_ck (show M + 2 ≠ 0 by omega), bz_ck (show 0 ≤ P 4 f + (k : Int) ∧ P 4 f + (k : Int) < 64 by omega), bz_ck (show M ≠ 0 by omega), bz_ck (show M + 4 + 2 * f ≠ 0 by omega), bz_ck (show M + 3 ≠ 0 by omega), bz_ck (show 0 ≤ P 4 f + (k : Int) ∧ P 4 f + (k : Int) < 64 by omega), d1, d2, e1, bz_bc, bz_bn, bz_w (show -2147483648 ≤ (k : Int) + 1 by omega) (by omega)]
      rfl
    have hmS : fn_Md_isValid_60 k2 (n + (m + 1) + 2) 67 f (P 4 (f + 1) - P 4 f) (k : Int) hm = fn_Md_isValid_106 k2 (fn_Md_isValid_60 k2 (n + m + 2)) 67 f (P 4 (f + 1) - P 4 f) (k : Int) m1 := by
      rw [show n + (m + 1) + 2 = (n + m + 2) + 1 from by omega, fn_Md_isValid_60]
      unfold fn_Md_isValid_60_b
      rw [if_neg (by omega), bz_m67_20 kk.2.1.1, bz_m83_m1 kk.2.1.1, bz_ck (by omega), bz_ck (by omega), bz_bn, (kk.2.1.2.1.2 f f0 f1).2.2.2.1, bz_w (show -2147483648 ≤ P 4 f + (k : Int) by omega) (by omega), if_pos (show ¬ (k : Int) = P 4 (f + 1) - P 4 f by omega), bz_m67_21 kk.2.1.1, bz_m67_22 kk.2.1.1, bz_m84_m1 kk.2.1.1, bz_m85_m1 kk.2.1.1, bz_ck (by omega), bz_ck (by omega), bz_ck (by omega), bz_ck (by omega), g1, g2, e2, bz_bc]
    rw [hcS, hmS]
    rcases e3 with ⟨t', k1, ht'⟩ | iv
    · rw [k1.2.2.1.2.2.2.2.1, if_pos rfl]
      unfold fn_Md_isValid_106
      rw [k1.2.2.1.2.2.2.2.2, if_pos rfl, bz_bn, bz_w (show -2147483648 ≤ (k : Int) + 1 by omega) (by omega)]
      exact ih n (k + 1) t' h1 m1 (by omega) k1 (by omega)
    · rw [iv.2.2.1, if_neg (by omega), bad 0 k m1 _ iv.2.2.2 (by omega)]
      exact Or.inr ⟨(k : Int), h1, m1, rfl, rfl, iv, by omega, by omega⟩
end CKI
