/-! Numbers. -/
theorem cz_xb (z : Int) : -9223372036854775808 ≤ qz_x z ∧ qz_x z ≤ 9223372036854775807 ∧ (qz_x z - z) % 18446744073709551616 = 0 := by
  unfold qz_x
  rw [Int64.toInt_ofInt]
  show -9223372036854775808 ≤ Int.bmod z 18446744073709551616 ∧ Int.bmod z 18446744073709551616 ≤ 9223372036854775807 ∧ (Int.bmod z 18446744073709551616 - z) % 18446744073709551616 = 0
  unfold Int.bmod
  simp only []
  split <;> omega
/-- the long y, without its sign, is v -/
def cz_uv (y v : Int) : Prop := 0 ≤ v ∧ v < 18446744073709551616 ∧ (y - v) % 18446744073709551616 = 0 ∧ -9223372036854775808 ≤ y ∧ y ≤ 9223372036854775807
theorem cz_cu {y v x u : Int} (a : cz_uv y v) (b : cz_uv x u) (h : qz_H) : fn_Long_compareUnsigned y x h = some (if v < u then -1 else if v = u then 0 else 1, h) := by
  obtain ⟨a1, a2, a3, a4, a5⟩ := a
  obtain ⟨b1, b2, b3, b4, b5⟩ := b
  have e1 : qz_x (y + -9223372036854775808) = v - 9223372036854775808 := by
    have := cz_xb (y + -9223372036854775808); omega
  have e2 : qz_x (x + -9223372036854775808) = u - 9223372036854775808 := by
    have := cz_xb (x + -9223372036854775808); omega
  unfold fn_Long_compareUnsigned fn_Long_compare fn_Long_compare_21
  rw [e1, e2]
  unfold qz_cmp
  by_cases c : v < u
  · simp (disch := omega) only [if_pos, if_neg, bz_bc, not_true_eq_false, if_false]
  · by_cases c2 : v = u
    · simp (disch := omega) only [if_pos, if_neg, bz_bc, not_true_eq_false, if_false]
    · simp (disch := omega) only [if_pos, if_neg, bz_bc, not_true_eq_false, if_false]
section SC
variable {t : Int → Int} {N T : Int} {hc hm : qz_H}
theorem cz_dig (w : cz_tt t N) (a : cz_tc t N T hc) (b : cz_tm t N hm) {s f : Int} {L : Nat} (hw : cz_wd t s L) (e1 : hc 34 3 = s + (L : Int)) (e2 : hm 67 34 = s) (e3 : hm 67 35 = (L : Int)) (f1 : s ≤ f) (f2 : f ≤ s + (L : Int)) : ∃ r y z, fn_Scanner_readDigits 34 f hc = some (r, qz_up hc 34 5 y) ∧ fn_Md_digits 67 f hm = some (r, qz_up hm 67 47 z) ∧ (r = 0 ∨ r = 1 ∧ y = z ∧ ∃ v, cz_uv y v) := by
  have hN := cz_wd_N w hw
  have wN := w.2.1
  have s0 := hw.1
  have hT := a.2.2.1
  have lp : ∀ (r n m : Nat) (y v : Int), f ≤ s + (L : Int) - (r : Int) → f < s + (L : Int) → cz_uv y v → ∃ r' y' z', fn_Scanner_readDigits_7 (n + r + 1) 34 f (s + (L : Int) - (r : Int)) (qz_up hc 34 5 y) = some (r', qz_up hc 34 5 y') ∧ fn_Md_digits_26 (m + r + 2) 67 1 (s + (L : Int) - (r : Int)) (qz_up hm 67 47 y) = some (r', qz_up hm 67 47 z') ∧ (r' = 0 ∨ r' = 1 ∧ y' = z' ∧ ∃ v, cz_uv y' v) := by
    intro r
    induction r with
    | zero =>
      intro n m y v hf hf2 hv
      refine ⟨1, y, y, ?_, ?_, Or.inr ⟨rfl, rfl, v, hv⟩⟩
      · show fn_Scanner_readDigits_7_b _ 34 f _ _ = _
        unfold fn_Scanner_readDigits_7_b fn_Scanner_readDigits_100
        rw [bz_ui (by omega), e1, if_pos (by omega), if_neg (by omega), bz_ck (by omega)]
      · show fn_Md_digits_26_b _ 67 1 _ _ = _
        unfold fn_Md_digits_26_b fn_Md_digits_143
        rw [bz_ui (by omega), bz_ui (by omega), e2, e3, bz_w (by omega) (by omega), if_pos (by omega), bz_ck (by omega)]
    | succ r ih =>
      intro n m y v hf hf2 hv
      have ks : 0 ≤ s + (L : Int) - ((r + 1 : Nat) : Int) ∧ s + (L : Int) - ((r + 1 : Nat) : Int) < N := by omega
      have tn := cz_tn w (s + (L : Int) - ((r + 1 : Nat) : Int))
      have ac : cz_tc t N T (qz_up hc 34 5 y) := a.up (by omega)
      have bm : cz_tm t N (qz_up hm 67 47 y) := b.up (by omega)
      have T1 : cz_uv 1844674407370955161 1844674407370955161 := ⟨by omega, by omega, by omega, by omega, by omega⟩
      -- the class's turn
      have cs : fn_Scanner_readDigits_7 (n + (r + 1) + 1) 34 f (s + (L : Int) - ((r + 1 : Nat) : Int)) (qz_up hc 34 5 y) = (if t (s + (L : Int) - ((r + 1 : Nat) : Int)) - 48 < 0 ∨ 9 < t (s + (L : Int) - ((r + 1 : Nat) : Int)) - 48 ∨ 1844674407370955161 < v then some (0, qz_up hc 34 5 y) else qz_bc (fn_Long_compareUnsigned (qz_x (qz_x (y * 10) + (t (s + (L : Int) - ((r + 1 : Nat) : Int)) - 48))) (t (s + (L : Int) - ((r + 1 : Nat) : Int)) - 48) (qz_up hc 34 5 (qz_x (qz_x (y * 10) + (t (s + (L : Int) - ((r + 1 : Nat) : Int)) - 48))))) fun r7 h8 => if 0 ≤ r7 then fn_Scanner_readDigits_7 (n + r + 1) 34 f (s + (L : Int) - (r : Int)) h8 else some (0, h8)) := by
        show fn_Scanner_readDigits_7_b (fn_Scanner_readDigits_7 (n + r + 1)) 34 f _ _ = _
        unfold fn_Scanner_readDigits_7_b fn_Scanner_readDigits_50
        rw [bz_ui (by omega), e1, if_neg (by omega), ac.2.1, bz_ck (by omega), cz_tca w ac, bz_bc, bz_w (by omega) (by omega), bz_bn, bz_us, cz_cu hv T1, bz_bc, bz_ck (by omega), bz_us, bz_bn, cz_uu, bz_us, bz_ck (by omega), bz_w (by omega) (by omega), show s + (L : Int) - ((r + 1 : Nat) : Int) + 1 = s + (L : Int) - (r : Int) by omega]
        by_cases c1 : t (s + (L : Int) - ((r + 1 : Nat) : Int)) - 48 < 0
        · rw [if_pos c1, if_pos (Or.inl c1)]
        rw [if_neg c1]
        by_cases c2 : 9 < t (s + (L : Int) - ((r + 1 : Nat) : Int)) - 48
        · rw [if_pos c2, if_pos (Or.inr (Or.inl c2))]
        rw [if_neg c2]
        by_cases c3 : 1844674407370955161 < v
        · rw [if_neg (show ¬ v < 1844674407370955161 by omega), if_neg (show ¬ v = 1844674407370955161 by omega), if_neg (by omega), if_pos (Or.inr (Or.inr c3))]
        rw [if_pos (show (if v < 1844674407370955161 then (-1 : Int) else if v = 1844674407370955161 then 0 else 1) ≤ 0 by split <;> (try split) <;> omega), if_neg (show ¬ (t (s + (L : Int) - ((r + 1 : Nat) : Int)) - 48 < 0 ∨ 9 < t (s + (L : Int) - ((r + 1 : Nat) : Int)) - 48 ∨ 1844674407370955161 < v) by omega)]
        congr 1
      -- the model's
      have ms : fn_Md_digits_26 (m + (r + 1) + 2) 67 1 (s + (L : Int) - ((r + 1 : Nat) : Int)) (qz_up hm 67 47 y) = fn_Md_digits_26 (m + r + 2) 67 (if 0 ≤ t (s + (L : Int) - ((r + 1 : Nat) : Int)) - 48 ∧ t (s + (L : Int) - ((r + 1 : Nat) : Int)) - 48 ≤ 9 ∧ (v < 1844674407370955161 ∨ v = 1844674407370955161 ∧ t (s + (L : Int) - ((r + 1 : Nat) : Int)) - 48 ≤ 5) then 1 else 0) (s + (L : Int) - (r : Int)) (qz_up hm 67 47 (qz_x (qz_x (y * 10) + (t (s + (L : Int) - ((r + 1 : Nat) : Int)) - 48)))) := by
        show fn_Md_digits_26_b (fn_Md_digits_26 (m + r + 2)) 67 1 _ _ = _
        have u96 : ∀ d q : Int, fn_Md_digits_96 (fn_Md_digits_26 (m + r + 2)) 67 (s + (L : Int) - ((r + 1 : Nat) : Int)) d q (qz_up hm 67 47 y) = fn_Md_digits_26 (m + r + 2) 67 (if 0 ≤ d ∧ d ≤ 9 ∧ q ≠ 0 then 1 else 0) (s + (L : Int) - (r : Int)) (qz_up hm 67 47 (qz_x (qz_x (y * 10) + d))) := by
          intro d q
          unfold fn_Md_digits_96 fn_Md_digits_119 fn_Md_digits_120
          dsimp only [qz_bn]
          rw [bz_us, bz_ck (by omega), bz_ck (by omega), cz_uu, bz_w (by omega) (by omega), show s + (L : Int) - ((r + 1 : Nat) : Int) + 1 = s + (L : Int) - (r : Int) by omega]
          (repeat' split) <;> first | rfl | omega
        have yv : (y < 0 ↔ 9223372036854775808 ≤ v) ∧ (0 ≤ y → y = v) := by
          obtain ⟨v1, v2, v3, v4, v5⟩ := hv
          omega
        have cze : ∀ x y : Int, qz_cmp x y = 0 ↔ x = y := by
          intro x y
          unfold qz_cmp
          split <;> (try split) <;> omega
        unfold fn_Md_digits_26_b fn_Md_digits_74 fn_Md_digits_91 fn_Md_digits_95
        rw [bz_ui (by omega), bz_ui (by omega), e2, e3, bz_w (by omega) (by omega), if_neg (by omega), if_neg (by omega), bz_m67_6 bm.1, bz_ck (by omega), bz_uo (by omega), bz_uo (by omega), bz_m71_m1 b.1, bz_ck (by omega), b.2.2 _ ks.1 ks.2, bz_w (by omega) (by omega), bz_bn, bz_us, u96, u96]
        simp only [bz_cmp_neg, cze]
        have hv1 := hv.1
        by_cases c1 : y < 0
        · rw [if_pos c1, if_pos (show ¬ y = 1844674407370955161 by omega)]
          (repeat' split) <;> first | rfl | omega
        rw [if_neg c1]
        have c2 := yv.2 (by omega)
        (repeat' split) <;> first | rfl | omega
      rw [cs, ms]
      obtain ⟨v1, v2, v3, v4, v5⟩ := hv
      have xx := cz_xb (y * 10)
      have xy := cz_xb (qz_x (y * 10) + (t (s + (L : Int) - ((r + 1 : Nat) : Int)) - 48))
      by_cases c1 : t (s + (L : Int) - ((r + 1 : Nat) : Int)) - 48 < 0 ∨ 9 < t (s + (L : Int) - ((r + 1 : Nat) : Int)) - 48 ∨ 1844674407370955161 < v
      · rw [if_pos c1, if_neg (by omega)]
        refine ⟨0, y, qz_x (qz_x (y * 10) + (t (s + (L : Int) - ((r + 1 : Nat) : Int)) - 48)), rfl, ?_, Or.inl rfl⟩
        show fn_Md_digits_26_b _ 67 0 _ _ = _
        unfold fn_Md_digits_26_b fn_Md_digits_143
        rw [if_pos rfl, bz_ck (by omega)]
        split <;> rfl
      rw [if_neg c1]
      have D1 : cz_uv (t (s + (L : Int) - ((r + 1 : Nat) : Int)) - 48) (t (s + (L : Int) - ((r + 1 : Nat) : Int)) - 48) := ⟨by omega, by omega, by omega, by omega, by omega⟩
      by_cases c2 : v < 1844674407370955161 ∨ v = 1844674407370955161 ∧ t (s + (L : Int) - ((r + 1 : Nat) : Int)) - 48 ≤ 5
      · have V : cz_uv (qz_x (qz_x (y * 10) + (t (s + (L : Int) - ((r + 1 : Nat) : Int)) - 48))) (v * 10 + (t (s + (L : Int) - ((r + 1 : Nat) : Int)) - 48)) := ⟨by omega, by omega, by omega, by omega, by omega⟩
        rw [cz_cu V D1, bz_bc, if_pos (show (0 : Int) ≤ if v * 10 + (t (s + (L : Int) - ((r + 1 : Nat) : Int)) - 48) < t (s + (L : Int) - ((r + 1 : Nat) : Int)) - 48 then -1 else if v * 10 + (t (s + (L : Int) - ((r + 1 : Nat) : Int)) - 48) = t (s + (L : Int) - ((r + 1 : Nat) : Int)) - 48 then 0 else 1 by rw [if_neg (by omega)]; split <;> omega), if_pos (by omega)]
        exact ih n m _ _ (by omega) hf2 V
      · have V : cz_uv (qz_x (qz_x (y * 10) + (t (s + (L : Int) - ((r + 1 : Nat) : Int)) - 48))) (v * 10 + (t (s + (L : Int) - ((r + 1 : Nat) : Int)) - 48) - 18446744073709551616) := ⟨by omega, by omega, by omega, by omega, by omega⟩
        rw [cz_cu V D1, bz_bc, if_pos (show v * 10 + (t (s + (L : Int) - ((r + 1 : Nat) : Int)) - 48) - 18446744073709551616 < t (s + (L : Int) - ((r + 1 : Nat) : Int)) - 48 by omega), if_neg (by omega), if_neg (by omega)]
        refine ⟨0, _, qz_x (qz_x (y * 10) + (t (s + (L : Int) - ((r + 1 : Nat) : Int)) - 48)), rfl, ?_, Or.inl rfl⟩
        show fn_Md_digits_26_b _ 67 0 _ _ = _
        unfold fn_Md_digits_26_b fn_Md_digits_143
        rw [if_pos rfl, bz_ck (by omega)]
        split <;> rfl
  unfold fn_Scanner_readDigits fn_Md_digits fn_Md_digits_23
  rw [bz_ck (by omega), bz_bn, bz_bn, bz_ck (by omega), bz_bn, bz_ui (by omega), bz_ui (by omega), e2, e3, bz_w (by omega) (by omega), bz_bn, bz_bn, bz_bn]
  by_cases c : f < s + (L : Int)
  · have := lp (s + (L : Int) - f).toNat (3999 - (s + (L : Int) - f).toNat) (3998 - (s + (L : Int) - f).toNat) 0 0 (by omega) c ⟨by omega, by omega, by omega, by omega, by omega⟩
    rw [show s + (L : Int) - ((s + (L : Int) - f).toNat : Int) = f by omega, show 3999 - (s + (L : Int) - f).toNat + (s + (L : Int) - f).toNat + 1 = qz_NF by unfold qz_NF; omega, show 3998 - (s + (L : Int) - f).toNat + (s + (L : Int) - f).toNat + 2 = qz_NF by unfold qz_NF; omega] at this
    rw [if_neg (by omega)]
    exact this
  · refine ⟨0, 0, 0, ?_, ?_, Or.inl rfl⟩
    · show fn_Scanner_readDigits_7_b _ 34 f f _ = _
      unfold fn_Scanner_readDigits_7_b fn_Scanner_readDigits_100
      rw [bz_ui (by omega), e1, if_pos (by omega), if_pos (by omega), bz_ck (by omega)]
    · rw [if_pos (by omega)]
      show fn_Md_digits_26_b _ 67 0 f _ = _
      unfold fn_Md_digits_26_b fn_Md_digits_143
      rw [if_pos rfl, bz_ck (by omega)]
      split <;> rfl
end SC
