section SC
variable {t : Int → Int} {N T : Int} {hc : qz_H}
/-- a word at p, of l characters -/
def cz_wd (t : Int → Int) (p : Int) (l : Nat) : Prop := 0 ≤ p ∧ 1 ≤ l ∧ (∀ i : Nat, i < l → cz_sg (t (p + (i : Int)))) ∧ ¬ cz_sg (t (p + (l : Int)))
theorem cz_wd_N (w : cz_tt t N) {p : Int} {l : Nat} (h : cz_wd t p l) : p + (l : Int) ≤ N := by
  obtain ⟨h1, h2, h3, h4⟩ := h
  have := cz_tsg w (h3 (l - 1) (by omega))
  omega
theorem cz_run (w : cz_tt t N) : ∀ (z : Nat) (k : Int), 0 ≤ k → k + z = N → ∃ L : Nat, (∀ i : Nat, i < L → cz_sg (t (k + (i : Int)))) ∧ ¬ cz_sg (t (k + (L : Int)))
  | 0, k, k0, kN => ⟨0, fun i h => by omega, fun h => by
      have := cz_tsg w h
      omega⟩
  | z + 1, k, k0, kN => by
    by_cases c : cz_sg (t k)
    · obtain ⟨L, h1, h2⟩ := cz_run w z (k + 1) (by omega) (by omega)
      refine ⟨L + 1, fun i hi => ?_, ?_⟩
      · match i with
        | 0 => rw [show k + ((0 : Nat) : Int) = k by omega]; exact c
        | j + 1 => rw [show k + ((j + 1 : Nat) : Int) = k + 1 + (j : Int) by omega]; exact h1 j (by omega)
      · rw [show k + ((L + 1 : Nat) : Int) = k + 1 + (L : Int) by omega]; exact h2
    · exact ⟨0, fun i h => by omega, by rw [show k + ((0 : Nat) : Int) = k by omega]; exact c⟩
theorem cz_word (w : cz_tt t N) {s : Int} (s0 : 0 ≤ s) (sN : s ≤ N) (c : cz_sg (t s)) : ∃ L : Nat, cz_wd t s L := by
  obtain ⟨L, h1, h2⟩ := cz_run w (N - s).toNat s s0 (by omega)
  refine ⟨L, s0, ?_, h1, h2⟩
  match L with
  | 0 => rw [show s + ((0 : Nat) : Int) = s by omega] at h2; exact absurd c h2
  | L + 1 => omega
theorem cz_wordC (w : cz_tt t N) (a : cz_tc t N T hc) {s : Int} {L : Nat} (h : cz_wd t s L) : ∀ (r n : Nat), r ≤ L → fn_Scanner_behindWord_2 (n + r + 1) 34 (s + (L : Int) - (r : Int)) hc = some (s + (L : Int), hc) := by
  have hN := cz_wd_N w h
  have wN := w.2.1
  have at34 := a.2.1
  have hT := a.2.2.1
  obtain ⟨h1, h2, h3, h4⟩ := h
  intro r
  induction r with
  | zero =>
    intro n _
    show fn_Scanner_behindWord_2_b _ 34 _ hc = _
    unfold fn_Scanner_behindWord_2_b fn_Scanner_behindWord_33
    rw [at34, bz_ck (by omega), a.2.2.2.1, show s + (L : Int) - ((0 : Nat) : Int) = s + (L : Int) by omega, bz_ck (by omega), cz_tca w a, bz_bc, cz_isw, bz_bc, if_neg h4, if_pos rfl]
    split <;> rfl
  | succ r ih =>
    intro n hr
    have q := h3 (L - (r + 1)) (by omega)
    rw [show s + ((L - (r + 1) : Nat) : Int) = s + (L : Int) - ((r + 1 : Nat) : Int) by omega] at q
    have q' := cz_tsg w q
    show fn_Scanner_behindWord_2_b (fn_Scanner_behindWord_2 (n + r + 1)) 34 _ hc = _
    unfold fn_Scanner_behindWord_2_b
    rw [at34, bz_ck (by omega), a.2.2.2.1, if_neg (by omega), bz_ck (by omega), cz_tca w a, bz_bc, cz_isw, bz_bc, if_pos q, if_neg (by omega), bz_bn, bz_w (by omega) (by omega), show s + (L : Int) - ((r + 1 : Nat) : Int) + 1 = s + (L : Int) - (r : Int) by omega]
    exact ih n (by omega)
def cz_h1 (t : Int → Int) (s : Int) (L : Nat) : Int := cz_pl ((cz_W t s L).take 8)
def cz_h2 (t : Int → Int) (s : Int) (L : Nat) : Int := cz_pl (((cz_W t s L).drop 8).take 8)
theorem cz_h1s (w : cz_tt t N) (s : Int) (j : Nat) : cz_h1 t s (j + 1) = if j < 8 then qz_orJ (qz_shlJ (cz_h1 t s j) 8) (t (s + (j : Int))) else cz_h1 t s j := by
  unfold cz_h1
  have hl := cz_W_len t s j
  have tn := cz_tn w
  rw [cz_W_succ]
  by_cases c : j < 8
  · rw [if_pos c, List.take_of_length_le (by rw [List.length_append, hl]; exact c), List.take_of_length_le (by omega), cz_pl_app]
    have bd := cz_pl_bd j t s tn
    have e : (256 : Int) ^ j ≤ 256 ^ 7 := by
      have : j = 0 ∨ j = 1 ∨ j = 2 ∨ j = 3 ∨ j = 4 ∨ j = 5 ∨ j = 6 ∨ j = 7 := by omega
      rcases this with rfl | rfl | rfl | rfl | rfl | rfl | rfl | rfl <;> decide
    have e7 : (256 : Int) ^ 7 = 72057594037927936 := by decide
    have := tn (s + (j : Int))
    rw [cz_or8 bd.1 (by omega) (by omega) (by omega)]
  · rw [if_neg c, List.take_append_of_le_length (by omega)]
theorem cz_h2s (w : cz_tt t N) (s : Int) (j : Nat) : cz_h2 t s (j + 1) = if 8 ≤ j ∧ j < 16 then qz_orJ (qz_shlJ (cz_h2 t s j) 8) (t (s + (j : Int))) else cz_h2 t s j := by
  unfold cz_h2
  have hl := cz_W_len t s j
  have tn := cz_tn w
  rw [cz_W_succ]
  by_cases c : 8 ≤ j
  · rw [List.drop_append_of_le_length (by omega)]
    have hd : ((cz_W t s j).drop 8).length = j - 8 := by rw [List.length_drop, hl]
    by_cases c2 : j < 16
    · rw [if_pos ⟨c, c2⟩, List.take_of_length_le (by rw [List.length_append, hd]; simp; omega), List.take_of_length_le (by omega), cz_pl_app]
      have ew : (cz_W t s j).drop 8 = cz_W t (s + 8) (j - 8) := by
        apply List.ext_getElem (by rw [hd, cz_W_len])
        intro i i1 i2
        simp only [cz_W, List.getElem_drop, List.getElem_map, List.getElem_range]
        congr 1
        omega
      rw [ew]
      have bd := cz_pl_bd (j - 8) t (s + 8) tn
      have e : (256 : Int) ^ (j - 8) ≤ 256 ^ 7 := by
        have : j - 8 = 0 ∨ j - 8 = 1 ∨ j - 8 = 2 ∨ j - 8 = 3 ∨ j - 8 = 4 ∨ j - 8 = 5 ∨ j - 8 = 6 ∨ j - 8 = 7 := by omega
        rcases this with e | e | e | e | e | e | e | e <;> rw [e] <;> decide
      have e7 : (256 : Int) ^ 7 = 72057594037927936 := by decide
      have := tn (s + (j : Int))
      rw [cz_or8 bd.1 (by omega) (by omega) (by omega)]
    · rw [if_neg (by omega), List.take_append_of_le_length (by omega)]
  · rw [if_neg (by omega), List.drop_eq_nil_of_le (by rw [List.length_append, hl]; simp; omega), List.drop_eq_nil_of_le (by omega)]
theorem cz_wordM (w : cz_tt t N) {s : Int} {L : Nat} (h : cz_wd t s L) : ∀ (r n : Nat) (g : qz_H), r ≤ L → cz_tm t N g → g 67 32 = s + (L : Int) - (r : Int) → g 67 34 = s → g 67 36 = cz_h1 t s (L - r) → g 67 37 = cz_h2 t s (L - r) → ∃ g', fn_Md_readWord_15 (n + r + 1) 67 g = some (0, g') ∧ (∀ o i : Int, ¬ (o = 67 ∧ (i = 32 ∨ i = 35 ∨ i = 36 ∨ i = 37)) → g' o i = g o i) ∧ g' 67 32 = s + (L : Int) ∧ g' 67 35 = (L : Int) ∧ g' 67 36 = cz_h1 t s L ∧ g' 67 37 = cz_h2 t s L := by
  have hN := cz_wd_N w h
  have wN := w.2.1
  obtain ⟨h1, h2, h3, h4⟩ := h
  intro r
  induction r with
  | zero =>
    intro n g _ b b1 b2 b3 b4
    refine ⟨qz_up g 67 35 (L : Int), ?_, fun o i hh => if_neg (by omega), ?_, ?_, ?_, ?_⟩
    · show fn_Md_readWord_15_b _ 67 g = _
      unfold fn_Md_readWord_15_b
      rw [b1, show s + (L : Int) - ((0 : Nat) : Int) = s + (L : Int) by omega, cz_tma w b (by omega), bz_bc, cz_iss, bz_bc, if_neg h4, if_pos rfl, bz_ck (by omega), bz_bn, b1, b2, bz_w (by omega) (by omega), show s + (L : Int) - ((0 : Nat) : Int) - s = (L : Int) by omega]
    · rw [bz_ui (by omega), b1]; omega
    · rw [bz_us]
    · rw [bz_ui (by omega), b3]; rfl
    · rw [bz_ui (by omega), b4]; rfl
  | succ r ih =>
    intro n g hr b b1 b2 b3 b4
    have q := h3 (L - (r + 1)) (by omega)
    rw [show s + ((L - (r + 1) : Nat) : Int) = s + (L : Int) - ((r + 1 : Nat) : Int) by omega] at q
    have q' := cz_tsg w q
    have e1 := cz_h1s w s (L - (r + 1))
    have e2 := cz_h2s w s (L - (r + 1))
    rw [show L - (r + 1) + 1 = L - r by omega, show s + ((L - (r + 1) : Nat) : Int) = s + (L : Int) - ((r + 1 : Nat) : Int) by omega, ← b3] at e1
    rw [show L - (r + 1) + 1 = L - r by omega, show s + ((L - (r + 1) : Nat) : Int) = s + (L : Int) - ((r + 1 : Nat) : Int) by omega, ← b4] at e2
    have ch : ∀ g1 : qz_H, cz_tm t N g1 → fn_Md_ch 67 (s + (L : Int) - ((r + 1 : Nat) : Int)) g1 = some (t (s + (L : Int) - ((r + 1 : Nat) : Int)), g1) := fun g1 b => cz_tma w b (by omega)
    have st : fn_Md_readWord_15 (n + (r + 1) + 1) 67 g = fn_Md_readWord_15 (n + r + 1) 67 (qz_up (qz_up (qz_up g 67 36 (cz_h1 t s (L - r))) 67 37 (cz_h2 t s (L - r))) 67 32 (s + (L : Int) - (r : Int))) := by
      show fn_Md_readWord_15_b (fn_Md_readWord_15 (n + r + 1)) 67 g = _
      unfold fn_Md_readWord_15_b
      rw [b1, ch g b, bz_bc, cz_iss, bz_bc, if_pos q, if_neg (by omega), b1, b2, bz_w (by omega) (by omega), bz_bn, ch g b, bz_bc]
      unfold fn_Md_readWord_70 fn_Md_readWord_106 fn_Md_readWord_110
      rw [e1, e2]
      have k1 : ∀ x : Int, qz_up g 67 36 x 67 32 = s + (L : Int) - ((r + 1 : Nat) : Int) := fun x => by rw [bz_ui (by omega), b1]
      have k2 : ∀ x : Int, qz_up g 67 36 x 67 37 = g 67 37 := fun x => bz_ui (by omega)
      have k3 : ∀ x y : Int, qz_up (qz_up g 67 36 x) 67 37 y 67 32 = s + (L : Int) - ((r + 1 : Nat) : Int) := fun x y => by rw [bz_ui (by omega), bz_ui (by omega), b1]
      have k4 : ∀ x : Int, fn_Md_ch 67 (s + (L : Int) - ((r + 1 : Nat) : Int)) (qz_up g 67 36 x) = some (t (s + (L : Int) - ((r + 1 : Nat) : Int)), qz_up g 67 36 x) := fun x => ch _ (b.up (by omega))
      have k5 : qz_w (s + (L : Int) - ((r + 1 : Nat) : Int) + 1) = s + (L : Int) - (r : Int) := by rw [bz_w (by omega) (by omega)]; omega
      by_cases c1 : L - (r + 1) < 8
      · rw [if_neg (by omega), bz_ck (by omega), bz_bn, if_pos (by omega), bz_ck (by omega), bz_bn, bz_ck (by omega), bz_bn, k3, k5, k2, if_pos c1, if_neg (by omega)]
      · rw [if_pos (by omega), bz_ck (by omega), bz_bn, if_neg (by omega), if_neg c1]
        by_cases c2 : L - (r + 1) < 16
        · rw [if_neg (by omega), if_pos (by omega), k1, k4, bz_bc, bz_ck (by omega), bz_bn, bz_ck (by omega), bz_bn, k3, k5, k2]
        · rw [if_pos (by omega), if_neg (by omega), bz_ck (by omega), bz_bn, bz_ck (by omega), bz_bn, k3, k5, k2]
    obtain ⟨g', i1, i2, i3⟩ := ih n (qz_up (qz_up (qz_up g 67 36 (cz_h1 t s (L - r))) 67 37 (cz_h2 t s (L - r))) 67 32 (s + (L : Int) - (r : Int))) (by omega) (((b.up (by omega)).up (by omega)).up (by omega)) (bz_us _ _ _ _) (by rw [bz_ui (by omega), bz_ui (by omega), bz_ui (by omega), b2]) (by rw [bz_ui (by omega), bz_ui (by omega), bz_us]) (by rw [bz_ui (by omega), bz_us])
    refine ⟨g', by rw [st, i1], fun o i hh => ?_, i3⟩
    rw [i2 o i hh]
    rw [show qz_up (qz_up (qz_up g 67 36 (cz_h1 t s (L - r))) 67 37 (cz_h2 t s (L - r))) 67 32 (s + (L : Int) - (r : Int)) o i = qz_up (qz_up g 67 36 (cz_h1 t s (L - r))) 67 37 (cz_h2 t s (L - r)) o i from if_neg (by omega), show qz_up (qz_up g 67 36 (cz_h1 t s (L - r))) 67 37 (cz_h2 t s (L - r)) o i = qz_up g 67 36 (cz_h1 t s (L - r)) o i from if_neg (by omega)]
    exact if_neg (by omega)
end SC
