section SC
variable {t : Int → Int} {N T : Int} {hc hm : qz_H}
theorem cz_next (w : cz_tt t N) (a : cz_tc t N T hc) (b : cz_tm t N hm) {e : Int} (e0 : 0 ≤ e) (eN : e ≤ N) (h3 : hc 34 3 = e) (h32 : hm 67 32 = e) : ∃ hc' hm' k s L, fn_Scanner_next 34 hc = some (0, hc') ∧ fn_Md_next 67 hm = some (0, hm') ∧ cz_fc hc hc' ∧ cz_fm hm hm' ∧ cz_tk t N hc' hm' k s L ∧ e ≤ s ∧ 0 ≤ k ∧ k ≤ 4 := by
  have wN := w.2.1
  have hT := a.2.2.1
  obtain ⟨s, s1, s2, s3, s4⟩ := cz_gaps w a (N - e).toNat e 0 e0 (by omega) (by omega) e0
  have hX : cz_X hm (hm 67 34) e = hm := by
    unfold cz_X
    rw [cz_ue, ← h32, cz_ue]
  have cg : fn_Scanner_behindGaps 34 e hc = some (s, hc) := by
    unfold fn_Scanner_behindGaps
    rw [bz_bn, bz_bn, show qz_NF = (3999 - (N - e).toNat) + (N - e).toNat + 1 by unfold qz_NF; omega]
    exact s3 _
  have en : qz_NF = (3998 - (N - e).toNat) + (N - e).toNat + 2 := by unfold qz_NF; omega
  -- the class so far
  have a2 : cz_tc t N T (qz_up (qz_up hc 34 2 s) 34 3 (s + 1)) := (a.up (by omega)).up (by omega)
  have cn : fn_Scanner_next 34 hc = if s < N then (if t s = 40 then fn_Scanner_next_146 34 (qz_up (qz_up (qz_up hc 34 2 s) 34 3 (s + 1)) 34 1 (if t (s + 1) = 59 then 3 else 0)) else if t s = 41 then fn_Scanner_next_146 34 (qz_up (qz_up (qz_up hc 34 2 s) 34 3 (s + 1)) 34 1 1) else if cz_sg (t s) then qz_bc (fn_Scanner_behindWord 34 s (qz_up (qz_up (qz_up hc 34 2 s) 34 3 (s + 1)) 34 1 2)) (fun r h => fn_Scanner_next_146 34 (qz_up h 34 3 r)) else fn_Scanner_next_146 34 (qz_up (qz_up (qz_up hc 34 2 s) 34 3 (s + 1)) 34 1 3)) else fn_Scanner_next_146 34 (qz_up (qz_up (qz_up hc 34 2 s) 34 1 4) 34 3 s) := by
    unfold fn_Scanner_next fn_Scanner_next_94
    have k2 : (qz_up (qz_up hc 34 2 s) 34 3 (s + 1)) 34 2 = s := by rw [bz_ui (by omega), bz_us]
    have kT : (qz_up (qz_up hc 34 2 s) 34 3 (s + 1)) T 1 = N := a2.2.2.2.1
    rw [h3, cg, bz_bc, bz_ck (by omega), bz_bn, bz_ck (by omega), bz_us, bz_bn, bz_w (by omega) (by omega), a2.2.1, bz_ck (by omega), k2, cz_tca w a2, bz_bc, bz_bn, a2.2.1, bz_ck (by omega), k2, kT]
    by_cases c0 : s < N
    · rw [if_pos c0, if_pos c0]
      by_cases c1 : t s = 40
      · rw [if_neg (by omega), if_pos c1, bz_ck (by omega), bz_w (by omega) (by omega), cz_tca w a2, bz_bc]
        by_cases c2 : t (s + 1) = 59
        · rw [if_neg (by omega), if_pos c2, bz_ck (by omega), bz_bn]
        · rw [if_pos c2, if_neg c2, bz_ck (by omega), bz_bn]
      · rw [if_pos c1, if_neg c1]
        by_cases c2 : t s = 41
        · rw [if_neg (by omega), if_pos c2, bz_ck (by omega), bz_bn]
        · rw [if_pos c2, if_neg c2, cz_isw, bz_bc]
          by_cases c3 : cz_sg (t s)
          · rw [if_pos c3, if_neg (by omega), bz_ck (by omega), bz_bn, if_pos c3]
            rw [show qz_up (qz_up (qz_up hc 34 2 s) 34 3 (s + 1)) 34 1 2 34 2 = s by rw [bz_ui (by omega)]; exact k2]
            congr 1
          · rw [if_neg c3, if_pos rfl, bz_ck (by omega), bz_bn, if_neg c3]
    · rw [if_neg c0, if_neg c0, bz_ck (by omega), bz_bn, bz_ck (by omega), bz_bn, bz_ui (by omega), k2, cz_ux (o := 34) (i := 3) _ (by omega), cz_uu]
  -- frames and ends
  have fin : ∀ (hc1 hm1 : qz_H) (k : Int) (L : Nat), fn_Scanner_next 34 hc = fn_Scanner_next_146 34 hc1 → cz_fc hc hc1 → hc1 34 1 = k → hc1 34 2 = s → fn_Md_next 67 hm = some (0, hm1) → cz_fm hm hm1 → hm1 67 34 = s → hm1 67 33 = (if k = 4 then 0 else k + 1) → 0 ≤ k → k ≤ 4 → ((k = 0 ∨ k = 1) ∧ s < N ∧ hc1 34 3 = s + 1 ∧ hm1 67 32 = s + 1 ∨ k = 2 ∧ cz_wd t s L ∧ hc1 34 3 = s + (L : Int) ∧ hm1 67 32 = s + (L : Int) ∧ hm1 67 35 = (L : Int) ∧ hm1 67 36 = cz_h1 t s L ∧ hm1 67 37 = cz_h2 t s L ∨ (k = 3 ∨ k = 4)) → ∃ hc' hm' k s L, fn_Scanner_next 34 hc = some (0, hc') ∧ fn_Md_next 67 hm = some (0, hm') ∧ cz_fc hc hc' ∧ cz_fm hm hm' ∧ cz_tk t N hc' hm' k s L ∧ e ≤ s ∧ 0 ≤ k ∧ k ≤ 4 := by
    intro hc1 hm1 k L q1 q2 q3 q4 q5 q6 q7 q8 q9 q10 q11
    obtain ⟨x, x1, x2, x3⟩ := cz_n146 (L := L) w (q2.tc a) q4 (by
      by_cases z : k = 2
      · exact Or.inr ⟨by omega, by rcases q11 with y | y | y
                                   · omega
                                   · exact ⟨y.2.2.1, y.2.1⟩
                                   · omega⟩
      · exact Or.inl (by omega))
    refine ⟨_, hm1, k, s, L, by rw [q1, x1], q5, fun o i ho => ?_, q6, ⟨?_, ?_, q7, q8, by omega, s2, ?_⟩, s1, q9, q10⟩
    · rw [show qz_up hc1 34 4 x o i = hc1 o i from if_neg (by omega)]; exact q2 o i ho
    · rw [bz_ui (by omega)]; exact q3
    · rw [bz_ui (by omega)]; exact q4
    · rw [bz_ui (by omega), bz_us]
      rcases q11 with y | y | y
      · exact Or.inl ⟨y.1, y.2.1, y.2.2.1, y.2.2.2, x2 (by omega)⟩
      · exact Or.inr (Or.inl ⟨y.1, y.2.1, y.2.2.1, y.2.2.2.1, y.2.2.2.2.1, y.2.2.2.2.2.1, y.2.2.2.2.2.2, x3 (by omega)⟩)
      · exact Or.inr (Or.inr ⟨y, x2 (by omega)⟩)
  have fC : ∀ v1 v3 : Int, cz_fc hc (qz_up (qz_up (qz_up hc 34 2 s) 34 3 v3) 34 1 v1) := by
    intro v1 v3 o i ho
    rw [show qz_up (qz_up (qz_up hc 34 2 s) 34 3 v3) 34 1 v1 o i = qz_up (qz_up hc 34 2 s) 34 3 v3 o i from if_neg (by omega), show qz_up (qz_up hc 34 2 s) 34 3 v3 o i = qz_up hc 34 2 s o i from if_neg (by omega)]
    exact if_neg (by omega)
  have fX : ∀ x y : Int, cz_fm hm (cz_X hm x y) := by
    intro x y o i ho
    rw [show cz_X hm x y o i = qz_up hm 67 34 x o i from if_neg (by omega)]
    exact if_neg (by omega)
  have fU : ∀ (g : qz_H) (i0 v : Int), 32 ≤ i0 → i0 ≤ 37 → cz_fm hm g → cz_fm hm (qz_up g 67 i0 v) := by
    intro g i0 v i1 i2 f o i ho
    rw [show qz_up g 67 i0 v o i = g o i from if_neg (by omega)]
    exact f o i ho
  have c1 : ∀ v1 v3 : Int, qz_up (qz_up (qz_up hc 34 2 s) 34 3 v3) 34 1 v1 34 1 = v1 := fun v1 v3 => bz_us _ _ _ _
  have c2 : ∀ v1 v3 : Int, qz_up (qz_up (qz_up hc 34 2 s) 34 3 v3) 34 1 v1 34 2 = s := fun v1 v3 => by rw [bz_ui (by omega), bz_ui (by omega), bz_us]
  have c3 : ∀ v1 v3 : Int, qz_up (qz_up (qz_up hc 34 2 s) 34 3 v3) 34 1 v1 34 3 = v3 := fun v1 v3 => by rw [bz_ui (by omega), bz_us]
  have x32 : ∀ x y : Int, cz_X hm x y 67 32 = y := fun x y => bz_us _ _ _ _
  have x34 : ∀ x y : Int, cz_X hm x y 67 34 = x := fun x y => (bz_ui (by omega)).trans (bz_us _ _ _ _)
  rcases s4 with ⟨n1, n2⟩ | ⟨n1, n2, p, n3⟩
  · obtain ⟨m', n3⟩ := n2 (3998 - (N - e).toNat) (hm 67 34) hm b
    rw [hX, ← en] at n3
    have bX : cz_tm t N (cz_X hm s s) := (fX s s).tm b
    have mn : fn_Md_next 67 hm = if s < N then (if t s = 40 then some (0, qz_up (qz_up (cz_X hm s s) 67 33 1) 67 32 (s + 1)) else if t s = 41 then some (0, qz_up (qz_up (cz_X hm s s) 67 33 2) 67 32 (s + 1)) else if cz_sg (t s) then qz_bc (fn_Md_readWord 67 (cz_X hm s s)) (fun _ h => some (0, h)) else some (0, qz_up (cz_X hm s s) 67 33 4)) else some (0, qz_up (cz_X hm s s) 67 33 0) := by
      unfold fn_Md_next
      rw [bz_bn, n3]
      show fn_Md_next_2_b _ 67 0 (cz_X hm s s) = _
      unfold fn_Md_next_2_b fn_Md_next_205 fn_Md_next_217 fn_Md_next_252
      have k1 : cz_X hm s s 67 32 = s := bz_us _ _ _ _
      have k2 : ∀ v : Int, qz_up (cz_X hm s s) 67 33 v 67 32 = s := fun v => by rw [bz_ui (by omega)]; exact k1
      rw [if_pos rfl, k1, cz_tma w bX (by omega), bz_bc, bz_bn, k1, bX.2.1, cz_iss, bz_bc, bz_ck (by omega), bz_bn, bz_ck (by omega), bz_bn, bz_ck (by omega), bz_bn, k2, bz_bn, k2, bz_ck (by omega), bz_bn, bz_w (by omega) (by omega)]
      (repeat' split) <;> first | rfl | omega
    by_cases d0 : s < N
    · rw [if_pos d0] at cn mn
      by_cases d1 : t s = 40
      · rw [if_pos d1] at cn mn
        rw [if_neg (fun z => n1 ⟨d1, z⟩)] at cn
        exact fin _ _ 0 0 cn (fC _ _) (c1 _ _) (c2 _ _) mn (fU _ _ _ (by omega) (by omega) (fU _ _ _ (by omega) (by omega) (fX _ _))) (by rw [bz_ui (by omega), bz_ui (by omega), x34]) (by rw [bz_ui (by omega), bz_us, if_neg (by omega)]; rfl) (by omega) (by omega) (Or.inl ⟨Or.inl rfl, d0, c3 _ _, bz_us _ _ _ _⟩)
      rw [if_neg d1] at cn mn
      by_cases d2 : t s = 41
      · rw [if_pos d2] at cn mn
        exact fin _ _ 1 0 cn (fC _ _) (c1 _ _) (c2 _ _) mn (fU _ _ _ (by omega) (by omega) (fU _ _ _ (by omega) (by omega) (fX _ _))) (by rw [bz_ui (by omega), bz_ui (by omega), x34]) (by rw [bz_ui (by omega), bz_us, if_neg (by omega)]; rfl) (by omega) (by omega) (Or.inl ⟨Or.inr rfl, d0, c3 _ _, bz_us _ _ _ _⟩)
      rw [if_neg d2] at cn mn
      by_cases d3 : cz_sg (t s)
      · rw [if_pos d3] at cn mn
        obtain ⟨L, hw⟩ := cz_word w (by omega) s2 d3
        have hN := cz_wd_N w hw
        have aW : cz_tc t N T (qz_up (qz_up (qz_up hc 34 2 s) 34 3 (s + 1)) 34 1 2) := (fC _ _).tc a
        have eW : fn_Scanner_behindWord 34 s (qz_up (qz_up (qz_up hc 34 2 s) 34 3 (s + 1)) 34 1 2) = some (s + (L : Int), qz_up (qz_up (qz_up hc 34 2 s) 34 3 (s + 1)) 34 1 2) := by
          unfold fn_Scanner_behindWord
          rw [bz_bn]
          have := cz_wordC w aW hw L (3999 - L) (by omega)
          rw [show s + (L : Int) - (L : Int) = s by omega, show 3999 - L + L + 1 = qz_NF by unfold qz_NF; omega] at this
          exact this
        rw [eW, bz_bc, cz_ux (o := 34) (i := 1) _ (by omega), cz_uu] at cn
        have bW : cz_tm t N (qz_up (qz_up (qz_up (cz_X hm s s) 67 33 3) 67 36 0) 67 37 0) := ((bX.up (by omega)).up (by omega)).up (by omega)
        obtain ⟨g', g1, g2, g3, g4, g5, g6⟩ := cz_wordM w hw L (3999 - L) (qz_up (qz_up (qz_up (cz_X hm s s) 67 33 3) 67 36 0) 67 37 0) (by omega) bW (by rw [bz_ui (by omega), bz_ui (by omega), bz_ui (by omega), x32]; omega) (by rw [bz_ui (by omega), bz_ui (by omega), bz_ui (by omega), x34]) (by rw [bz_ui (by omega), bz_us, show L - L = 0 by omega]; rfl) (by rw [bz_us, show L - L = 0 by omega]; rfl)
        rw [show 3999 - L + L + 1 = qz_NF by unfold qz_NF; omega] at g1
        have mW : fn_Md_readWord 67 (cz_X hm s s) = some (0, g') := by
          unfold fn_Md_readWord
          rw [bz_ck (by omega), bz_bn, bz_ck (by omega), bz_bn, bz_ck (by omega), bz_bn]
          exact g1
        rw [mW, bz_bc] at mn
        refine fin _ _ 2 L cn (fC _ _) (c1 _ _) (c2 _ _) mn (fun o i ho => ?_) ?_ ?_ (by omega) (by omega) (Or.inr (Or.inl ⟨rfl, hw, c3 _ _, g3, g4, g5, g6⟩))
        · rw [g2 o i (by omega)]
          exact fU _ _ _ (by omega) (by omega) (fU _ _ _ (by omega) (by omega) (fU _ _ _ (by omega) (by omega) (fX _ _))) o i ho
        · rw [g2 67 34 (by omega), bz_ui (by omega), bz_ui (by omega), bz_ui (by omega), x34]
        · rw [g2 67 33 (by omega), bz_ui (by omega), bz_ui (by omega), bz_us, if_neg (by omega)]; rfl
      · rw [if_neg d3] at cn mn
        exact fin _ _ 3 0 cn (fC _ _) (c1 _ _) (c2 _ _) mn (fU _ _ _ (by omega) (by omega) (fX _ _)) (by rw [bz_ui (by omega), x34]) (by rw [bz_us, if_neg (by omega)]; rfl) (by omega) (by omega) (Or.inr (Or.inr (Or.inl rfl)))
    · rw [if_neg d0] at cn mn
      rw [cz_ux (o := 34) (i := 1) _ (by omega)] at cn
      exact fin _ _ 4 0 cn (fC _ _) (c1 _ _) (c2 _ _) mn (fU _ _ _ (by omega) (by omega) (fX _ _)) (by rw [bz_ui (by omega), x34]) (by rw [bz_us, if_pos (by omega)]) (by omega) (by omega) (Or.inr (Or.inr (Or.inr rfl)))
  · have k1 := cz_tz w (k := s) (by omega)
    rw [if_pos k1.2, if_pos n1, if_pos n2] at cn
    have n4 := n3 (3998 - (N - e).toNat) (hm 67 34) hm b
    rw [hX, ← en] at n4
    have mn : fn_Md_next 67 hm = some (0, qz_up (cz_X hm s p) 67 33 4) := by
      unfold fn_Md_next
      rw [bz_bn]
      exact n4
    exact fin _ _ 3 0 cn (fC _ _) (c1 _ _) (c2 _ _) mn (fU _ _ _ (by omega) (by omega) (fX _ _)) (by rw [bz_ui (by omega), x34]) (by rw [bz_us, if_neg (by omega)]; rfl) (by omega) (by omega) (Or.inr (Or.inr (Or.inl rfl)))
end SC
