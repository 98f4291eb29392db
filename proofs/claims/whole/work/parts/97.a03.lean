section SC
variable {t : Int → Int} {N T : Int} {hc : qz_H}
/-- a whole comment -/
theorem cz_comment (w : cz_tt t N) (a : cz_tc t N T hc) {k : Int} (k0 : 0 ≤ k) (c1 : t k = 40) (c2 : t (k + 1) = 59) :
    (∃ p, k < p ∧ p ≤ N ∧ fn_Scanner_behindComment 34 k hc = some (p, hc) ∧ ∀ hm : qz_H, cz_tm t N hm → fn_Md_comment 67 (qz_up hm 67 32 k) = some (1, qz_up hm 67 32 p)) ∨
    (fn_Scanner_behindComment 34 k hc = some (k, hc) ∧ ∃ p, ∀ hm : qz_H, cz_tm t N hm → fn_Md_comment 67 (qz_up hm 67 32 k) = some (0, qz_up hm 67 32 p)) := by
  have k1 := cz_tz w (k := k + 1) (by omega)
  have wN := w.2.1
  have cs : fn_Scanner_behindComment 34 k hc = fn_Scanner_behindComment_4 3999 34 k 1 (k + 2) hc := by
    unfold fn_Scanner_behindComment
    rw [bz_bn, bz_bn, show qz_NF = 3999 + 1 from rfl]
    show fn_Scanner_behindComment_4_b (fn_Scanner_behindComment_4 3999) 34 k 0 k hc = _
    unfold fn_Scanner_behindComment_4_b fn_Scanner_behindComment_80
    rw [a.2.1, bz_ck (by have := a.2.2.1; omega), a.2.2.2.1, if_neg (by omega), bz_ck (by have := a.2.2.1; omega), cz_tca w a, bz_bc, bz_bn, a.2.1, bz_ck (by have := a.2.2.1; omega), bz_w (by omega) (by omega), cz_tca w a, bz_bc, bz_bn, if_neg (by omega), if_neg (by omega), bz_bn, bz_bn, bz_w (z := 0 + 1) (by omega) (by omega), if_pos (by omega), bz_bn, bz_w (by omega) (by omega), show k + 1 + 1 = k + 2 by omega]; rfl
  have ms : ∀ hm : qz_H, cz_tm t N hm → fn_Md_comment 67 (qz_up hm 67 32 k) = fn_Md_comment_4 3999 67 1 1 (qz_up hm 67 32 (k + 2)) := by
    intro hm b
    have b' : cz_tm t N (qz_up hm 67 32 k) := b.up (by omega)
    have r0 : fn_Md_ch 67 k (qz_up hm 67 32 k) = some (t k, qz_up hm 67 32 k) := cz_tma w b' (by omega)
    have r1 : fn_Md_ch 67 (k + 1) (qz_up hm 67 32 k) = some (t (k + 1), qz_up hm 67 32 k) := cz_tma w b' (by omega)
    unfold fn_Md_comment
    rw [bz_bn, bz_bn, show qz_NF = 3999 + 1 from rfl]
    show fn_Md_comment_4_b (fn_Md_comment_4 3999) 67 0 1 _ = _
    unfold fn_Md_comment_4_b fn_Md_comment_54 fn_Md_comment_87 fn_Md_comment_88 fn_Md_comment_112 fn_Md_comment_127 fn_Md_comment_132 fn_Md_comment_145
    rw [if_neg (by omega), bz_us, bz_ui (by omega), b.2.1, if_pos (by omega), r0, bz_bc, if_neg (by omega), bz_us, bz_w (by omega) (by omega), r1, bz_bc, if_neg (by omega), bz_bn, bz_us, r0, bz_bc, if_pos (by omega), bz_bn, if_neg (by omega), bz_bn, if_pos (by omega), bz_ck (by omega), bz_bn, bz_us, cz_uu, bz_w (z := 0 + 1) (by omega) (by omega), if_neg (by omega), bz_bn, bz_w (by omega) (by omega)]; rfl
  rcases cz_com w a k (N - (k + 2)).toNat 1 (k + 2) (by omega) (by omega) (by omega) with ⟨p, p1, p2, p3, p4⟩ | ⟨p3, p, p4⟩
  · refine Or.inl ⟨p, by omega, p2, ?_, fun hm b => ?_⟩
    · rw [cs, show 3999 = (3998 - (N - (k + 2)).toNat) + (N - (k + 2)).toNat + 1 by omega]; exact p3 _
    · rw [ms hm b, show 3999 = (3997 - (N - (k + 2)).toNat) + (N - (k + 2)).toNat + 2 by omega]; exact p4 _ hm b
  · refine Or.inr ⟨?_, p, fun hm b => ?_⟩
    · rw [cs, show 3999 = (3998 - (N - (k + 2)).toNat) + (N - (k + 2)).toNat + 1 by omega]; exact p3 _
    · rw [ms hm b, show 3999 = (3997 - (N - (k + 2)).toNat) + (N - (k + 2)).toNat + 2 by omega]; exact p4 _ hm b
abbrev cz_X (hm : qz_H) (x e : Int) : qz_H := qz_up (qz_up hm 67 34 x) 67 32 e
theorem cz_gaps (w : cz_tt t N) (a : cz_tc t N T hc) : ∀ (z : Nat) (e l3 : Int), 0 ≤ e → e + z = N → 0 ≤ l3 → l3 ≤ e → ∃ s, e ≤ s ∧ s ≤ N ∧ (∀ n : Nat, fn_Scanner_behindGaps_4 (n + z + 1) 34 e l3 hc = some (s, hc)) ∧
    ((¬ (t s = 40 ∧ t (s + 1) = 59) ∧ ∀ (m : Nat) (x : Int) (hm : qz_H), cz_tm t N hm → ∃ m' : Nat, fn_Md_next_2 (m + z + 2) 67 1 (cz_X hm x e) = fn_Md_next_2 (m' + 1) 67 0 (cz_X hm s s)) ∨
     (t s = 40 ∧ t (s + 1) = 59 ∧ ∃ p, ∀ (m : Nat) (x : Int) (hm : qz_H), cz_tm t N hm → fn_Md_next_2 (m + z + 2) 67 1 (cz_X hm x e) = some (0, qz_up (cz_X hm s p) 67 33 4))) := by
  have wN := w.2.1
  intro z
  induction z using Nat.strongRecOn with
  | ind z ih =>
  intro e l3 e0 eN l0 le
  have at34 := a.2.1
  have hT := a.2.2.1
  -- the class: one gap
  have cg : ∀ (n : Nat) (g : Int), fn_Scanner_behindGap 34 e hc = some (g, hc) → fn_Scanner_behindGaps_4 (n + z + 1) 34 e l3 hc = if g = e then some (e, hc) else fn_Scanner_behindGaps_4 (n + z) 34 g (l3 + 1) hc := by
    intro n g hg
    show fn_Scanner_behindGaps_4_b (fn_Scanner_behindGaps_4 (n + z)) 34 e l3 hc = _
    unfold fn_Scanner_behindGaps_4_b
    rw [if_neg (by omega), hg, bz_bc, bz_bn, bz_bn, bz_bn, bz_w (by omega) (by omega)]
    (repeat' split) <;> first | rfl | omega
  have cg0 : fn_Scanner_behindGap 34 e hc = if t e = 32 ∨ t e = 10 then some (e + 1, hc) else if t e = 59 ∧ t (e + 1) = 59 then fn_Scanner_behindLine 34 e hc else if t e = 40 ∧ t (e + 1) = 59 then fn_Scanner_behindComment 34 e hc else some (e, hc) := by
    unfold fn_Scanner_behindGap
    rw [at34, bz_ck (by omega), cz_tca w a, bz_bc, bz_bn, at34, bz_ck (by omega), bz_w (by omega) (by omega), cz_tca w a, bz_bc]
    unfold fn_Scanner_behindGap_29 fn_Scanner_behindGap_42 fn_Scanner_behindGap_62 fn_Scanner_behindGap_80 fn_Scanner_behindGap_81
    rw [bz_bn, bz_bn, bz_w (by omega) (by omega)]
    have q1 : ∀ x : Option qz_R, (qz_bc x fun r2 h3 => some (r2, h3)) = x := fun x => by cases x <;> rfl
    rw [q1, q1]
    (repeat' split) <;> first | rfl | omega
  -- the model: one turn
  have mg : ∀ (m : Nat) (x : Int) (hm : qz_H), cz_tm t N hm → fn_Md_next_2 (m + z + 2) 67 1 (cz_X hm x e) = if t e = 32 ∨ t e = 10 then fn_Md_next_2 (m + z + 1) 67 1 (cz_X hm e (e + 1)) else if t e = 59 ∧ t (e + 1) = 59 then fn_Md_next_81 (fn_Md_next_2 (m + z + 1)) qz_NF 67 1 (cz_X hm e e) else if t e = 40 ∧ t (e + 1) = 59 then (qz_bc (fn_Md_comment 67 (cz_X hm e e)) fun r5 h6 => if ¬ r5 = 0 then fn_Md_next_2 (m + z + 1) 67 1 h6 else some (0, qz_up h6 67 33 4)) else fn_Md_next_2 (m + z + 1) 67 0 (cz_X hm e e) := by
    intro m x hm b
    have b' : cz_tm t N (cz_X hm e e) := (b.up (by omega)).up (by omega)
    have r0 : fn_Md_ch 67 e (cz_X hm e e) = some (t e, cz_X hm e e) := cz_tma w b' (by omega)
    have r1 : fn_Md_ch 67 (e + 1) (cz_X hm e e) = some (t (e + 1), cz_X hm e e) := cz_tma w b' (by omega)
    have r2 : qz_up (cz_X hm x e) 67 34 e = cz_X hm e e := by
      rw [cz_ux (o := 67) (i := 32) _ (by omega), cz_uu]
    have r3 : cz_X hm e e 67 32 = e := bz_us _ _ _ _
    have r5 : cz_X hm x e 67 32 = e := bz_us _ _ _ _
    have r4 : qz_up (cz_X hm e e) 67 32 (e + 1) = cz_X hm e (e + 1) := cz_uu _ _ _ _ _
    show fn_Md_next_2_b (fn_Md_next_2 (m + z + 1)) 67 1 _ = _
    unfold fn_Md_next_2_b fn_Md_next_40 fn_Md_next_119 fn_Md_next_160
    rw [if_neg (by omega), bz_ck (by omega), bz_bn, r5, r2, r3, r0, bz_bc, r3, r0, bz_bc, r3, r0, bz_bc, r3, bz_w (by omega) (by omega), r1, bz_bc, r3, r0, bz_bc, r3, bz_w (by omega) (by omega), r1, bz_bc, bz_ck (by omega), bz_bn, bz_bn, r4]
    have q3 : (qz_bc (fn_Md_comment 67 (cz_X hm e e)) fun r5 h6 => if ¬ r5 = 0 then fn_Md_next_2 (m + z + 1) 67 1 h6 else qz_ck ((0 : Int) < 67) (qz_bn (qz_up h6 67 33 4) fun h7 => some (0, h7))) = qz_bc (fn_Md_comment 67 (cz_X hm e e)) fun r5 h6 => if ¬ r5 = 0 then fn_Md_next_2 (m + z + 1) 67 1 h6 else some (0, qz_up h6 67 33 4) := by
      congr 1
    rw [q3]
    (repeat' split) <;> first | rfl | omega
  -- on from g
  have on : ∀ g : Int, e < g → g ≤ N → fn_Scanner_behindGap 34 e hc = some (g, hc) → (∀ (m : Nat) (x : Int) (hm : qz_H), cz_tm t N hm → fn_Md_next_2 (m + z + 2) 67 1 (cz_X hm x e) = fn_Md_next_2 (m + z + 1) 67 1 (cz_X hm e g)) → ∃ s, e ≤ s ∧ s ≤ N ∧ (∀ n : Nat, fn_Scanner_behindGaps_4 (n + z + 1) 34 e l3 hc = some (s, hc)) ∧
    ((¬ (t s = 40 ∧ t (s + 1) = 59) ∧ ∀ (m : Nat) (x : Int) (hm : qz_H), cz_tm t N hm → ∃ m' : Nat, fn_Md_next_2 (m + z + 2) 67 1 (cz_X hm x e) = fn_Md_next_2 (m' + 1) 67 0 (cz_X hm s s)) ∨
     (t s = 40 ∧ t (s + 1) = 59 ∧ ∃ p, ∀ (m : Nat) (x : Int) (hm : qz_H), cz_tm t N hm → fn_Md_next_2 (m + z + 2) 67 1 (cz_X hm x e) = some (0, qz_up (cz_X hm s p) 67 33 4))) := by
    intro g g1 g2 h1 h2
    obtain ⟨s, s1, s2, s3, s4⟩ := ih (N - g).toNat (by omega) g (l3 + 1) (by omega) (by omega) (by omega) (by omega)
    have e1 : ∀ n : Nat, n + z = n + (z - (N - g).toNat - 1) + (N - g).toNat + 1 := fun n => by omega
    have e2 : ∀ m : Nat, m + z + 1 = m + (z - (N - g).toNat - 1) + (N - g).toNat + 2 := fun n => by omega
    refine ⟨s, by omega, s2, fun n => ?_, ?_⟩
    · rw [cg n g h1, if_neg (by omega), e1, s3]
    · rcases s4 with ⟨s5, s6⟩ | ⟨s5, s6, p, s7⟩
      · exact Or.inl ⟨s5, fun m x hm b => by rw [h2 m x hm b, e2]; exact s6 _ _ hm b⟩
      · exact Or.inr ⟨s5, s6, p, fun m x hm b => by rw [h2 m x hm b, e2]; exact s7 _ _ hm b⟩
  by_cases c1 : t e = 32 ∨ t e = 10
  · have k1 := cz_tz w (k := e) (by omega)
    exact on (e + 1) (by omega) (by omega) (by rw [cg0, if_pos c1]) fun m x hm b => by rw [mg m x hm b, if_pos c1]
  by_cases c2 : t e = 59 ∧ t (e + 1) = 59
  · have k1 := cz_tz w (k := e) (by omega)
    obtain ⟨p, p1, p2, p3, p4, p5⟩ := cz_line w a (N - e).toNat e e0 (by omega)
    refine on p (p3 (by omega) (by omega)) p2 ?_ fun m x hm b => ?_
    · rw [cg0, if_neg c1, if_pos c2]
      unfold fn_Scanner_behindLine
      rw [bz_bn, show qz_NF = (3999 - (N - e).toNat) + (N - e).toNat + 1 by unfold qz_NF; omega]
      exact p4 _
    · rw [mg m x hm b, if_neg c1, if_pos c2, show qz_NF = (3999 - (N - e).toNat) + (N - e).toNat + 1 by unfold qz_NF; omega]
      exact p5 _ _ _ (qz_up hm 67 34 e) (b.up (by omega))
  by_cases c3 : t e = 40 ∧ t (e + 1) = 59
  · have k1 := cz_tz w (k := e) (by omega)
    rcases cz_comment w a e0 c3.1 c3.2 with ⟨p, p1, p2, p3, p4⟩ | ⟨p3, p, p4⟩
    · refine on p p1 p2 (by rw [cg0, if_neg c1, if_neg c2, if_pos c3, p3]) fun m x hm b => ?_
      rw [mg m x hm b, if_neg c1, if_neg c2, if_pos c3, p4 (qz_up hm 67 34 e) (b.up (by omega)), bz_bc, if_pos (by omega)]
    · refine ⟨e, by omega, by omega, fun n => ?_, Or.inr ⟨c3.1, c3.2, p, fun m x hm b => ?_⟩⟩
      · rw [cg n e (by rw [cg0, if_neg c1, if_neg c2, if_pos c3, p3]), if_pos rfl]
      · rw [mg m x hm b, if_neg c1, if_neg c2, if_pos c3, p4 (qz_up hm 67 34 e) (b.up (by omega)), bz_bc, if_neg (by omega)]
  · refine ⟨e, by omega, by omega, fun n => ?_, Or.inl ⟨c3, fun m x hm b => ⟨m + z, ?_⟩⟩⟩
    · rw [cg n e (by rw [cg0, if_neg c1, if_neg c2, if_neg c3]), if_pos rfl]
    · rw [mg m x hm b, if_neg c1, if_neg c2, if_neg c3]
end SC
