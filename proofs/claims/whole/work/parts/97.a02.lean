/-! Gaps: what both skip. -/
section SC
variable {t : Int → Int} {N T : Int} {hc : qz_H}
theorem cz_line (w : cz_tt t N) (a : cz_tc t N T hc) : ∀ (z : Nat) (k : Int), 0 ≤ k → k + z = N → ∃ p, k ≤ p ∧ p ≤ N ∧ (t k ≠ 10 → k < N → k < p) ∧ (∀ n : Nat, fn_Scanner_behindLine_2 (n + z + 1) 34 k hc = some (p, hc)) ∧ ∀ (k2 : Int → Int → qz_H → Option qz_R) (m : Nat) (l1 : Int) (hm : qz_H), cz_tm t N hm → fn_Md_next_81 k2 (m + z + 1) 67 l1 (qz_up hm 67 32 k) = k2 67 l1 (qz_up hm 67 32 p) := by
  have a0 := a
  obtain ⟨hL, a1, hT, a3, a4⟩ := a
  intro z
  induction z with
  | zero =>
    intro k k0 kN
    refine ⟨k, by omega, by omega, fun _ h => by omega, fun n => ?_, fun k2 m l1 hm b => ?_⟩
    · show fn_Scanner_behindLine_2_b _ 34 k hc = _
      unfold fn_Scanner_behindLine_2_b
      rw [a1, bz_ck (by omega), a3, if_pos (by omega)]; rfl
    · show fn_Md_next_81_b _ _ 67 l1 _ = _
      unfold fn_Md_next_81_b
      rw [bz_ui (by omega), b.2.1, bz_us, if_pos (by omega)]
  | succ z ih =>
    intro k k0 kN
    by_cases c : t k = 10
    · refine ⟨k, by omega, by omega, fun h => absurd c h, fun n => ?_, fun k2 m l1 hm b => ?_⟩
      · show fn_Scanner_behindLine_2_b _ 34 k hc = _
        unfold fn_Scanner_behindLine_2_b
        rw [a1, bz_ck (by omega), a3, if_neg (by omega), bz_ck (by omega), cz_tca w a0, bz_bc, if_pos c]; rfl
      · show fn_Md_next_81_b _ _ 67 l1 _ = _
        unfold fn_Md_next_81_b
        rw [bz_ui (by omega), b.2.1, bz_us, if_neg (by omega), bz_ui (by omega), bz_m67_6 b.1, bz_uo (by omega), bz_uo (by omega), bz_m71_m1 b.1, bz_ck (by omega), bz_ck (by have := w.2.1; omega), b.2.2 k k0 (by omega), if_pos c]
    · obtain ⟨p, p1, p2, p3, p4, p5⟩ := ih (k + 1) (by omega) (by omega)
      have wN := w.2.1
      refine ⟨p, by omega, by omega, fun _ _ => by omega, fun n => ?_, fun k2 m l1 hm b => ?_⟩
      · show fn_Scanner_behindLine_2_b (fn_Scanner_behindLine_2 (n + z + 1)) 34 k hc = _
        unfold fn_Scanner_behindLine_2_b
        rw [a1, bz_ck (by omega), a3, if_neg (by omega), bz_ck (by omega), cz_tca w a0, bz_bc, if_neg c, bz_bn, bz_w (by omega) (by omega)]
        exact p4 n
      · show fn_Md_next_81_b _ (fn_Md_next_81 k2 (m + z + 1)) 67 l1 _ = _
        unfold fn_Md_next_81_b
        rw [bz_ui (by omega), b.2.1, bz_us, if_neg (by omega), bz_ui (by omega), bz_m67_6 b.1, bz_uo (by omega), bz_uo (by omega), bz_m71_m1 b.1, bz_ck (by omega), bz_ck (by omega), b.2.2 k k0 (by omega), if_neg c, bz_ck (by omega), bz_bn, cz_uu, bz_w (by omega) (by omega)]
        exact p5 k2 m l1 hm b
theorem cz_com (w : cz_tt t N) (a : cz_tc t N T hc) (fr : Int) : ∀ (z : Nat) (o k : Int), 1 ≤ o → o ≤ k → k + z = N →
    (∃ p, k < p ∧ p ≤ N ∧ (∀ n : Nat, fn_Scanner_behindComment_4 (n + z + 1) 34 fr o k hc = some (p, hc)) ∧ ∀ (m : Nat) (hm : qz_H), cz_tm t N hm → fn_Md_comment_4 (m + z + 2) 67 o 1 (qz_up hm 67 32 k) = some (1, qz_up hm 67 32 p)) ∨
    ((∀ n : Nat, fn_Scanner_behindComment_4 (n + z + 1) 34 fr o k hc = some (fr, hc)) ∧ ∃ p, ∀ (m : Nat) (hm : qz_H), cz_tm t N hm → fn_Md_comment_4 (m + z + 2) 67 o 1 (qz_up hm 67 32 k) = some (0, qz_up hm 67 32 p)) := by
  have a0 := a
  obtain ⟨hL, a1, hT, a3, a4⟩ := a
  have wN := w.2.1
  intro z
  induction z using Nat.strongRecOn with
  | ind z ih =>
  intro o k o1 ok kN
  by_cases e : k = N
  · obtain rfl : z = 0 := by omega
    refine Or.inr ⟨fun n => ?_, k, fun m hm b => ?_⟩
    · show fn_Scanner_behindComment_4_b _ 34 fr o k hc = _
      unfold fn_Scanner_behindComment_4_b
      rw [a1, bz_ck (by omega), a3, if_pos (by omega)]
    · show fn_Md_comment_4_b _ 67 o 1 _ = _
      unfold fn_Md_comment_4_b
      rw [if_neg (by omega), bz_us, bz_ui (by omega), b.2.1, if_neg (by omega), bz_ck (by omega)]
  have cc : ∀ n : Nat, fn_Scanner_behindComment_4 (n + z + 1) 34 fr o k hc = if t k = 40 ∧ t (k + 1) = 59 then fn_Scanner_behindComment_80 (fn_Scanner_behindComment_4 (n + z)) 34 fr (o + 1) (k + 1) hc else if t k = 59 ∧ t (k + 1) = 41 then fn_Scanner_behindComment_80 (fn_Scanner_behindComment_4 (n + z)) 34 fr (o - 1) (k + 1) hc else fn_Scanner_behindComment_80 (fn_Scanner_behindComment_4 (n + z)) 34 fr o k hc := by
    intro n
    show fn_Scanner_behindComment_4_b (fn_Scanner_behindComment_4 (n + z)) 34 fr o k hc = _
    unfold fn_Scanner_behindComment_4_b fn_Scanner_behindComment_60
    rw [a1, bz_ck (by omega), a3, if_neg (by omega), bz_ck (by omega), cz_tca w a0, bz_bc, bz_bn, a1, bz_ck (by omega), bz_w (by omega) (by omega), cz_tca w a0, bz_bc, bz_bn, bz_bn, bz_bn, bz_bn, bz_bn, bz_w (z := o + 1) (by omega) (by omega), bz_w (z := o + -1) (by omega) (by omega)]
    (repeat' split) <;> first | rfl | omega
  have mm : ∀ (m : Nat) (hm : qz_H), cz_tm t N hm → fn_Md_comment_4 (m + z + 2) 67 o 1 (qz_up hm 67 32 k) = if t k = 40 ∧ t (k + 1) = 59 then fn_Md_comment_132 (fn_Md_comment_4 (m + z + 1)) 67 (o + 1) 67 k 2 (qz_up hm 67 32 k) else if t k = 59 ∧ t (k + 1) = 41 then fn_Md_comment_132 (fn_Md_comment_4 (m + z + 1)) 67 (o - 1) 67 k 2 (qz_up hm 67 32 k) else fn_Md_comment_132 (fn_Md_comment_4 (m + z + 1)) 67 o 67 k 1 (qz_up hm 67 32 k) := by
    intro m hm b
    have b' : cz_tm t N (qz_up hm 67 32 k) := b.up (by omega)
    have r0 : fn_Md_ch 67 k (qz_up hm 67 32 k) = some (t k, qz_up hm 67 32 k) := cz_tma w b' (by omega)
    have r1 : fn_Md_ch 67 (k + 1) (qz_up hm 67 32 k) = some (t (k + 1), qz_up hm 67 32 k) := cz_tma w b' (by omega)
    have r8 : ∀ l3 : Int, fn_Md_comment_54 (fn_Md_comment_4 (m + z + 1)) 67 o l3 (qz_up hm 67 32 k) = fn_Md_comment_88 (fn_Md_comment_4 (m + z + 1)) 67 o l3 (if t k = 59 ∧ t (k + 1) = 41 then 1 else 0) (qz_up hm 67 32 k) := by
      intro l3
      unfold fn_Md_comment_54 fn_Md_comment_87
      rw [bz_bn, bz_us, r0, bz_bc, bz_us, bz_w (by omega) (by omega), r1, bz_bc]
      (repeat' split) <;> first | rfl | omega
    show fn_Md_comment_4_b (fn_Md_comment_4 (m + z + 1)) 67 o 1 _ = _
    unfold fn_Md_comment_4_b fn_Md_comment_53
    rw [if_neg (by omega), bz_us, bz_ui (by omega), b.2.1, if_pos (by omega), r0, bz_bc, bz_us, bz_w (by omega) (by omega), r1, bz_bc, r8, r8]
    unfold fn_Md_comment_88 fn_Md_comment_112 fn_Md_comment_127
    rw [bz_bn, bz_bn, bz_bn, bz_bn, bz_bn, bz_bn, bz_us, bz_w (z := o + 1) (by omega) (by omega), bz_w (z := o - 1) (by omega) (by omega)]
    (repeat' split) <;> first | rfl | omega
  -- one step on, o' and k'
  have go : ∀ (o' g : Int), 0 ≤ o' → o' ≤ k + g → (g = 1 ∨ g = 2) → k + g ≤ N → (∀ n : Nat, fn_Scanner_behindComment_4 (n + z + 1) 34 fr o k hc = fn_Scanner_behindComment_80 (fn_Scanner_behindComment_4 (n + z)) 34 fr o' (k + g - 1) hc) → (∀ (m : Nat) (hm : qz_H), cz_tm t N hm → fn_Md_comment_4 (m + z + 2) 67 o 1 (qz_up hm 67 32 k) = fn_Md_comment_132 (fn_Md_comment_4 (m + z + 1)) 67 o' 67 k g (qz_up hm 67 32 k)) → (∃ p, k < p ∧ p ≤ N ∧ (∀ n : Nat, fn_Scanner_behindComment_4 (n + z + 1) 34 fr o k hc = some (p, hc)) ∧ ∀ (m : Nat) (hm : qz_H), cz_tm t N hm → fn_Md_comment_4 (m + z + 2) 67 o 1 (qz_up hm 67 32 k) = some (1, qz_up hm 67 32 p)) ∨
    ((∀ n : Nat, fn_Scanner_behindComment_4 (n + z + 1) 34 fr o k hc = some (fr, hc)) ∧ ∃ p, ∀ (m : Nat) (hm : qz_H), cz_tm t N hm → fn_Md_comment_4 (m + z + 2) 67 o 1 (qz_up hm 67 32 k) = some (0, qz_up hm 67 32 p)) := by
    intro o' g o1 o2 hg hN hc1 hm1
    by_cases c : o' = 0
    · refine Or.inl ⟨k + g, by omega, hN, fun n => ?_, fun m hm b => ?_⟩
      · rw [hc1]
        unfold fn_Scanner_behindComment_80
        rw [if_neg (by omega), bz_w (by omega) (by omega), show k + g - 1 + 1 = k + g by omega]
      · rw [hm1 m hm b]
        unfold fn_Md_comment_132 fn_Md_comment_145
        rw [bz_ck (by omega), bz_bn, if_pos (by omega), bz_bn, cz_uu, bz_w (by omega) (by omega)]
        show fn_Md_comment_4_b _ 67 o' 0 _ = _
        unfold fn_Md_comment_4_b
        rw [if_pos rfl, bz_ck (by omega)]
    · have cs : ∀ n : Nat, fn_Scanner_behindComment_4 (n + z + 1) 34 fr o k hc = fn_Scanner_behindComment_4 (n + z) 34 fr o' (k + g) hc := by
        intro n
        rw [hc1]
        unfold fn_Scanner_behindComment_80
        rw [if_pos (by omega), bz_bn, bz_w (by omega) (by omega), show k + g - 1 + 1 = k + g by omega]
      have ms : ∀ (m : Nat) (hm : qz_H), cz_tm t N hm → fn_Md_comment_4 (m + z + 2) 67 o 1 (qz_up hm 67 32 k) = fn_Md_comment_4 (m + z + 1) 67 o' 1 (qz_up hm 67 32 (k + g)) := by
        intro m hm b
        rw [hm1 m hm b]
        unfold fn_Md_comment_132 fn_Md_comment_145
        rw [bz_ck (by omega), bz_bn, if_neg (by omega), bz_bn, cz_uu, bz_w (by omega) (by omega)]
      have en : ∀ n : Nat, n + z = n + (g.toNat - 1) + (z - g.toNat) + 1 := fun n => by omega
      have em : ∀ m : Nat, m + z + 1 = m + (g.toNat - 1) + (z - g.toNat) + 2 := fun n => by omega
      rcases ih (z - g.toNat) (by omega) o' (k + g) (by omega) (by omega) (by omega) with ⟨p, p1, p2, p3, p4⟩ | ⟨p3, p, p4⟩
      · refine Or.inl ⟨p, by omega, p2, fun n => ?_, fun m hm b => ?_⟩
        · rw [cs, en, p3]
        · rw [ms m hm b, em, p4 _ hm b]
      · refine Or.inr ⟨fun n => ?_, p, fun m hm b => ?_⟩
        · rw [cs, en, p3]
        · rw [ms m hm b, em, p4 _ hm b]
  by_cases c1 : t k = 40 ∧ t (k + 1) = 59
  · have k1 := cz_tz w (k := k + 1) (by omega)
    refine go (o + 1) 2 (by omega) (by omega) (by omega) (by omega) (fun n => ?_) fun m hm b => ?_
    · rw [cc, if_pos c1, show k + 2 - 1 = k + 1 by omega]
    · rw [mm m hm b, if_pos c1]
  · by_cases c2 : t k = 59 ∧ t (k + 1) = 41
    · have k1 := cz_tz w (k := k + 1) (by omega)
      refine go (o - 1) 2 (by omega) (by omega) (by omega) (by omega) (fun n => ?_) fun m hm b => ?_
      · rw [cc, if_neg c1, if_pos c2, show k + 2 - 1 = k + 1 by omega]
      · rw [mm m hm b, if_neg c1, if_pos c2]
    · refine go o 1 (by omega) (by omega) (by omega) (by omega) (fun n => ?_) fun m hm b => ?_
      · rw [cc, if_neg c1, if_neg c2, show k + 1 - 1 = k by omega]
      · rw [mm m hm b, if_neg c1, if_neg c2]
end SC
