/-! The scanners. A text as data: its characters t, how many N. -/
abbrev cz_sg (c : Int) : Prop := 33 ≤ c ∧ c ≤ 126 ∧ c ≠ 34 ∧ c ≠ 40 ∧ c ≠ 41 ∧ c ≠ 44 ∧ c ≠ 59 ∧ c ≠ 91 ∧ c ≠ 93 ∧ c ≠ 123 ∧ c ≠ 125
theorem cz_w41 (c a : Int) (h : qz_H) : fn_Scanner_isOfWord_41 c a h = some (if a = 0 ∧ 33 ≤ c ∧ c ≤ 126 ∧ c ≠ 34 ∧ c ≠ 44 ∧ c ≠ 59 then 1 else 0, h) := by
  unfold fn_Scanner_isOfWord_41 fn_Scanner_isOfWord_80 fn_Scanner_isOfWord_81
  rw [bz_bn, bz_ck (by omega), bz_ck (by omega)]
  (repeat' split) <;> first | rfl | omega
theorem cz_isw (c : Int) (h : qz_H) : fn_Scanner_isOfWord c h = some (if cz_sg c then 1 else 0, h) := by
  unfold fn_Scanner_isOfWord fn_Scanner_isOfWord_36 cz_sg
  rw [cz_w41, cz_w41]
  (repeat' split) <;> first | rfl | omega
theorem cz_s138 (a b s : Int) (h : qz_H) : fn_Md_isSign_138 a b s h = some (if a = 0 ∧ b = 0 ∧ s = 0 then 0 else 1, h) := by
  unfold fn_Md_isSign_138 fn_Md_isSign_151 fn_Md_isSign_156
  rw [bz_bn, bz_ck (by omega), bz_ck (by omega)]
  (repeat' split) <;> first | rfl | omega
theorem cz_s133 (a b : Int) (h : qz_H) : fn_Md_isSign_133 a b h = some (1, h) := by
  unfold fn_Md_isSign_133
  rw [cz_s138, if_neg (by omega)]
theorem cz_s121 (c a b : Int) (h : qz_H) : fn_Md_isSign_121 c a b h = some (if a = 0 ∧ b = 0 ∧ ¬ (c = 124 ∨ c = 126) then 0 else 1, h) := by
  unfold fn_Md_isSign_121
  rw [cz_s133, cz_s138]
  (repeat' split) <;> first | rfl | omega
theorem cz_s103 (c a b : Int) (h : qz_H) : fn_Md_isSign_103 c a b h = some (if a = 0 ∧ b = 0 ∧ ¬ (c = 92 ∨ 94 ≤ c ∧ c ≤ 96 ∨ c = 124 ∨ c = 126) then 0 else 1, h) := by
  unfold fn_Md_isSign_103
  rw [cz_s133, cz_s121]
  (repeat' split) <;> first | rfl | omega
theorem cz_s84 (c a b : Int) (h : qz_H) : fn_Md_isSign_84 c a b h = some (if a = 0 ∧ b = 0 ∧ ¬ (c = 58 ∨ 60 ≤ c ∧ c ≤ 64 ∨ c = 92 ∨ 94 ≤ c ∧ c ≤ 96 ∨ c = 124 ∨ c = 126) then 0 else 1, h) := by
  unfold fn_Md_isSign_84
  rw [bz_bn, cz_s133, cz_s103]
  (repeat' split) <;> first | rfl | omega
theorem cz_s55 (c a : Int) (h : qz_H) : fn_Md_isSign_55 c a h = some (if a = 0 ∧ ¬ (c = 42 ∨ c = 43 ∨ 45 ≤ c ∧ c ≤ 47 ∨ c = 58 ∨ 60 ≤ c ∧ c ≤ 64 ∨ c = 92 ∨ 94 ≤ c ∧ c ≤ 96 ∨ c = 124 ∨ c = 126) then 0 else 1, h) := by
  unfold fn_Md_isSign_55 fn_Md_isSign_79 fn_Md_isSign_83
  rw [cz_s84, cz_s84]
  (repeat' split) <;> first | rfl | omega
theorem cz_s36 (c a : Int) (h : qz_H) : fn_Md_isSign_36 c a h = some (if a = 0 ∧ ¬ (c = 33 ∨ 35 ≤ c ∧ c ≤ 39 ∨ c = 42 ∨ c = 43 ∨ 45 ≤ c ∧ c ≤ 47 ∨ c = 58 ∨ 60 ≤ c ∧ c ≤ 64 ∨ c = 92 ∨ 94 ≤ c ∧ c ≤ 96 ∨ c = 124 ∨ c = 126) then 0 else 1, h) := by
  unfold fn_Md_isSign_36 fn_Md_isSign_79
  rw [bz_bn, cz_s84, cz_s55]
  (repeat' split) <;> first | rfl | omega
theorem cz_dg (c : Int) (h : qz_H) : fn_Md_isDigit c h = some (if 48 ≤ c ∧ c ≤ 57 then 1 else 0, h) := by
  unfold fn_Md_isDigit fn_Md_isDigit_16 fn_Md_isDigit_17
  rw [bz_ck (by omega), bz_ck (by omega)]
  (repeat' split) <;> first | rfl | omega
theorem cz_s24 (c : Int) (h : qz_H) : fn_Md_isSign_24 c h = some (if ¬ (c = 33 ∨ 35 ≤ c ∧ c ≤ 39 ∨ c = 42 ∨ c = 43 ∨ 45 ≤ c ∧ c ≤ 58 ∨ 60 ≤ c ∧ c ≤ 64 ∨ c = 92 ∨ 94 ≤ c ∧ c ≤ 96 ∨ c = 124 ∨ c = 126) then 0 else 1, h) := by
  unfold fn_Md_isSign_24 fn_Md_isSign_31
  rw [cz_dg, bz_bc, cz_s36, cz_s36]
  (repeat' split) <;> first | rfl | omega
theorem cz_iss (c : Int) (h : qz_H) : fn_Md_isSign c h = some (if cz_sg c then 1 else 0, h) := by
  unfold fn_Md_isSign fn_Md_isSign_12 fn_Md_isSign_31 cz_sg
  rw [cz_s24, cz_s36]
  (repeat' split) <;> first | rfl | omega
def cz_tt (t : Int → Int) (N : Int) : Prop := 0 ≤ N ∧ N ≤ 320 ∧ (∀ k : Int, 0 ≤ k → k < N → bz_ch (t k)) ∧ ∀ k : Int, ¬ (0 ≤ k ∧ k < N) → t k = 0
def cz_tc (t : Int → Int) (N T : Int) (hc : qz_H) : Prop := bz_LC hc ∧ hc 34 0 = T ∧ (T = 2 ∨ T = 4) ∧ hc T 1 = N ∧ ∀ k : Int, 0 ≤ k → k < N → hc (T + 1) k = t k
def cz_tm (t : Int → Int) (N : Int) (hm : qz_H) : Prop := bz_LM hm ∧ hm 67 5 = N ∧ ∀ k : Int, 0 ≤ k → k < N → hm 71 k = t k
section SC
variable {t : Int → Int} {N T : Int} {hc hm : qz_H}
theorem cz_tn (w : cz_tt t N) (k : Int) : 0 ≤ t k ∧ t k ≤ 126 := by
  obtain ⟨w1, w2, w3, w4⟩ := w
  by_cases z : 0 ≤ k ∧ k < N
  · have := w3 k z.1 z.2
    unfold bz_ch at this
    omega
  · rw [w4 k z]; omega
theorem cz_tz (w : cz_tt t N) {k : Int} (h : t k ≠ 0) : 0 ≤ k ∧ k < N := by
  by_cases z : 0 ≤ k ∧ k < N
  · exact z
  · exact absurd (w.2.2.2 k z) h
theorem cz_tsg (w : cz_tt t N) {k : Int} (h : cz_sg (t k)) : 0 ≤ k ∧ k < N := by
  unfold cz_sg at h
  exact cz_tz w (by omega)
theorem cz_tca (w : cz_tt t N) (a : cz_tc t N T hc) (k : Int) : fn_Text_at T k hc = some (t k, hc) := by
  obtain ⟨hL, a1, hT, a3, a4⟩ := a
  obtain ⟨e1, e2⟩ := bz_txt hL hT
  have tn := cz_tn w k
  obtain ⟨w1, w2, w3, w4⟩ := w
  unfold fn_Text_at fn_Text_at_28 fn_Text_at_29
  by_cases z : 0 ≤ k ∧ k < N
  · rw [if_neg (by omega), if_neg (by omega), if_neg (by omega), e1, e2, bz_ck (by omega), bz_ck (by omega), a4 k z.1 z.2, bz_ck (by omega)]
  · rw [w4 k z, bz_ck (by omega)]
    by_cases z1 : k < 0
    · rw [if_pos z1]
    · rw [if_neg z1, if_pos (by omega)]
theorem cz_tma (w : cz_tt t N) (a : cz_tm t N hm) {k : Int} (k0 : 0 ≤ k) : fn_Md_ch 67 k hm = some (t k, hm) := by
  obtain ⟨hL, a1, a2⟩ := a
  obtain ⟨w1, w2, w3, w4⟩ := w
  unfold fn_Md_ch fn_Md_ch_18
  rw [a1, bz_m67_6 hL, bz_m71_m1 hL]
  by_cases z : k < N
  · rw [if_neg (by omega), bz_ck (by omega), bz_ck (by omega), a2 k k0 z]
  · rw [if_pos (by omega), w4 k (by omega)]
/-- what leaves the text -/
theorem cz_tc.up (a : cz_tc t N T hc) {o i v : Int} (ho : o = 34 ∧ 1 ≤ i ∨ o = 30 ∧ 4 ≤ i ∨ (o = 32 ∨ o = 33 ∨ 35 ≤ o ∧ o ≤ 47) ∧ 0 ≤ i) : cz_tc t N T (qz_up hc o i v) := by
  obtain ⟨hL, a1, hT, a3, a4⟩ := a
  refine ⟨?_, ?_, hT, ?_, fun k k0 k1 => ?_⟩
  · rcases ho with ⟨rfl, h⟩ | ⟨rfl, h⟩ | ⟨h, h0⟩
    · exact ⟨fun q hq => by
        have z : ∀ q ∈ bz_TC, q.1 ≠ 34 := by decide +kernel
        rw [bz_uo (z q hq)]; exact hL.1 q hq, fun x j x1 x2 x3 x4 => by rw [bz_uo (by omega)]; exact hL.2 x j x1 x2 x3 x4⟩
    · exact ⟨fun q hq => by
        have z : ∀ q ∈ bz_TC, q.1 ≠ 30 ∨ q.2.1 ≤ 3 := by decide +kernel
        rcases z q hq with z | z
        · rw [bz_uo z]; exact hL.1 q hq
        · rw [bz_ui (by omega)]; exact hL.1 q hq, fun x j x1 x2 x3 x4 => by rw [bz_uo (by omega)]; exact hL.2 x j x1 x2 x3 x4⟩
    · exact ⟨fun q hq => by
        have z : ∀ q ∈ bz_TC, (q.1 ≠ 32 ∧ q.1 ≠ 33 ∧ (q.1 ≤ 34 ∨ 48 ≤ q.1)) ∨ q.2.1 = -1 := by decide +kernel
        rcases z q hq with z | z
        · rw [bz_uo (by omega)]; exact hL.1 q hq
        · rw [bz_ui (by omega)]; exact hL.1 q hq, fun x j x1 x2 x3 x4 => by rw [bz_uo (by omega)]; exact hL.2 x j x1 x2 x3 x4⟩
  · rw [show qz_up hc o i v 34 0 = hc 34 0 from if_neg (by omega)]; exact a1
  · rw [bz_uo (by omega)]; exact a3
  · rw [bz_uo (by omega)]; exact a4 k k0 k1
theorem cz_tm.up (a : cz_tm t N hm) {o i v : Int} (ho : o = 67 ∧ (i = 15 ∨ i = 23 ∨ i = 28 ∨ 32 ≤ i ∧ i ≤ 39 ∨ i = 47 ∨ i = 48) ∨ 79 ≤ o ∧ 0 ≤ i) : cz_tm t N (qz_up hm o i v) := by
  obtain ⟨hL, a1, a2⟩ := a
  refine ⟨fun q hq => ?_, ?_, fun k k0 k1 => by rw [bz_uo (by omega)]; exact a2 k k0 k1⟩
  · have z : ∀ q ∈ bz_TM, (q.1 = 67 ∧ ¬ (q.2.1 = 15 ∨ q.2.1 = 23 ∨ q.2.1 = 28 ∨ 32 ≤ q.2.1 ∧ q.2.1 ≤ 39 ∨ q.2.1 = 47 ∨ q.2.1 = 48)) ∨ q.1 ≠ 67 ∧ (q.1 < 79 ∨ q.2.1 = -1) := by decide +kernel
    have y := z q hq
    rw [show qz_up hm o i v q.1 q.2.1 = hm q.1 q.2.1 from if_neg (by omega)]
    exact hL q hq
  · rw [show qz_up hm o i v 67 5 = hm 67 5 from if_neg (by omega)]; exact a1
theorem cz_uu (h : qz_H) (o i x y : Int) : qz_up (qz_up h o i x) o i y = qz_up h o i y := by
  funext a b
  unfold qz_up
  split <;> rfl
theorem cz_ux (h : qz_H) {o i o' i' x y : Int} (n : ¬ (o = o' ∧ i = i')) : qz_up (qz_up h o i x) o' i' y = qz_up (qz_up h o' i' y) o i x := by
  funext a b
  unfold qz_up
  by_cases z : a = o' ∧ b = i'
  · rw [if_pos z, if_neg (by omega), if_pos z]
  · rw [if_neg z]
    split
    · rfl
    · rfl
theorem cz_ue (h : qz_H) (o i : Int) : qz_up h o i (h o i) = h := by
  funext a b
  unfold qz_up
  split
  · rename_i z; rw [z.1, z.2]
  · rfl
end SC
