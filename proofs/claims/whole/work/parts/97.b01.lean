/-! The readers side by side: the class from token to token, the model where its own calls stand. -/
def cz_rest (k : Nat) (x : Option qz_R) : Option qz_R := qz_bc x fun r4 h5 => qz_bn (r4 : Int) fun x6 => if x6 = 0 then (qz_ck ((h5 30 0 : Int) ≠ 0) <| if ¬ h5 (h5 30 0) 1 = 4 then (qz_bn (qz_w ((k : Int) + 1)) fun x7 => fn_Reader_read_48 (3999 - k) 30 x7 h5) else (qz_bc (fn_Reader_findFunctions 30 h5) fun r8 h9 => some (r8, h9))) else some (x6, h5)
def cz_go (k : Nat) (hc : qz_H) : Option qz_R := cz_rest k (fn_Reader_judge 30 (hc 31 (hc 30 5)) hc)
abbrev cz_oc (M o i : Int) : Prop := o = 34 ∧ 1 ≤ i ∨ o = 30 ∧ 5 ≤ i ∨ (o = 32 ∨ o = 33 ∨ 35 ≤ o ∧ o ≤ 47) ∧ 0 ≤ i ∨ o = M ∧ 3 ≤ i ∨ (o = M + 2 ∨ o = M + 3) ∧ 0 ≤ i ∨ (M + 4 ≤ o ∧ o ≤ M + 11) ∧ 1 ≤ i ∨ (o = M + 5 ∨ o = M + 7 ∨ o = M + 9 ∨ o = M + 11) ∧ 0 ≤ i
abbrev cz_om (o i : Int) : Prop := o = 67 ∧ (i = 15 ∨ i = 23 ∨ i = 28 ∨ 32 ≤ i ∧ i ≤ 37 ∨ i = 39 ∨ i = 47 ∨ i = 48) ∨ (79 ≤ o ∧ o ≤ 99) ∧ 0 ≤ i
def cz_en (t : Int → Int) (N T M : Int) (hc0 hm0 hc hm : qz_H) : Prop := cz_tc t N T hc ∧ cz_tm t N hm ∧ hc 30 4 = M ∧ hm 67 38 = 0 ∧ bz_CR M hc0 hc ∧ bz_MR hm0 hm ∧ (M = 6 ∨ M = 18) ∧ cz_tt t N
def cz_S (t : Int → Int) (N T M : Int) (hc0 hm0 : qz_H) (k : Nat) (hc hm : qz_H) (kd s : Int) (L : Nat) : Prop := cz_en t N T M hc0 hm0 hc hm ∧ cz_tk t N hc hm kd s L ∧ hc 30 9 = s ∧ (k : Int) ≤ s ∧ 0 ≤ kd ∧ kd ≤ 4
def cz_Fc (h h' : qz_H) : Prop := ∀ o i : Int, ¬ (o = 34 ∧ 1 ≤ i ∧ i ≤ 4) → ¬ (o = 30 ∧ i = 9) → h' o i = h o i
def cz_bad (M : Int) (hc0 hm0 : qz_H) (C D : Option qz_R) : Prop := ∃ w hc' hm', C = some (w, hc') ∧ (w = 1 ∨ w = 2) ∧ D = some (0, hm') ∧ bz_LC hc' ∧ bz_LM hm' ∧ hc' 30 9 = hm' 67 34 ∧ hm' 67 38 = w ∧ bz_CR M hc0 hc' ∧ bz_MR hm0 hm'
section SC
variable {t : Int → Int} {N T M : Int} {hc0 hm0 hc hm : qz_H}
theorem cz_en.tc (e : cz_en t N T M hc0 hm0 hc hm) : cz_tc t N T hc := e.1
theorem cz_en.tm (e : cz_en t N T M hc0 hm0 hc hm) : cz_tm t N hm := e.2.1
theorem cz_en.m4 (e : cz_en t N T M hc0 hm0 hc hm) : hc 30 4 = M := e.2.2.1
theorem cz_en.w0 (e : cz_en t N T M hc0 hm0 hc hm) : hm 67 38 = 0 := e.2.2.2.1
theorem cz_en.cr (e : cz_en t N T M hc0 hm0 hc hm) : bz_CR M hc0 hc := e.2.2.2.2.1
theorem cz_en.mr (e : cz_en t N T M hc0 hm0 hc hm) : bz_MR hm0 hm := e.2.2.2.2.2.1
theorem cz_en.hM (e : cz_en t N T M hc0 hm0 hc hm) : M = 6 ∨ M = 18 := e.2.2.2.2.2.2.1
theorem cz_en.w (e : cz_en t N T M hc0 hm0 hc hm) : cz_tt t N := e.2.2.2.2.2.2.2
theorem cz_S.en {k : Nat} {kd s : Int} {L : Nat} (e : cz_S t N T M hc0 hm0 k hc hm kd s L) : cz_en t N T M hc0 hm0 hc hm := e.1
theorem cz_S.tk {k : Nat} {kd s : Int} {L : Nat} (e : cz_S t N T M hc0 hm0 k hc hm kd s L) : cz_tk t N hc hm kd s L := e.2.1
theorem cz_S.st {k : Nat} {kd s : Int} {L : Nat} (e : cz_S t N T M hc0 hm0 k hc hm kd s L) : hc 30 9 = s := e.2.2.1
theorem cz_S.ks {k : Nat} {kd s : Int} {L : Nat} (e : cz_S t N T M hc0 hm0 k hc hm kd s L) : (k : Int) ≤ s := e.2.2.2.1
theorem cz_S.k0 {k : Nat} {kd s : Int} {L : Nat} (e : cz_S t N T M hc0 hm0 k hc hm kd s L) : 0 ≤ kd := e.2.2.2.2.1
theorem cz_S.k4 {k : Nat} {kd s : Int} {L : Nat} (e : cz_S t N T M hc0 hm0 k hc hm kd s L) : kd ≤ 4 := e.2.2.2.2.2
theorem cz_tc.uc (a : cz_tc t N T hc) (hM : M = 6 ∨ M = 18) {o i v : Int} (ho : cz_oc M o i) : cz_tc t N T (qz_up hc o i v) := by
  obtain ⟨hL, a1, hT, a3, a4⟩ := a
  refine ⟨⟨fun q hq => ?_, fun x j x1 x2 x3 x4 => by rw [bz_uo (by omega)]; exact hL.2 x j x1 x2 x3 x4⟩, ?_, hT, ?_, fun k k0 k1 => ?_⟩
  · have z6 : ∀ q ∈ bz_TC, ¬ cz_oc 6 q.1 q.2.1 := by decide +kernel
    have z18 : ∀ q ∈ bz_TC, ¬ cz_oc 18 q.1 q.2.1 := by decide +kernel
    rw [cz_un, hL.1 q hq]
    intro e
    rw [← e.1, ← e.2] at ho
    rcases hM with rfl | rfl
    · exact z6 q hq ho
    · exact z18 q hq ho
  · rw [cz_un (by omega)]; exact a1
  · rw [bz_uo (by omega)]; exact a3
  · rw [bz_uo (by omega)]; exact a4 k k0 k1
theorem cz_en.uc (e : cz_en t N T M hc0 hm0 hc hm) {o i v : Int} (ho : cz_oc M o i) : cz_en t N T M hc0 hm0 (qz_up hc o i v) hm :=
  ⟨e.tc.uc e.hM ho, e.tm, by rw [cz_un (by have := e.hM; omega)]; exact e.m4, e.w0, fun a b h1 h2 => by rw [cz_un (by have := e.hM; omega)]; exact e.cr a b h1 h2, e.mr, e.hM, e.w⟩
theorem cz_en.um (e : cz_en t N T M hc0 hm0 hc hm) {o i v : Int} (ho : cz_om o i) : cz_en t N T M hc0 hm0 hc (qz_up hm o i v) :=
  ⟨e.tc, e.tm.up (by omega), e.m4, by rw [cz_un (by omega)]; exact e.w0, e.cr, ⟨fun a b h1 h2 => by rw [cz_un (by omega)]; exact e.mr.1 a b h1 h2, fun i h => by rw [cz_un (by omega)]; exact e.mr.2 i h⟩, e.hM, e.w⟩
theorem cz_tk.pos {kd s : Int} {L : Nat} (w : cz_tt t N) (h : cz_tk t N hc hm kd s L) (h2 : kd ≤ 2) : ∃ p, hc 34 3 = p ∧ hm 67 32 = p ∧ s < p ∧ p ≤ N ∧ 0 ≤ s := by
  obtain ⟨k1, k2, k3, k4, k5, k6, k7⟩ := h
  rcases k7 with k7 | k7 | k7
  · exact ⟨s + 1, by omega, by omega, by omega, by omega, k5⟩
  · have := cz_wd_N w k7.2.1
    have := k7.2.1.2.1
    exact ⟨s + (L : Int), k7.2.2.1, k7.2.2.2.1, by omega, by omega, k5⟩
  · omega
theorem cz_Fc.tc {h h' : qz_H} (f : cz_Fc h h') (a : cz_tc t N T h) : cz_tc t N T h' := by
  obtain ⟨hL, a1, hT, a3, a4⟩ := a
  refine ⟨⟨fun q hq => ?_, fun x j x1 x2 x3 x4 => by rw [f _ _ (by omega) (by omega)]; exact hL.2 x j x1 x2 x3 x4⟩, by rw [f _ _ (by omega) (by omega)]; exact a1, hT, by rw [f _ _ (by omega) (by omega)]; exact a3, fun k k0 k1 => by rw [f _ _ (by omega) (by omega)]; exact a4 k k0 k1⟩
  have z : ∀ q ∈ bz_TC, q.1 ≠ 34 ∧ ¬ (q.1 = 30 ∧ q.2.1 = 9) := by decide +kernel
  rw [f _ _ (by have := z q hq; omega) (z q hq).2]
  exact hL.1 q hq
/-- both go on to the next token -/
theorem cz_adv {k : Nat} {kd s : Int} {L : Nat} (S : cz_S t N T M hc0 hm0 k hc hm kd s L) (h2 : kd ≤ 2) {hc1 hm1 : qz_H} (e1 : cz_en t N T M hc0 hm0 hc1 hm1) (c1 : hc1 34 1 = hc 34 1) (c3 : hc1 34 3 = hc 34 3) (d32 : hm1 67 32 = hm 67 32) (d5 : 0 ≤ hc1 30 5) (d6 : hc1 30 5 ≤ 12) : ∃ hc2 hm2 kd' s' L', cz_rest k (some (0, hc1)) = cz_go (k + 1) hc2 ∧ fn_Md_next 67 hm1 = some (0, hm2) ∧ cz_S t N T M hc0 hm0 (k + 1) hc2 hm2 kd' s' L' ∧ s < s' ∧ cz_Fc hc1 hc2 ∧ cz_fm hm1 hm2 := by
  have wN := S.en.w.2.1
  have ks := S.ks
  obtain ⟨p, p1, p2, p3, p4, p5⟩ := S.tk.pos S.en.w h2
  obtain ⟨hc', hm', kd', s', L', n1, n2, n3, n4, n5, n6, n7, n8⟩ := cz_next S.en.w e1.tc e1.tm (e := p) (by omega) p4 (by omega) (by omega)
  have c30 := bz_c30_0 e1.tc.1
  have t1 := n3.tc e1.tc
  have F : cz_Fc hc1 (qz_up hc' 30 9 s') := by
    intro o i h1 h2
    rw [cz_un h2]
    exact n3 o i h1
  refine ⟨qz_up hc' 30 9 s', hm', kd', s', L', ?_, n2, ⟨⟨F.tc e1.tc, n4.tm e1.tm, ?_, ?_, ?_, ?_, e1.hM, e1.w⟩, ?_, ?_, by omega, n7, n8⟩, by omega, F, n4⟩
  · unfold cz_rest cz_go
    have kd4 : hc1 34 1 ≠ 4 := by rw [c1, S.tk.1]; omega
    rw [bz_bc, bz_bn, if_pos rfl, c30, bz_ck (by omega), if_pos kd4, bz_bn, bz_w (by omega) (by omega), show 3999 - k = (3999 - (k + 1)) + 1 by omega]
    show fn_Reader_read_48_b (fn_Reader_read_48 (3999 - (k + 1))) 30 ((k : Int) + 1) hc1 = _
    unfold fn_Reader_read_48_b
    have q0 : hc' 30 0 = 34 := bz_c30_0 t1.1
    have q2 : hc' 34 2 = s' := n5.2.1
    have q5 : hc' 30 5 = hc1 30 5 := n3 _ _ (by omega)
    have q1 : (qz_up hc' 30 9 s') 30 1 = 31 := bz_c30_1 (F.tc e1.tc).1
    have q3 : (qz_up hc' 30 9 s') 31 (-1) = 13 := bz_c31_m1 (F.tc e1.tc).1
    rw [if_neg (by omega), c30, bz_ck (by omega), n1, bz_bc, q0, bz_ck (by omega), bz_ck (by omega), q2, bz_bn, q1, bz_ck (by omega), q3, show (qz_up hc' 30 9 s') 30 5 = hc1 30 5 by rw [bz_ui (by omega)]; exact q5, bz_ck (by omega)]
    rfl
  · rw [bz_ui (by omega), n3 _ _ (by omega)]; exact e1.m4
  · rw [n4 _ _ (by omega)]; exact e1.w0
  · intro o i h1 h2
    rw [F o i (by omega) (by omega)]; exact e1.cr o i h1 h2
  · exact ⟨fun o i h1 h2 => by rw [n4 _ _ (by omega)]; exact e1.mr.1 o i h1 h2, fun i h => by rw [n4 _ _ (by omega)]; exact e1.mr.2 i h⟩
  · obtain ⟨k1, k2, k3, k4, k5, k6, k7⟩ := n5
    refine ⟨by rw [bz_uo (by omega)]; exact k1, by rw [bz_uo (by omega)]; exact k2, k3, k4, k5, k6, ?_⟩
    rw [bz_uo (by omega), bz_uo (by omega)]
    exact k7
  · rw [bz_us]
theorem cz_fail {q : qz_H} (h : q 67 38 = 0) (w : Int) : fn_Md_fail 67 w q = some (0, qz_up q 67 38 w) := by
  unfold fn_Md_fail fn_Md_fail_16
  rw [h, if_neg (by omega), bz_ck (by omega), bz_bn, bz_ck (by omega)]
theorem cz_fail2 {q : qz_H} {w : Int} (hw : w ≠ 0) (w' : Int) : fn_Md_fail 67 w' (qz_up q 67 38 w) = some (0, qz_up q 67 38 w) := by
  unfold fn_Md_fail fn_Md_fail_16
  rw [bz_us, if_pos hw, bz_ck (by omega), bz_bn, cz_uu, bz_ck (by omega)]
theorem cz_badI {k : Nat} {hc1 hm1 : qz_H} {w : Int} (e1 : cz_en t N T M hc0 hm0 hc1 hm1) (hw : w = 1 ∨ w = 2) (h : hc1 30 9 = hm1 67 34) : cz_bad M hc0 hm0 (cz_rest k (some (w, hc1))) (some (0, qz_up hm1 67 38 w)) := by
  refine ⟨w, hc1, _, ?_, hw, rfl, e1.tc.1, (e1.tm.up (by omega)).1, ?_, bz_us _ _ _ _, e1.cr, ⟨fun a b h1 h2 => ?_, fun i hi => ?_⟩⟩
  · unfold cz_rest
    rw [bz_bc, bz_bn, if_neg (by omega)]
  · rw [bz_ui (by omega)]; exact h
  · rw [cz_un (by omega)]; exact e1.mr.1 a b h1 h2
  · rw [cz_un (by omega)]; exact e1.mr.2 i hi
end SC
