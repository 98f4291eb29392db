/-! The checkers. -/
def bz_sv (x : Int) : Int := if x = 3 then 0 else x
/-- the model's new module is that data -/
def bz_MN (h : qz_H) (P : qz_H) : Prop := h 67 15 = P 0 0 ∧ ∀ f : Int, 0 ≤ f → f < P 0 0 → h 79 f = P 1 f ∧ h 80 f = P 2 f ∧ h 81 f = P 3 f ∧ h 83 f = P 4 f ∧ h 83 (f + 1) = P 4 (f + 1) ∧ (∀ k : Int, 0 ≤ k → k < P 2 f → h 82 (8 * f + k) = P 7 (8 * f + k)) ∧ ∀ i : Int, P 4 f ≤ i → i < P 4 (f + 1) → h 84 i = P 5 i ∧ h 85 i = P 6 i
theorem bz_MN_same {h h' P : qz_H} (h7 : h' 67 15 = h 67 15) (hs : ∀ o i : Int, 79 ≤ o → o ≤ 85 → h' o i = h o i) (mm : bz_MN h P) : bz_MN h' P := by
  refine ⟨h7.trans mm.1, fun f f0 f1 => ?_⟩
  rw [hs _ _ (by omega) (by omega), hs _ _ (by omega) (by omega), hs _ _ (by omega) (by omega), hs _ _ (by omega) (by omega), hs _ _ (by omega) (by omega)]
  obtain ⟨c1, c2, c3, c4, c5, c6, c7⟩ := mm.2 f f0 f1
  refine ⟨c1, c2, c3, c4, c5, fun k k0 k1 => ?_, fun i i0 i1 => ?_⟩
  · rw [hs _ _ (by omega) (by omega)]
    exact c6 k k0 k1
  · rw [hs _ _ (by omega) (by omega), hs _ _ (by omega) (by omega)]
    exact c7 i i0 i1
def bz_XK (h0 h : qz_H) (M : Int) (P : qz_H) (f : Int) : Prop := bz_LC h ∧ bz_MC h M P ∧ h 48 2 = M ∧ h 48 3 = M + 4 + 2 * f ∧ ∀ o i : Int, o ≠ 48 → o ≠ 49 → ¬ (51 ≤ o ∧ o ≤ 62) → h o i = h0 o i
def bz_XL (m0 m : qz_H) (P : qz_H) : Prop := bz_LM m ∧ bz_MN m P ∧ (∀ o i : Int, o ≠ 67 → ¬ (100 ≤ o ∧ o ≤ 105) → m o i = m0 o i) ∧ ∀ i : Int, i ≠ 49 → i ≠ 51 → i ≠ 57 → m 67 i = m0 67 i
section CKU
variable {h0 m0 hc hm P : qz_H} {M f : Int}
theorem bz_XK.up (hM : M = 6 ∨ M = 18) (wf : bz_wf P) (x : bz_XK h0 hc M P f) {o i v : Int} (ho : o = 48 ∧ 4 ≤ i ∧ i ≤ 7 ∨ o = 49 ∧ 0 ≤ i ∧ i ≤ 64 ∨ 51 ≤ o ∧ o ≤ 62 ∧ 0 ≤ i ∧ i ≤ 4) : bz_XK h0 (qz_up hc o i v) M P f := by
  obtain ⟨x1, x2, x3, x4, x5⟩ := x
  refine ⟨?_, bz_MC_same hM wf (fun a b a1 a2 => bz_uo (by omega)) x2, ?_, ?_, fun a b a1 a2 a3 => by rw [bz_uo (by omega)]; exact x5 a b a1 a2 a3⟩
  · rcases ho with ho | ho | ho
    · exact bz_LC_up (a := 48) (b := 48) (c := 4) (e := 7) (by decide +kernel) (by omega) (by omega) (by omega) (by omega) (by omega) x1
    · exact bz_LC_up (a := 49) (b := 49) (c := 0) (e := 64) (by decide +kernel) (by omega) (by omega) (by omega) (by omega) (by omega) x1
    · exact bz_LC_up (a := 51) (b := 62) (c := 0) (e := 4) (by decide +kernel) (by omega) (by omega) (by omega) (by omega) (by omega) x1
  · have z : qz_up hc o i v 48 2 = hc 48 2 := if_neg (by omega)
    rw [z]; exact x3
  · have z : qz_up hc o i v 48 3 = hc 48 3 := if_neg (by omega)
    rw [z]; exact x4
theorem bz_XL.up (x : bz_XL m0 hm P) {o i v : Int} (ho : o = 67 ∧ (i = 49 ∨ i = 51 ∨ i = 57) ∨ 100 ≤ o ∧ o ≤ 105 ∧ 0 ≤ i ∧ i ≤ 100) : bz_XL m0 (qz_up hm o i v) P := by
  obtain ⟨x1, x2, x3, x4⟩ := x
  refine ⟨?_, bz_MN_same ?_ (fun a b a1 a2 => bz_uo (by omega)) x2, fun a b a1 a2 => by rw [bz_uo (by omega)]; exact x3 a b a1 a2, fun b b2 b3 b4 => ?_⟩
  · rcases ho with ⟨ho, hi | hi | hi⟩ | ho
    · exact bz_LM_up (a := 67) (b := 67) (c := 49) (e := 49) (by decide +kernel) (by omega) (by omega) (by omega) (by omega) x1
    · exact bz_LM_up (a := 67) (b := 67) (c := 51) (e := 51) (by decide +kernel) (by omega) (by omega) (by omega) (by omega) x1
    · exact bz_LM_up (a := 67) (b := 67) (c := 57) (e := 57) (by decide +kernel) (by omega) (by omega) (by omega) (by omega) x1
    · exact bz_LM_up (a := 100) (b := 105) (c := 0) (e := 100) (by decide +kernel) (by omega) (by omega) (by omega) (by omega) x1
  · exact if_neg (by omega)
  · have z : qz_up hm o i v 67 b = hm 67 b := if_neg (by omega)
    rw [z]; exact x4 b b2 b3 b4
end CKU
/-- one frame, in both -/
def bz_fm1 (hc hm : qz_H) (j : Int) : Prop := hm 101 j = hc (51 + j) 0 ∧ hm 102 j = hc (51 + j) 1 ∧ hm 103 j = hc (51 + j) 2 ∧ hm 105 j = hc (51 + j) 3 ∧ (hm 104 j = 4 ↔ hc (51 + j) 4 = 1) ∧ (hc (51 + j) 4 = 0 ∨ hc (51 + j) 4 = 1) ∧ (0 ≤ hc (51 + j) 0 ∧ hc (51 + j) 0 ≤ 2) ∧ (0 ≤ hc (51 + j) 1 ∧ hc (51 + j) 1 ≤ 2) ∧ 0 ≤ hc (51 + j) 2 ∧ (hc (51 + j) 3 = 0 ∨ hc (51 + j) 3 = 1)
def bz_RF (hc hm : qz_H) (d t b : Int) : Prop := (hc 48 4 = t ∧ hm 67 49 = t ∧ hc 48 5 = d ∧ hm 67 51 = d + 1 ∧ hc 48 6 = b ∧ hm 67 57 = b) ∧ ((b = 0 ∨ b = 1) ∧ 0 ≤ d ∧ d ≤ 10 ∧ 0 ≤ t ∧ t ≤ 64) ∧ (∀ k : Int, 0 ≤ k → k < t → (1 ≤ hc 49 k ∧ hc 49 k ≤ 3) ∧ hm 100 k = bz_sv (hc 49 k)) ∧ (∀ j : Int, 0 ≤ j → j ≤ d → bz_fm1 hc hm j) ∧ (∀ j : Int, 0 ≤ j → j < d → hc (51 + j) 2 ≤ hc (51 + (j + 1)) 2) ∧ hc (51 + d) 2 ≤ t
section CKB
variable {h0 m0 hc hm P : qz_H} {M f d t b : Int}
/-- the flag -/
theorem bz_RF.flag (r : bz_RF hc hm d t b) {v : Int} (hv : v = 0 ∨ v = 1) : bz_RF (qz_up hc 48 6 v) (qz_up hm 67 57 v) d t v := by
  obtain ⟨⟨r1, r2, r3, r4, r5, r6⟩, ⟨q1, q2, q3, q4, q5⟩, s1, s2, s3, s4⟩ := r
  refine ⟨⟨by rw [bz_ui (by omega)]; exact r1, by rw [bz_ui (by omega)]; exact r2, by rw [bz_ui (by omega)]; exact r3, by rw [bz_ui (by omega)]; exact r4, bz_us _ _ _ _, bz_us _ _ _ _⟩, ⟨hv, q2, q3, q4, q5⟩, fun k k0 k1 => ?_, fun j j0 j1 => ?_, fun j j0 j1 => ?_, ?_⟩
  · rw [bz_uo (by omega), bz_uo (by omega)]; exact s1 k k0 k1
  · unfold bz_fm1
    simp (disch := omega) only [bz_uo]
    exact s2 j j0 j1
  · rw [bz_uo (by omega), bz_uo (by omega)]; exact s3 j j0 j1
  · rw [bz_uo (by omega)]; exact s4
/-- the height -/
theorem bz_RF.hgt (r : bz_RF hc hm d t b) {v : Int} (v0 : hc (51 + d) 2 ≤ v) (v1 : v ≤ t) : bz_RF (qz_up hc 48 4 v) (qz_up hm 67 49 v) d v b := by
  obtain ⟨⟨r1, r2, r3, r4, r5, r6⟩, ⟨q1, q2, q3, q4, q5⟩, s1, s2, s3, s4⟩ := r
  have hd := (s2 d q2 (Int.le_refl _)).2.2.2.2.2.2.2.2.1
  refine ⟨⟨bz_us _ _ _ _, bz_us _ _ _ _, by rw [bz_ui (by omega)]; exact r3, by rw [bz_ui (by omega)]; exact r4, by rw [bz_ui (by omega)]; exact r5, by rw [bz_ui (by omega)]; exact r6⟩, ⟨q1, q2, q3, by omega, by omega⟩, fun k k0 k1 => ?_, fun j j0 j1 => ?_, fun j j0 j1 => ?_, ?_⟩
  · rw [bz_uo (by omega), bz_uo (by omega)]; exact s1 k k0 (by omega)
  · unfold bz_fm1
    simp (disch := omega) only [bz_uo]
    exact s2 j j0 j1
  · rw [bz_uo (by omega), bz_uo (by omega)]; exact s3 j j0 j1
  · rw [bz_uo (by omega)]; exact v0
/-- one value more on the stack -/
theorem bz_RF.push (r : bz_RF hc hm d t b) (t1 : t < 64) {v : Int} (v0 : 1 ≤ v) (v1 : v ≤ 3) : bz_RF (qz_up (qz_up hc 49 t v) 48 4 (t + 1)) (qz_up (qz_up hm 100 t (bz_sv v)) 67 49 (t + 1)) d (t + 1) b := by
  obtain ⟨⟨r1, r2, r3, r4, r5, r6⟩, ⟨q1, q2, q3, q4, q5⟩, s1, s2, s3, s4⟩ := r
  refine ⟨⟨bz_us _ _ _ _, bz_us _ _ _ _, ?_, ?_, ?_, ?_⟩, ⟨q1, q2, q3, by omega, by omega⟩, fun k k0 k1 => ?_, fun j j0 j1 => ?_, fun j j0 j1 => ?_, ?_⟩
  · rw [bz_ui (by omega), bz_uo (by omega)]; exact r3
  · rw [bz_ui (by omega), bz_uo (by omega)]; exact r4
  · rw [bz_ui (by omega), bz_uo (by omega)]; exact r5
  · rw [bz_ui (by omega), bz_uo (by omega)]; exact r6
  · have e1 : qz_up (qz_up hc 49 t v) 48 4 (t + 1) 49 k = qz_up hc 49 t v 49 k := bz_uo (by omega)
    have e2 : qz_up (qz_up hm 100 t (bz_sv v)) 67 49 (t + 1) 100 k = qz_up hm 100 t (bz_sv v) 100 k := bz_uo (by omega)
    rw [e1, e2]
    by_cases q : k = t
    · rw [q, bz_us, bz_us]
      exact ⟨⟨v0, v1⟩, rfl⟩
    · rw [bz_ui q, bz_ui q]
      exact s1 k k0 (by omega)
  · unfold bz_fm1
    simp (disch := omega) only [bz_uo]
    exact s2 j j0 j1
  · simp (disch := omega) only [bz_uo]
    exact s3 j j0 j1
  · simp (disch := omega) only [bz_uo]
    omega
/-- both checkers stand alike -/
def bz_K (h0 m0 hc hm : qz_H) (M : Int) (P : qz_H) (f d t b : Int) : Prop := bz_XK h0 hc M P f ∧ bz_XL m0 hm P ∧ bz_RF hc hm d t b
theorem bz_sv_rg {x : Int} (h1 : 1 ≤ x) (h2 : x ≤ 3) : (x = 3 ∧ bz_sv x = 0) ∨ (x ≠ 3 ∧ bz_sv x = x) := by
  unfold bz_sv
  by_cases q : x = 3
  · exact Or.inl ⟨q, if_pos q⟩
  · exact Or.inr ⟨q, if_neg q⟩
theorem bz_take (hM : M = 6 ∨ M = 18) (wf : bz_wf P) (k : bz_K h0 m0 hc hm M P f d t b) {tc : Int} (c0 : 1 ≤ tc) (c1 : tc ≤ 3) : ∃ gc t' b' hc' hm', fn_Checker_take 48 tc hc = some (gc, hc') ∧ fn_Md_take 67 (bz_sv tc) hm = some (bz_sv gc, hm') ∧ bz_K h0 m0 hc' hm' M P f d t' b' ∧ (1 ≤ gc ∧ gc ≤ 3) ∧ t' ≤ t ∧ (b = 1 → b' = 1) := by
  obtain ⟨xk, xl, r⟩ := k
  obtain ⟨⟨r1, r2, r3, r4, r5, r6⟩, ⟨q1, q2, q3, q4, q5⟩, s1, s2, s3, s4⟩ := id r
  obtain ⟨f1, f2, f3, f4, f5, f6, f7, f8, f9, f10⟩ := s2 d q2 (Int.le_refl _)
  have fr := bz_frm xk.1 q2 (show d ≤ 11 by omega)
  have sv := bz_sv_rg c0 c1
  have hcS : fn_Checker_take 48 tc hc = if t ≤ hc (51 + d) 2 then fn_Checker_take_30 48 (51 + d) hc else qz_bn (qz_up hc 48 4 (t - 1)) fun h2 => if tc = 3 then fn_Checker_take_95 (hc 49 (t - 1)) h2 else if hc 49 (t - 1) = 3 then fn_Checker_take_95 (hc 49 (t - 1)) h2 else if hc 49 (t - 1) = tc then fn_Checker_take_95 (hc 49 (t - 1)) h2 else fn_Checker_take_95 (hc 49 (t - 1)) (qz_up h2 48 6 1) := by
    unfold fn_Checker_take
    dsimp only [qz_bn]
    rw [bz_c48_1 xk.1, bz_c50_m1 xk.1, r3, r1, bz_ck (by omega), bz_ck (by omega), fr, bz_ck (by omega)]
    by_cases c : t ≤ hc (51 + d) 2
    · rw [if_pos c, if_pos c]
    · rw [if_neg c, if_neg c, if_pos q5, bz_ck (by omega), bz_w (show -2147483648 ≤ t - 1 by omega) (by omega), bz_us]
      have e0 : qz_up hc 48 4 (t - 1) 48 0 = 49 := by rw [bz_ui (by omega)]; exact bz_c48_0 xk.1
      have e1 : qz_up hc 48 4 (t - 1) 49 (-1) = 64 := by rw [bz_uo (by omega)]; exact bz_c49_m1 xk.1
      have e2 : qz_up hc 48 4 (t - 1) 49 (t - 1) = hc 49 (t - 1) := bz_uo (by omega)
      rw [e0, e1, e2, bz_ck (by omega), bz_ck (by omega), bz_ck (by omega), bz_ck (by omega)]
  have hmS : fn_Md_take 67 (bz_sv tc) hm = if ¬ t = hc (51 + d) 2 then qz_bn (qz_up hm 67 49 (t - 1)) fun h2 => if ¬ b = 0 then fn_Md_take_88 (hm 100 (t - 1)) 67 h2 else if bz_sv tc = 0 then fn_Md_take_92 (hm 100 (t - 1)) 67 h2 else if hm 100 (t - 1) = 0 then fn_Md_take_92 (hm 100 (t - 1)) 67 h2 else if hm 100 (t - 1) = bz_sv tc then fn_Md_take_92 (hm 100 (t - 1)) 67 h2 else fn_Md_take_88 (hm 100 (t - 1)) 67 h2 else if ¬ b = 0 then fn_Md_take_37 67 hm else if ¬ hc (51 + d) 3 = 0 then fn_Md_take_42 67 0 hm else fn_Md_take_37 67 hm := by
    unfold fn_Md_take
    dsimp only [qz_bn]
    rw [r4, show d + 1 - 1 = d from by omega, bz_w (show -2147483648 ≤ d by omega) (by omega), bz_m67_54 xl.1, bz_m103_m1 xl.1, bz_ck (by omega), bz_ck (by omega), f3, r2, r6]
    by_cases c : t = hc (51 + d) 2
    · rw [if_neg (show ¬ ¬ t = hc (51 + d) 2 from fun z => z c), if_neg (show ¬ ¬ t = hc (51 + d) 2 from fun z => z c), bz_m67_56 xl.1, bz_m105_m1 xl.1, bz_ck (by omega), bz_ck (by omega), f4]
    · rw [if_pos c, if_pos c, bz_ck (by omega), bz_w (show -2147483648 ≤ t - 1 by omega) (by omega), bz_us]
      have e0 : qz_up hm 67 49 (t - 1) 67 50 = 100 := by rw [bz_ui (by omega)]; exact bz_m67_50 xl.1
      have e1 : qz_up hm 67 49 (t - 1) 100 (-1) = 80 := by rw [bz_uo (by omega)]; exact bz_m100_m1 xl.1
      have e2 : qz_up hm 67 49 (t - 1) 100 (t - 1) = hm 100 (t - 1) := bz_uo (by omega)
      have e3 : qz_up hm 67 49 (t - 1) 67 57 = b := by rw [bz_ui (by omega)]; exact r6
      rw [e0, e1, e2, e3, bz_ck (by omega), bz_ck (by omega)]
  rw [hcS, hmS]
  by_cases c : t ≤ hc (51 + d) 2
  · -- nothing is left here
    rw [if_pos c, if_neg (by omega)]
    unfold fn_Checker_take_30 fn_Checker_take_45 fn_Checker_take_50 fn_Md_take_37 fn_Md_take_42
    rw [r5]
    have fin : ∀ v : Int, (v = 0 ∨ v = 1) → (b = 1 → v = 1) → ∃ gc t' b' hc' hm', (some (3, qz_up hc 48 6 v) : Option qz_R) = some (gc, hc') ∧ (some (0, qz_up hm 67 57 v) : Option qz_R) = some (bz_sv gc, hm') ∧ bz_K h0 m0 hc' hm' M P f d t' b' ∧ (1 ≤ gc ∧ gc ≤ 3) ∧ t' ≤ t ∧ (b = 1 → b' = 1) := fun v hv hb => ⟨3, t, v, _, _, rfl, rfl, ⟨xk.up hM wf (by omega), xl.up (by omega), r.flag hv⟩, by omega, Int.le_refl _, hb⟩
    by_cases cb : b = 0
    · rw [if_neg (show ¬ ¬ b = 0 from fun z => z cb), if_neg (show ¬ ¬ b = 0 from fun z => z cb), bz_ck (show 51 + d ≠ 0 by omega)]
      by_cases cu : hc (51 + d) 3 = 0
      · rw [if_neg (show ¬ ¬ hc (51 + d) 3 = 0 from fun z => z cu), if_neg (show ¬ ¬ hc (51 + d) 3 = 0 from fun z => z cu)]
        dsimp only [qz_bn]
        rw [bz_ck (by omega), bz_ck (by omega), bz_ck (by omega), bz_ck (by omega)]
        exact fin 1 (Or.inr rfl) (fun _ => rfl)
      · rw [if_pos cu, if_pos cu]
        dsimp only [qz_bn]
        rw [bz_ck (by omega), bz_ck (by omega), bz_ck (by omega), bz_ck (by omega)]
        exact fin 0 (Or.inl rfl) (fun z => by omega)
    · rw [if_pos cb, if_pos cb]
      dsimp only [qz_bn]
      rw [bz_ck (by omega), bz_ck (by omega), bz_ck (by omega), bz_ck (by omega)]
      exact fin 1 (Or.inr rfl) (fun _ => rfl)
  · -- one is taken
    rw [if_neg c, if_pos (by omega)]
    dsimp only [qz_bn]
    obtain ⟨g1, g2⟩ := s1 (t - 1) (by omega) (by omega)
    have gv := bz_sv_rg g1.1 g1.2
    have rr := r.hgt (v := t - 1) (by omega) (by omega)
    have xk1 : bz_XK h0 (qz_up hc 48 4 (t - 1)) M P f := xk.up hM wf (by omega)
    have xl1 : bz_XL m0 (qz_up hm 67 49 (t - 1)) P := xl.up (by omega)
    rw [g2]
    unfold fn_Checker_take_95 fn_Md_take_88 fn_Md_take_92 fn_Md_take_93
    have fin : ∀ v : Int, (v = 0 ∨ v = 1) → (b = 1 → v = 1) → ∃ gc t' b' hc' hm', (some (hc 49 (t - 1), qz_up (qz_up hc 48 4 (t - 1)) 48 6 v) : Option qz_R) = some (gc, hc') ∧ (some (bz_sv (hc 49 (t - 1)), qz_up (qz_up hm 67 49 (t - 1)) 67 57 v) : Option qz_R) = some (bz_sv gc, hm') ∧ bz_K h0 m0 hc' hm' M P f d t' b' ∧ (1 ≤ gc ∧ gc ≤ 3) ∧ t' ≤ t ∧ (b = 1 → b' = 1) := fun v hv hb => ⟨_, t - 1, v, _, _, rfl, rfl, ⟨xk1.up hM wf (by omega), xl1.up (by omega), rr.flag hv⟩, g1, by omega, hb⟩
    have same : ∀ v : Int, v = b → qz_up (qz_up hc 48 4 (t - 1)) 48 6 v = qz_up hc 48 4 (t - 1) := by
      intro v hv
      funext a x
      unfold qz_up
      by_cases z : a = 48 ∧ x = 6
      · rw [if_pos z, if_neg (by omega), z.1, z.2, hv, r5]
      · rw [if_neg z]
    by_cases cb : b = 0
    · simp only [cb, not_true, if_false]
      have e := same 0 cb.symm
      by_cases n : tc = 3 ∨ hc 49 (t - 1) = 3 ∨ hc 49 (t - 1) = tc
      · have a1 : (if tc = 3 then some (hc 49 (t - 1), qz_up hc 48 4 (t - 1)) else if hc 49 (t - 1) = 3 then some (hc 49 (t - 1), qz_up hc 48 4 (t - 1)) else if hc 49 (t - 1) = tc then some (hc 49 (t - 1), qz_up hc 48 4 (t - 1)) else some (hc 49 (t - 1), qz_up (qz_up hc 48 4 (t - 1)) 48 6 1) : Option qz_R) = some (hc 49 (t - 1), qz_up (qz_up hc 48 4 (t - 1)) 48 6 0) := by
          rw [e]
          by_cases n1 : tc = 3
          · rw [if_pos n1]
          by_cases n2 : hc 49 (t - 1) = 3
          · rw [if_neg n1, if_pos n2]
          · rw [if_neg n1, if_neg n2, if_pos (by omega)]
        rw [a1]
        have a2 : ∀ X Y : Option qz_R, (if bz_sv tc = 0 then X else if bz_sv (hc 49 (t - 1)) = 0 then X else if bz_sv (hc 49 (t - 1)) = bz_sv tc then X else Y) = X := by
          intro X Y
          by_cases n1 : bz_sv tc = 0
          · rw [if_pos n1]
          by_cases n2 : bz_sv (hc 49 (t - 1)) = 0
          · rw [if_neg n1, if_pos n2]
          · rw [if_neg n1, if_neg n2, if_pos (by rcases n with n | n | n; omega; omega; rw [n])]
        rw [a2, bz_ck (by first | omega | simp), bz_ck (by first | omega | simp)]
        rw [cb] at fin
        exact fin 0 (Or.inl rfl) (fun z => by omega)
      · rw [if_neg (by omega), if_neg (by omega), if_neg (by omega)]
        rw [if_neg (by omega), if_neg (by omega), if_neg (by omega), bz_ck (by first | omega | simp), bz_ck (by first | omega | simp)]
        rw [cb] at fin
        exact fin 1 (Or.inr rfl) (fun _ => rfl)
    · have b1 : b = 1 := by omega
      simp only [if_pos cb]
      have e := same 1 b1.symm
      have a1 : (if tc = 3 then some (hc 49 (t - 1), qz_up hc 48 4 (t - 1)) else if hc 49 (t - 1) = 3 then some (hc 49 (t - 1), qz_up hc 48 4 (t - 1)) else if hc 49 (t - 1) = tc then some (hc 49 (t - 1), qz_up hc 48 4 (t - 1)) else some (hc 49 (t - 1), qz_up (qz_up hc 48 4 (t - 1)) 48 6 1) : Option qz_R) = some (hc 49 (t - 1), qz_up (qz_up hc 48 4 (t - 1)) 48 6 1) := by
        rw [e]
        simp only [ite_self]
      rw [a1, bz_ck (by first | omega | simp), bz_ck (by first | omega | simp)]
      exact fin 1 (Or.inr rfl) (fun _ => rfl)
theorem bz_put1 (hM : M = 6 ∨ M = 18) (wf : bz_wf P) (k : bz_K h0 m0 hc hm M P f d t b) (t1 : t < 64) {v : Int} (v0 : 1 ≤ v) (v1 : v ≤ 3) : ∃ hc' hm', fn_Checker_put 48 v hc = some (0, hc') ∧ fn_Md_put 67 (bz_sv v) hm = some (0, hm') ∧ bz_K h0 m0 hc' hm' M P f d (t + 1) b := by
  obtain ⟨xk, xl, r⟩ := k
  obtain ⟨⟨r1, r2, r3, r4, r5, r6⟩, ⟨q1, q2, q3, q4, q5⟩, s1, s2, s3, s4⟩ := id r
  refine ⟨_, _, ?_, ?_, (xk.up hM wf (o := 49) (i := t) (v := v) (by omega)).up hM wf (o := 48) (i := 4) (v := t + 1) (by omega), (xl.up (o := 100) (i := t) (v := bz_sv v) (by omega)).up (o := 67) (i := 49) (v := t + 1) (by omega), r.push t1 v0 v1⟩
  · unfold fn_Checker_put fn_Checker_put_40
    dsimp only [qz_bn]
    rw [if_neg (by omega), r1, if_neg (by omega), if_neg (by omega), bz_c48_0 xk.1, bz_c49_m1 xk.1, bz_ck (by omega), bz_ck (by omega), bz_ck (by omega), bz_uo (by omega), r1, bz_w (by omega) (by omega)]
  · unfold fn_Md_put
    dsimp only [qz_bn]
    rw [bz_m67_50 xl.1, bz_m100_m1 xl.1, r2, bz_ck (by omega), bz_ck (by omega), bz_ck (by omega), bz_uo (by omega), r2, bz_w (by omega) (by omega)]
end CKB
