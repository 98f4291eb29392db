/-! The law, call by call: both stand alike before and after each. -/
def bz_J (hc hm : qz_H) : Prop := bz_LC hc ∧ bz_LM hm ∧ hc 109 (-1) = 1 ∧ (∃ T S, (T = 2 ∧ S = 4 ∨ T = 4 ∧ S = 2) ∧ hc 1 4 = T ∧ hc 1 5 = S ∧ bz_RT hc hm T) ∧ (∃ M P, (M = 6 ∨ M = 18) ∧ hc 1 6 = M ∧ hc 1 7 = 24 - M ∧ bz_wf P ∧ bz_MC hc M P ∧ bz_MM hm P) ∧ bz_RE hc hm ∧ hc 1 8 = hm 67 4
def bz_fcc (hc hc' : qz_H) : Prop := ∀ o i : Int, (67 ≤ o ∧ o ≤ 108 ∨ o = 109 ∧ i = -1 ∨ o ≤ -1) → hc' o i = hc o i
def bz_fmm (hm hm' : qz_H) : Prop := ∀ o i : Int, (1 ≤ o ∧ o ≤ 66 ∨ 109 ≤ o ∨ o ≤ -1) → hm' o i = hm o i
theorem bz_RT.m {hc hm hm' : qz_H} {T : Int} (r : bz_RT hc hm T) (h5 : hm' 67 5 = hm 67 5) (h71 : ∀ k : Int, hm' 71 k = hm 71 k) : bz_RT hc hm' T := ⟨r.1, r.2.1, h5.trans r.2.2.1, fun k k0 k1 => by rw [h71]; exact r.2.2.2 k k0 k1⟩
theorem bz_RT.c {hc hc' hm : qz_H} {T : Int} (r : bz_RT hc hm T) (h1 : hc' T 1 = hc T 1) (h2 : ∀ k : Int, hc' (T + 1) k = hc (T + 1) k) : bz_RT hc' hm T := ⟨by rw [h1]; exact r.1, by rw [h1]; exact r.2.1, by rw [h1]; exact r.2.2.1, fun k k0 k1 => by rw [h2]; rw [h1] at k1; exact r.2.2.2 k k0 k1⟩
theorem bz_RE.m {hc hm hm' : qz_H} (r : bz_RE hc hm) (h5 : hm' 67 58 = hm 67 58) (h71 : ∀ k : Int, hm' 106 k = hm 106 k) : bz_RE hc hm' := ⟨r.1, r.2.1, h5.trans r.2.2.1, fun k k0 k1 => by rw [h71]; exact r.2.2.2 k k0 k1⟩
theorem bz_RE.c {hc hc' hm : qz_H} (r : bz_RE hc hm) (h1 : hc' 63 2 = hc 63 2) (h2 : ∀ k : Int, hc' 64 k = hc 64 k) : bz_RE hc' hm := ⟨by rw [h1]; exact r.1, by rw [h1]; exact r.2.1, by rw [h1]; exact r.2.2.1, fun k k0 k1 => by rw [h2]; rw [h1] at k1; exact r.2.2.2 k k0 k1⟩
theorem bz_LM_f {h h' : qz_H} (hL : bz_LM h) (f : ∀ o i : Int, (67 ≤ o ∧ o ≤ 108 ∨ o = 109 ∧ i = -1) → h' o i = h o i) : bz_LM h' := by
  intro q hq
  have z : ∀ q ∈ bz_TM, 67 ≤ q.1 ∧ q.1 ≤ 108 ∨ q.1 = 109 ∧ q.2.1 = -1 := by decide +kernel
  rw [f _ _ (z q hq)]
  exact hL q hq
theorem bz_LC_f {h h' : qz_H} (hL : bz_LC h) (f : ∀ o i : Int, (1 ≤ o ∧ o ≤ 66 ∨ o ≤ -1) → h' o i = h o i) : bz_LC h' := by
  refine ⟨fun q hq => ?_, fun x j x1 x2 x3 x4 => by rw [f _ _ (Or.inr x2)]; exact hL.2 x j x1 x2 x3 x4⟩
  have z : ∀ q ∈ bz_TC, 1 ≤ q.1 ∧ q.1 ≤ 66 := by decide +kernel
  rw [f _ _ (Or.inl (z q hq))]
  exact hL.1 q hq
theorem bz_J.m {hc hm hm' : qz_H} (j : bz_J hc hm) (f : ∀ o i : Int, (67 ≤ o ∧ o ≤ 108 ∨ o = 109 ∧ i = -1) → hm' o i = hm o i) : bz_J hc hm' := by
  obtain ⟨j1, j2, j3, ⟨T, S, t1, t2, t3, t4⟩, ⟨M, P, m1, m2, m3, m4, m5, m6⟩, j6, j7⟩ := j
  exact ⟨j1, bz_LM_f j2 f, j3, ⟨T, S, t1, t2, t3, t4.m (f 67 5 (by omega)) (fun k => f 71 k (by omega))⟩, ⟨M, P, m1, m2, m3, m4, m5, bz_MM_same (f 67 7 (by omega)) (fun o i o1 o2 => f o i (by omega)) m6⟩, j6.m (f 67 58 (by omega)) (fun k => f 106 k (by omega)), by rw [f 67 4 (by omega)]; exact j7⟩
theorem bz_J.c {hc hc' hm : qz_H} (j : bz_J hc hm) (f : ∀ o i : Int, (1 ≤ o ∧ o ≤ 66 ∨ o = 109 ∧ i = -1 ∨ o ≤ -1) → hc' o i = hc o i) : bz_J hc' hm := by
  obtain ⟨j1, j2, j3, ⟨T, S, t1, t2, t3, t4⟩, ⟨M, P, m1, m2, m3, m4, m5, m6⟩, j6, j7⟩ := j
  exact ⟨bz_LC_f j1 (fun o i ho => f o i (by omega)), j2, by rw [f 109 (-1) (by omega)]; exact j3, ⟨T, S, t1, by rw [f 1 4 (by omega)]; exact t2, by rw [f 1 5 (by omega)]; exact t3, t4.c (f T 1 (by omega)) (fun k => f (T + 1) k (by omega))⟩, ⟨M, P, m1, by rw [f 1 6 (by omega)]; exact m2, by rw [f 1 7 (by omega)]; exact m3, m4, bz_MC_same m1 m4 (fun o i o1 o2 => f o i (by omega)) m5, m6⟩, j6.c (f 63 2 (by omega)) (fun k => f 64 k (by omega)), by rw [f 1 8 (by omega)]; exact j7⟩
/-- one call on both -/
def bz_op (fC fM : qz_H → Option qz_R) (Q : Int → Int → qz_H → qz_H → Prop) : Prop := ∀ hc hm : qz_H, bz_J hc hm → ∃ r s hc' hm', fC hc = some (r, hc') ∧ fM hm = some (s, hm') ∧ Q r s hc' hm' ∧ bz_J hc' hm' ∧ bz_fcc hc hc' ∧ bz_fmm hm hm'
theorem bz_run {fC fM : qz_H → Option qz_R} {Q : Int → Int → qz_H → qz_H → Prop} (op : bz_op fC fM Q) {h : qz_H} (j : bz_J h h) : ∃ r s h1 h2, fC h = some (r, h1) ∧ fM h1 = some (s, h2) ∧ Q r s h1 h2 ∧ bz_J h2 h2 ∧ bz_fcc h h1 ∧ bz_fmm h1 h2 := by
  obtain ⟨r, s, h1, m1, a1, a2, a3, a4, a5, a6⟩ := op h h j
  have j1 : bz_J h h1 := j.m fun o i ho => a5 o i (by omega)
  obtain ⟨r', s', h1', m2, b1, b2, b3, b4, b5, b6⟩ := op h h1 j1
  cases a1.symm.trans b1
  exact ⟨r, s', h1, m2, a1, b2, b3, b4.c fun o i ho => b6 o i (by omega), a5, b6⟩
def bz_Qe : Int → Int → qz_H → qz_H → Prop := fun r s _ _ => r = s
def bz_Qt : Int → Int → qz_H → qz_H → Prop := fun r s hc' hm' => hm' 67 3 = r ∧ (r = 0 → hc' 109 0 = s)
/-- a query: the class's heap stays, the model forgets what it threw -/
theorem bz_opq {fC fM : qz_H → Option qz_R} (h : ∀ hc hm : qz_H, bz_J hc hm → ∃ r, fC hc = some (r, hc) ∧ fM hm = some (r, qz_up hm 67 3 0)) : bz_op fC fM bz_Qe := by
  intro hc hm j
  obtain ⟨r, e1, e2⟩ := h hc hm j
  refine ⟨r, r, hc, _, e1, e2, rfl, ?_, fun _ _ _ => rfl, fun o i ho => bz_uo (by omega)⟩
  obtain ⟨j1, j2, j3, ⟨T, S, t1, t2, t3, t4⟩, ⟨M, P, m1, m2, m3, m4, m5, m6⟩, j6, j7⟩ := j
  exact ⟨j1, bz_th_LM j2 0, j3, ⟨T, S, t1, t2, t3, t4.m (bz_ui (by omega)) (fun k => bz_uo (by omega))⟩, ⟨M, P, m1, m2, m3, m4, m5, bz_th_MM m6 0⟩, j6.m (bz_ui (by omega)) (fun k => bz_uo (by omega)), by rw [bz_ui (by omega)]; exact j7⟩
theorem bz_opChar (k : Int) : bz_op (fn_SA_character 1 k) (fn_Md_character 67 k) bz_Qe := bz_opq fun hc hm ⟨j1, j2, j3, ⟨T, S, t1, t2, t3, t4⟩, _⟩ => by
  have hT : hc 1 4 = 2 ∨ hc 1 4 = 4 := by omega
  rw [← t2] at t4
  obtain ⟨a, b⟩ := bz_character j1 j2 hT t4 k
  exact ⟨_, a, b⟩
theorem bz_opOct (k : Int) : bz_op (fn_SA_octet 1 k) (fn_Md_octet 67 k) bz_Qe := bz_opq fun hc hm ⟨j1, j2, j3, _, _, j6, j7⟩ => bz_octet j1 j2 j6 k
theorem bz_opPlace : bz_op (fn_SA_place 1) (fn_Md_place 67) bz_Qe := bz_opq fun hc hm ⟨j1, j2, j3, _, _, j6, j7⟩ => by
  obtain ⟨a, b⟩ := bz_place j7
  exact ⟨_, a, b⟩
theorem bz_opFns : bz_op (fn_SA_functions 1) (fn_Md_functions 67) bz_Qe := bz_opq fun hc hm ⟨j1, j2, j3, _, ⟨M, P, m1, m2, m3, m4, m5, m6⟩, _⟩ => by
  obtain ⟨a, b⟩ := bz_functions m1 m2 m5 m6
  exact ⟨_, a, b⟩
theorem bz_opFn {f k : Int} (k1 : -2147483648 ≤ k) (k2 : k ≤ 2147483647) : bz_op (fn_SA_function 1 f k) (fn_Md_function 67 f k) bz_Qe := bz_opq fun hc hm ⟨j1, j2, j3, _, ⟨M, P, m1, m2, m3, m4, m5, m6⟩, _⟩ => bz_function j1 j2 m1 m2 m4 m5 m6 k1 k2
theorem bz_opIns {f k : Int} (k1 : -2147483648 ≤ k) (k2 : k ≤ 2147483647) : bz_op (fn_SA_instruction 1 f k) (fn_Md_instruction 67 f k) bz_Qe := bz_opq fun hc hm ⟨j1, j2, j3, _, ⟨M, P, m1, m2, m3, m4, m5, m6⟩, _⟩ => (bz_ins j1 j2 m1 m2 m4 m5 m6 k1 k2).1
theorem bz_opImm {f k : Int} (k1 : -2147483648 ≤ k) (k2 : k ≤ 2147483647) : bz_op (fn_SA_immediate 1 f k) (fn_Md_immediate 67 f k) bz_Qe := bz_opq fun hc hm ⟨j1, j2, j3, _, ⟨M, P, m1, m2, m3, m4, m5, m6⟩, _⟩ => (bz_ins j1 j2 m1 m2 m4 m5 m6 k1 k2).2
theorem bz_opType (e : Int) : bz_op (fn_SA_type 1 e) (fn_Md_type 67 e) bz_Qe := by
  intro hc hm ⟨j1, j2, j3, ⟨T, S, t1, t2, t3, t4⟩, ⟨M, P, m1, m2, m3, m4, m5, m6⟩, j6, j7⟩
  obtain ⟨r, hc', hm', a1, a2, a3, a4, a5, a6, a7, a8⟩ := bz_type j1 j2 (show T = 2 ∨ T = 4 by omega) t2 t4 e
  refine ⟨r, r, hc', hm', a1, a2, rfl, ⟨a3, a4, by rw [a6 109 (-1) (by omega) (by omega)]; exact j3, ⟨T, S, t1, by rw [a6 1 4 (by omega) (by omega)]; exact t2, by rw [a6 1 5 (by omega) (by omega)]; exact t3, a5⟩, ⟨M, P, m1, by rw [a6 1 6 (by omega) (by omega)]; exact m2, by rw [a6 1 7 (by omega) (by omega)]; exact m3, m4, bz_MC_same m1 m4 (fun o i o1 o2 => a6 o i (by omega) (by omega)) m5, bz_MM_same (a8 7 (by omega) (by omega)) (fun o i o1 o2 => a7 o i (by omega) (by omega)) m6⟩, (j6.c (a6 63 2 (by omega) (by omega)) (fun k => a6 64 k (by omega) (by omega))).m (a8 58 (by omega) (by omega)) (fun k => a7 106 k (by omega) (by omega)), by rw [a6 1 8 (by omega) (by omega), a8 4 (by omega) (by omega)]; exact j7⟩, fun o i ho => a6 o i (by omega) (by omega), fun o i ho => a7 o i (by omega) (by omega)⟩
theorem bz_opWipe : bz_op (fn_SA_wipe 1) (fn_Md_wipe 67) bz_Qe := by
  intro hc hm ⟨j1, j2, j3, ⟨T, S, t1, t2, t3, t4⟩, ⟨M, P, m1, m2, m3, m4, m5, m6⟩, j6, j7⟩
  refine ⟨0, 0, qz_up hc T 1 0, qz_up (qz_up hm 67 3 0) 67 5 0, ?_, ?_, rfl, ⟨?_, ?_, by rw [bz_uo (by omega)]; exact j3, ⟨T, S, t1, by rw [bz_uo (by omega)]; exact t2, by rw [bz_uo (by omega)]; exact t3, ?_⟩, ⟨M, P, m1, by rw [bz_uo (by omega)]; exact m2, by rw [bz_uo (by omega)]; exact m3, m4, bz_MC_same m1 m4 (fun o i o1 o2 => bz_uo (by omega)) m5, bz_MM_same (by rw [bz_ui (by omega), bz_ui (by omega)]) (fun o i o1 o2 => by rw [bz_uo (by omega), bz_uo (by omega)]) m6⟩, (j6.c (bz_uo (by omega)) (fun k => bz_uo (by omega))).m (by rw [bz_ui (by omega), bz_ui (by omega)]) (fun k => by rw [bz_uo (by omega), bz_uo (by omega)]), by rw [bz_uo (by omega), bz_ui (by omega), bz_ui (by omega)]; exact j7⟩, fun o i ho => bz_uo (by omega), fun o i ho => by rw [bz_uo (by omega), bz_uo (by omega)]⟩
  · unfold fn_SA_wipe
    rw [t2, bz_ck (by omega), bz_ck (by omega), bz_bn]
  · unfold fn_Md_wipe
    rw [bz_ck (by omega), bz_bn, bz_ck (by omega), bz_bn]
  · rcases t1 with ⟨rfl, -⟩ | ⟨rfl, -⟩
    · exact bz_LC_up (a := 2) (b := 2) (c := 1) (e := 1) (by decide +kernel) (by omega) (by omega) (by omega) (by omega) (by omega) j1
    · exact bz_LC_up (a := 4) (b := 4) (c := 1) (e := 1) (by decide +kernel) (by omega) (by omega) (by omega) (by omega) (by omega) j1
  · exact bz_LM_up (a := 67) (b := 67) (c := 3) (e := 5) (by decide +kernel) (by omega) (by omega) (by omega) (by omega) (bz_th_LM j2 0)
  · refine ⟨by rw [bz_us]; omega, by rw [bz_us]; omega, by rw [bz_us, bz_us], fun k k0 k1 => ?_⟩
    rw [bz_us] at k1
    omega
theorem bz_opEnc : bz_op (fn_SA_encode 1) (fn_Md_encode 67) bz_Qe := by
  intro hc hm ⟨j1, j2, j3, ⟨T, S, t1, t2, t3, t4⟩, ⟨M, P, m1, m2, m3, m4, m5, m6⟩, j6, j7⟩
  obtain ⟨n, hc', hm', a1, a2, a3, a4, a5, a6, a7, a8⟩ := bz_encode j1 j2 m1 m2 m4 m5 m6
  refine ⟨n, n, hc', hm', a1, a2, rfl, ⟨a3, a4, by rw [a6 109 (-1) (by omega) (by omega) (by omega)]; exact j3, ⟨T, S, t1, by rw [a6 1 4 (by omega) (by omega) (by omega)]; exact t2, by rw [a6 1 5 (by omega) (by omega) (by omega)]; exact t3, (t4.c (a6 T 1 (by omega) (by omega) (by omega)) (fun k => a6 (T + 1) k (by omega) (by omega) (by omega))).m (a8 5 (by omega) (by omega) (by omega)) (fun k => a7 71 k (by omega) (by omega) (by omega))⟩, ⟨M, P, m1, by rw [a6 1 6 (by omega) (by omega) (by omega)]; exact m2, by rw [a6 1 7 (by omega) (by omega) (by omega)]; exact m3, m4, bz_MC_same m1 m4 (fun o i o1 o2 => a6 o i (by omega) (by omega) (by omega)) m5, bz_MM_same (a8 7 (by omega) (by omega) (by omega)) (fun o i o1 o2 => a7 o i (by omega) (by omega) (by omega)) m6⟩, a5, by rw [a6 1 8 (by omega) (by omega) (by omega), a8 4 (by omega) (by omega) (by omega)]; exact j7⟩, fun o i ho => a6 o i (by omega) (by omega) (by omega), fun o i ho => a7 o i (by omega) (by omega) (by omega)⟩
theorem bz_opPrt : bz_op (fn_Law_print 1 109) (fn_Md_print 67) bz_Qt := by
  intro hc hm ⟨j1, j2, j3, ⟨T, S, t1, t2, t3, t4⟩, ⟨M, P, m1, m2, m3, m4, m5, m6⟩, j6, j7⟩
  rcases bz_print j1 j2 t1 t2 t3 m1 m2 j3 m4 m5 m6 with ⟨n, hc', hm', a1, a2, a3, a4, a5, a6, a7, a8, a9, b1, b2, b3, b4⟩ | ⟨n, hc', hm', a1, a3, a4, a5, a6, b2, b3, b4⟩
  · refine ⟨0, n, hc', hm', a1, a3, ⟨a4, fun _ => a2⟩, ⟨a5, a6, by rw [b2 109 (-1) (by omega)]; exact j3, ⟨S, T, by omega, a8, a9, a7⟩, ⟨M, P, m1, by rw [b1 6 (by omega) (by omega)]; exact m2, by rw [b1 7 (by omega) (by omega)]; exact m3, m4, bz_MC_same m1 m4 (fun o i o1 o2 => b2 o i (by omega)) m5, bz_MM_same (b4 7 (by omega) (by omega) (by omega)) (fun o i o1 o2 => b3 o i (by omega) (by omega) (by omega)) m6⟩, (j6.c (b2 63 2 (by omega)) (fun k => b2 64 k (by omega))).m (b4 58 (by omega) (by omega) (by omega)) (fun k => b3 106 k (by omega) (by omega) (by omega)), by rw [b1 8 (by omega) (by omega), b4 4 (by omega) (by omega) (by omega)]; exact j7⟩, fun o i ho => b2 o i (by omega), fun o i ho => b3 o i (by omega) (by omega) (by omega)⟩
  · refine ⟨1, n, hc', hm', a1, a3, ⟨a4, fun z => by omega⟩, ⟨a5, a6, by rw [b2 109 (-1) (by omega)]; exact j3, ⟨T, S, t1, by rw [b2 1 4 (by omega)]; exact t2, by rw [b2 1 5 (by omega)]; exact t3, (t4.c (b2 T 1 (by omega)) (fun k => b2 (T + 1) k (by omega))).m (b4 5 (by omega) (by omega)) (fun k => b3 71 k (by omega) (by omega))⟩, ⟨M, P, m1, by rw [b2 1 6 (by omega)]; exact m2, by rw [b2 1 7 (by omega)]; exact m3, m4, bz_MC_same m1 m4 (fun o i o1 o2 => b2 o i (by omega)) m5, bz_MM_same (b4 7 (by omega) (by omega)) (fun o i o1 o2 => b3 o i (by omega) (by omega)) m6⟩, (j6.c (b2 63 2 (by omega)) (fun k => b2 64 k (by omega))).m (b4 58 (by omega) (by omega)) (fun k => b3 106 k (by omega) (by omega)), by rw [b2 1 8 (by omega), b4 4 (by omega) (by omega)]; exact j7⟩, fun o i ho => b2 o i (by omega), fun o i ho => b3 o i (by omega) (by omega)⟩
theorem bz_opAsm (rd : bz_Rd) : bz_op (fn_Law_assemble 1 109) (fn_Md_assemble 67) bz_Qt := by
  intro hc hm ⟨j1, j2, j3, ⟨T, S, t1, t2, t3, t4⟩, ⟨M, P, m1, m2, m3, m4, m5, m6⟩, j6, j7⟩
  obtain ⟨k, b, hc', hm', a1, a2, a3, a4, a5, a6, a7, a8, a9, b1⟩ := bz_assem rd j1 j2 (show T = 2 ∨ T = 4 by omega) t2 m1 m2 m3 j3 t4 m4 m5 m6 j7
  refine ⟨k, b, hc', hm', a1, a2, ⟨a3, a4⟩, ⟨a5, a6, by rw [a9 109 (-1) (by omega)]; exact j3, ⟨T, S, t1, by rw [a9 1 4 (by omega)]; exact t2, by rw [a9 1 5 (by omega)]; exact t3, (t4.c (a9 T 1 (by omega)) (fun k => a9 (T + 1) k (by omega))).m (b1.2 5 (by omega)) (fun k => b1.1 71 k (by omega))⟩, a7, (j6.c (a9 63 2 (by omega)) (fun k => a9 64 k (by omega))).m (b1.2 58 (by omega)) (fun k => b1.1 106 k (by omega)), a8⟩, fun o i ho => a9 o i (by omega), fun o i ho => b1.1 o i (by omega)⟩
