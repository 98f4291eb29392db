section CKH
variable {h0 m0 hc hm P : qz_H} {M f d t : Int}
/-- one simple instruction, the model's side as it is written -/
theorem bz_simp1 (hM : M = 6 ∨ M = 18) (wf : bz_wf P) (k : bz_K h0 m0 hc hm M P f d t 0) (ht : t < 64) {x ty p c v : Int} (hx : -30 ≤ x) (hx1 : x ≤ -1) (hn : kz_dt x 3 = 1) (hty : kz_dt x 4 = ty) (hp : kz_dt x 5 = p) (p0 : 1 ≤ p) (p1 : p ≤ 2) (y0 : 1 ≤ ty) (y1 : ty ≤ 2) (hw : kz_dt x 6 = -x - 1) (hs : kz_dt (-33) (-x - 1) = 0)
    (hm1 : fn_Md_check 67 f c v hm = qz_bc (qz_bc (fn_Md_takeResult 67 ty hm) fun _ h2 => qz_bc (fn_Md_put 67 p h2) fun _ h2 => some (0, h2)) fun _ h => fn_Md_check_179 h) : bz_CE h0 m0 M P f d t (fn_Checker_check 48 x v hc) (fn_Md_check 67 f c v hm) := by
  obtain ⟨hc', hm', e1, e2, e3⟩ := (bz_sim hM wf k ht hx hx1 hn hty hp (by omega) p1 (Or.inr ⟨y0, y1⟩)).2.1 rfl
  rw [hm1, bz_ckC k.1.1 hx hx1 hw (by omega) (by omega) hs]
  obtain ⟨g, t', b', h1, m1, c1, c2, c3, c4⟩ := bz_tkR hM wf k y0 y1
  rw [c2, bz_bc, if_neg (by omega)] at e2
  refine ⟨hc', hm', e1, ?_, e3⟩
  rw [c2, bz_bc, e2]
  rfl
theorem bz_simp2 (hM : M = 6 ∨ M = 18) (wf : bz_wf P) (k : bz_K h0 m0 hc hm M P f d t 0) (ht : t < 64) {x ty p c v : Int} (hx : -30 ≤ x) (hx1 : x ≤ -1) (hn : kz_dt x 3 = 2) (hty : kz_dt x 4 = ty) (hp : kz_dt x 5 = p) (p0 : 1 ≤ p) (p1 : p ≤ 2) (y0 : 1 ≤ ty) (y1 : ty ≤ 2) (hw : kz_dt x 6 = -x - 1) (hs : kz_dt (-33) (-x - 1) = 0)
    (hm1 : fn_Md_check 67 f c v hm = qz_bc (qz_bc (fn_Md_takeResult 67 ty hm) fun _ h2 => qz_bc (fn_Md_takeResult 67 ty h2) fun _ h2 => qz_bc (fn_Md_put 67 p h2) fun _ h2 => some (0, h2)) fun _ h => fn_Md_check_179 h) : bz_CE h0 m0 M P f d t (fn_Checker_check 48 x v hc) (fn_Md_check 67 f c v hm) := by
  obtain ⟨hc', hm', e1, e2, e3⟩ := (bz_sim hM wf k ht hx hx1 hn hty hp (by omega) p1 (Or.inr ⟨y0, y1⟩)).2.2 rfl
  rw [hm1, bz_ckC k.1.1 hx hx1 hw (by omega) (by omega) hs]
  obtain ⟨g, t', b', h1, m1, c1, c2, c3, c4⟩ := bz_tkR hM wf k y0 y1
  obtain ⟨g', t'', b'', h2, m2, d1, d2, d3, d4⟩ := bz_tkR hM wf c3 y0 y1
  rw [c2, bz_bc, d2, bz_bc, if_neg (by omega)] at e2
  refine ⟨hc', hm', e1, ?_, e3⟩
  rw [c2, bz_bc, d2, bz_bc, e2]
  rfl
theorem bz_simp0 (hM : M = 6 ∨ M = 18) (wf : bz_wf P) (k : bz_K h0 m0 hc hm M P f d t 0) (ht : t < 64) {x p c v : Int} (hx : -30 ≤ x) (hx1 : x ≤ -1) (hn : kz_dt x 3 = 0) (hp : kz_dt x 5 = p) (p0 : 1 ≤ p) (p1 : p ≤ 2) (hw : kz_dt x 6 = -x - 1) (hs : kz_dt (-33) (-x - 1) = 0)
    (hm1 : fn_Md_check 67 f c v hm = qz_bc (fn_Md_put 67 p hm) fun _ h => fn_Md_check_179 h) : bz_CE h0 m0 M P f d t (fn_Checker_check 48 x v hc) (fn_Md_check 67 f c v hm) := by
  obtain ⟨hc', hm', e1, e2, e3⟩ := (bz_sim hM wf k ht hx hx1 hn rfl hp (by omega) p1 (Or.inl rfl)).1 rfl
  rw [hm1, bz_ckC k.1.1 hx hx1 hw (by omega) (by omega) hs]
  rw [if_neg (by omega)] at e2
  refine ⟨hc', hm', e1, ?_, e3⟩
  rw [e2]
  rfl
theorem bz_chk_0 (hM : M = 6 ∨ M = 18) (wf : bz_wf P) (k : bz_K h0 m0 hc hm M P f d t 0) (f0 : 0 ≤ f) (f1 : f < P 0 0) (ht : t < 64) {v : Int} (hL : bz_LC hc) (r6 : kz_dt (-1) 2 = 0 → v = 0) (r7 : kz_dt (-1) 2 = 1 → 0 ≤ v ∧ v ≤ 2) (r8 : (kz_dt (-1) 2 = 2 ∨ kz_dt (-1) 2 = 3 ∨ kz_dt (-1) 2 = 4) → 0 ≤ v ∧ v ≤ 4294967295) (n1 : 2 ≤ (0 : Int) ∧ (0 : Int) ≤ 4 → d ≤ 9) (n2 : (0 : Int) = 5 ∨ (0 : Int) = 11 → 1 ≤ d) : bz_CE h0 m0 M P f (d + bz_dl 0) t (fn_Checker_check 48 (-1) v hc) (fn_Md_check 67 f 0 v hm) := by
  rw [show bz_dl 0 = 0 from rfl, Int.add_zero]
  rw [bz_ckC hL (by omega) (by omega) (show kz_dt (-1) 6 = 0 from by decide +kernel) (by omega) (by omega) (show kz_dt (-33) 0 = 9 from by decide +kernel)]
  obtain ⟨t', h1, m1, e1, e2, e3, e4⟩ := bz_die hM wf k
  have z := (e3.ce (t := t) (by omega)).wr
  rw [← e1, ← e2] at z
  exact z
theorem bz_chk_1 (hM : M = 6 ∨ M = 18) (wf : bz_wf P) (k : bz_K h0 m0 hc hm M P f d t 0) (f0 : 0 ≤ f) (f1 : f < P 0 0) (ht : t < 64) {v : Int} (hL : bz_LC hc) (r6 : kz_dt (-2) 2 = 0 → v = 0) (r7 : kz_dt (-2) 2 = 1 → 0 ≤ v ∧ v ≤ 2) (r8 : (kz_dt (-2) 2 = 2 ∨ kz_dt (-2) 2 = 3 ∨ kz_dt (-2) 2 = 4) → 0 ≤ v ∧ v ≤ 4294967295) (n1 : 2 ≤ (1 : Int) ∧ (1 : Int) ≤ 4 → d ≤ 9) (n2 : (1 : Int) = 5 ∨ (1 : Int) = 11 → 1 ≤ d) : bz_CE h0 m0 M P f (d + bz_dl 1) t (fn_Checker_check 48 (-2) v hc) (fn_Md_check 67 f 1 v hm) := by
  rw [show bz_dl 1 = 0 from rfl, Int.add_zero]
  obtain ⟨hc', hm', e1, e2, e3⟩ := (bz_sim hM wf k ht (x := -2) (by omega) (by omega) rfl rfl rfl (by decide +kernel) (by decide +kernel) (Or.inl (by decide +kernel))).1 (by decide +kernel)
  rw [if_pos (by decide +kernel)] at e2
  rw [bz_ckC hL (by omega) (by omega) (show kz_dt (-2) 6 = 1 from by decide +kernel) (by omega) (by omega) (show kz_dt (-33) 1 = 0 from by decide +kernel)]
  exact ⟨hc', hm', e1, e2, e3⟩
theorem bz_chk_2 (hM : M = 6 ∨ M = 18) (wf : bz_wf P) (k : bz_K h0 m0 hc hm M P f d t 0) (f0 : 0 ≤ f) (f1 : f < P 0 0) (ht : t < 64) {v : Int} (hL : bz_LC hc) (r6 : kz_dt (-3) 2 = 0 → v = 0) (r7 : kz_dt (-3) 2 = 1 → 0 ≤ v ∧ v ≤ 2) (r8 : (kz_dt (-3) 2 = 2 ∨ kz_dt (-3) 2 = 3 ∨ kz_dt (-3) 2 = 4) → 0 ≤ v ∧ v ≤ 4294967295) (n1 : 2 ≤ (2 : Int) ∧ (2 : Int) ≤ 4 → d ≤ 9) (n2 : (2 : Int) = 5 ∨ (2 : Int) = 11 → 1 ≤ d) : bz_CE h0 m0 M P f (d + bz_dl 2) t (fn_Checker_check 48 (-3) v hc) (fn_Md_check 67 f 2 v hm) := by
  have hv := r7 (by decide +kernel)
  rw [bz_ckC hL (by omega) (by omega) (show kz_dt (-3) 6 = 2 from by decide +kernel) (by omega) (by omega) (show kz_dt (-33) 2 = 1 from by decide +kernel), show bz_dl 2 = 1 from rfl]
  obtain ⟨h1, m1, e1, e2, e3⟩ := bz_bgn hM wf k (n1 (by omega)) (x := -3) (cd := 2) hv.1 hv.2 (by omega)
  have z := (e3.ce (t := t) (by omega)).wr
  rw [← e1, ← e2] at z
  rw [show bz_csw 1 (-3) v hc = qz_bc (fn_Checker_beginFrame 48 (-3) (qz_w v) hc) fun _ h => fn_Checker_check_184 h from rfl, show fn_Md_check 67 f 2 v hm = qz_bc (fn_Md_control 67 2 (qz_w v) hm) fun _ h => fn_Md_check_179 h from rfl, bz_w (by omega) (by omega), show fn_Checker_beginFrame 48 (-3) v hc = fn_Checker_beginFrame_13 48 (-3) v hc from if_pos (by omega), show fn_Md_control 67 2 v hm = fn_Md_control_10 67 2 v hm from if_pos (by omega)]
  exact z
theorem bz_chk_3 (hM : M = 6 ∨ M = 18) (wf : bz_wf P) (k : bz_K h0 m0 hc hm M P f d t 0) (f0 : 0 ≤ f) (f1 : f < P 0 0) (ht : t < 64) {v : Int} (hL : bz_LC hc) (r6 : kz_dt (-4) 2 = 0 → v = 0) (r7 : kz_dt (-4) 2 = 1 → 0 ≤ v ∧ v ≤ 2) (r8 : (kz_dt (-4) 2 = 2 ∨ kz_dt (-4) 2 = 3 ∨ kz_dt (-4) 2 = 4) → 0 ≤ v ∧ v ≤ 4294967295) (n1 : 2 ≤ (3 : Int) ∧ (3 : Int) ≤ 4 → d ≤ 9) (n2 : (3 : Int) = 5 ∨ (3 : Int) = 11 → 1 ≤ d) : bz_CE h0 m0 M P f (d + bz_dl 3) t (fn_Checker_check 48 (-4) v hc) (fn_Md_check 67 f 3 v hm) := by
  have hv := r7 (by decide +kernel)
  rw [bz_ckC hL (by omega) (by omega) (show kz_dt (-4) 6 = 3 from by decide +kernel) (by omega) (by omega) (show kz_dt (-33) 3 = 2 from by decide +kernel), show bz_dl 3 = 1 from rfl]
  obtain ⟨h1, m1, e1, e2, e3⟩ := bz_bgn hM wf k (n1 (by omega)) (x := -4) (cd := 3) hv.1 hv.2 (by omega)
  have z := (e3.ce (t := t) (by omega)).wr
  rw [← e1, ← e2] at z
  rw [show bz_csw 2 (-4) v hc = qz_bc (fn_Checker_beginFrame 48 (-4) (qz_w v) hc) fun _ h => fn_Checker_check_184 h from rfl, show fn_Md_check 67 f 3 v hm = qz_bc (fn_Md_control 67 3 (qz_w v) hm) fun _ h => fn_Md_check_179 h from rfl, bz_w (by omega) (by omega), show fn_Checker_beginFrame 48 (-4) v hc = fn_Checker_beginFrame_13 48 (-4) v hc from if_pos (by omega), show fn_Md_control 67 3 v hm = fn_Md_control_10 67 3 v hm from if_pos (by omega)]
  exact z
theorem bz_chk_4 (hM : M = 6 ∨ M = 18) (wf : bz_wf P) (k : bz_K h0 m0 hc hm M P f d t 0) (f0 : 0 ≤ f) (f1 : f < P 0 0) (ht : t < 64) {v : Int} (hL : bz_LC hc) (r6 : kz_dt (-5) 2 = 0 → v = 0) (r7 : kz_dt (-5) 2 = 1 → 0 ≤ v ∧ v ≤ 2) (r8 : (kz_dt (-5) 2 = 2 ∨ kz_dt (-5) 2 = 3 ∨ kz_dt (-5) 2 = 4) → 0 ≤ v ∧ v ≤ 4294967295) (n1 : 2 ≤ (4 : Int) ∧ (4 : Int) ≤ 4 → d ≤ 9) (n2 : (4 : Int) = 5 ∨ (4 : Int) = 11 → 1 ≤ d) : bz_CE h0 m0 M P f (d + bz_dl 4) t (fn_Checker_check 48 (-5) v hc) (fn_Md_check 67 f 4 v hm) := by
  have hv := r7 (by decide +kernel)
  rw [bz_ckC hL (by omega) (by omega) (show kz_dt (-5) 6 = 4 from by decide +kernel) (by omega) (by omega) (show kz_dt (-33) 4 = 3 from by decide +kernel), show bz_dl 4 = 1 from rfl]
  obtain ⟨g, t', b', h1, m1, c1, c2, c3, c4⟩ := bz_tkR hM wf k (ty := 1) (by omega) (by omega)
  obtain ⟨h2, m2, e1, e2, e3⟩ := bz_bgn hM wf c3 (n1 (by omega)) (x := -5) (cd := 4) hv.1 hv.2 (by omega)
  have z := (e3.ce (t := t) (by omega)).wr
  rw [← e1, ← e2] at z
  rw [show bz_csw 3 (-5) v hc = qz_bc (fn_Checker_beginFrame 48 (-5) (qz_w v) hc) fun _ h => fn_Checker_check_184 h from rfl, show fn_Md_check 67 f 4 v hm = qz_bc (fn_Md_control 67 4 (qz_w v) hm) fun _ h => fn_Md_check_179 h from rfl, bz_w (by omega) (by omega), show fn_Checker_beginFrame 48 (-5) v hc = (qz_bc (fn_Checker_take 48 1 hc) fun _ h2 => fn_Checker_beginFrame_13 48 (-5) v h2) from if_neg (fun w => w rfl), show fn_Md_control 67 4 v hm = (qz_bc (fn_Md_takeResult 67 1 hm) fun _ h2 => fn_Md_control_10 67 4 v h2) from if_neg (fun w => w rfl), c1, c2, bz_bc, bz_bc]
  exact z
theorem bz_chk_5 (hM : M = 6 ∨ M = 18) (wf : bz_wf P) (k : bz_K h0 m0 hc hm M P f d t 0) (f0 : 0 ≤ f) (f1 : f < P 0 0) (ht : t < 64) {v : Int} (hL : bz_LC hc) (r6 : kz_dt (-6) 2 = 0 → v = 0) (r7 : kz_dt (-6) 2 = 1 → 0 ≤ v ∧ v ≤ 2) (r8 : (kz_dt (-6) 2 = 2 ∨ kz_dt (-6) 2 = 3 ∨ kz_dt (-6) 2 = 4) → 0 ≤ v ∧ v ≤ 4294967295) (n1 : 2 ≤ (5 : Int) ∧ (5 : Int) ≤ 4 → d ≤ 9) (n2 : (5 : Int) = 5 ∨ (5 : Int) = 11 → 1 ≤ d) : bz_CE h0 m0 M P f (d + bz_dl 5) t (fn_Checker_check 48 (-6) v hc) (fn_Md_check 67 f 5 v hm) := by
  rw [show bz_dl 5 = 0 from rfl, Int.add_zero]
  have hv := r6 (by decide +kernel)
  subst hv
  rw [bz_ckC hL (by omega) (by omega) (show kz_dt (-6) 6 = 5 from by decide +kernel) (by omega) (by omega) (show kz_dt (-33) 5 = 4 from by decide +kernel)]
  obtain ⟨h1, h2, m1, e1, e2, e3, e4⟩ := bz_else hM wf k
  rw [show bz_csw 4 (-6) 0 hc = qz_bc (fn_Checker_endFrame 48 hc) (fun _ h10 => qz_bc (fn_Checker_restartFrame 48 h10) fun _ h12 => fn_Checker_check_184 h12) from rfl, show fn_Md_check 67 f 5 0 hm = qz_bc (fn_Md_control 67 5 (qz_w 0) hm) fun _ h => fn_Md_check_179 h from rfl, show qz_w 0 = 0 from by decide +kernel, show fn_Md_control 67 5 0 hm = fn_Md_control_10 67 5 0 hm from if_pos (by omega), e1, bz_bc, e2, bz_bc, e3, bz_bc]
  exact ⟨h2, m1, rfl, rfl, e4.imp (fun ⟨t', a, b⟩ => ⟨t', a, by omega⟩) id⟩
theorem bz_chk_6 (hM : M = 6 ∨ M = 18) (wf : bz_wf P) (k : bz_K h0 m0 hc hm M P f d t 0) (f0 : 0 ≤ f) (f1 : f < P 0 0) (ht : t < 64) {v : Int} (hL : bz_LC hc) (r6 : kz_dt (-7) 2 = 0 → v = 0) (r7 : kz_dt (-7) 2 = 1 → 0 ≤ v ∧ v ≤ 2) (r8 : (kz_dt (-7) 2 = 2 ∨ kz_dt (-7) 2 = 3 ∨ kz_dt (-7) 2 = 4) → 0 ≤ v ∧ v ≤ 4294967295) (n1 : 2 ≤ (11 : Int) ∧ (11 : Int) ≤ 4 → d ≤ 9) (n2 : (11 : Int) = 5 ∨ (11 : Int) = 11 → 1 ≤ d) : bz_CE h0 m0 M P f (d + bz_dl 11) t (fn_Checker_check 48 (-7) v hc) (fn_Md_check 67 f 11 v hm) := by
  have hv := r6 (by decide +kernel)
  subst hv
  rw [bz_ckC hL (by omega) (by omega) (show kz_dt (-7) 6 = 6 from by decide +kernel) (by omega) (by omega) (show kz_dt (-33) 6 = 5 from by decide +kernel), show bz_dl 11 = -1 from rfl, show d + -1 = d - 1 from rfl]
  obtain ⟨h2, m1, e1, e3, e4⟩ := bz_leave hM wf k (n2 (by omega)) ht
  rw [show bz_csw 5 (-7) 0 hc = qz_bc (fn_Checker_leaveFrame 48 hc) (fun _ h12 => fn_Checker_check_184 h12) from rfl, show fn_Md_check 67 f 11 0 hm = qz_bc (fn_Md_control 67 11 (qz_w 0) hm) fun _ h => fn_Md_check_179 h from rfl, show qz_w 0 = 0 from by decide +kernel, show fn_Md_control 67 11 0 hm = fn_Md_control_10 67 11 0 hm from if_pos (by omega), e1, bz_bc, e3, bz_bc]
  exact ⟨h2, m1, rfl, rfl, e4⟩
theorem bz_chk_7 (hM : M = 6 ∨ M = 18) (wf : bz_wf P) (k : bz_K h0 m0 hc hm M P f d t 0) (f0 : 0 ≤ f) (f1 : f < P 0 0) (ht : t < 64) {v : Int} (hL : bz_LC hc) (r6 : kz_dt (-8) 2 = 0 → v = 0) (r7 : kz_dt (-8) 2 = 1 → 0 ≤ v ∧ v ≤ 2) (r8 : (kz_dt (-8) 2 = 2 ∨ kz_dt (-8) 2 = 3 ∨ kz_dt (-8) 2 = 4) → 0 ≤ v ∧ v ≤ 4294967295) (n1 : 2 ≤ (12 : Int) ∧ (12 : Int) ≤ 4 → d ≤ 9) (n2 : (12 : Int) = 5 ∨ (12 : Int) = 11 → 1 ≤ d) : bz_CE h0 m0 M P f (d + bz_dl 12) t (fn_Checker_check 48 (-8) v hc) (fn_Md_check 67 f 12 v hm) := by
  rw [show bz_dl 12 = 0 from rfl, Int.add_zero]
  have hv := r8 (by decide +kernel)
  rw [bz_ckC hL (by omega) (by omega) (show kz_dt (-8) 6 = 7 from by decide +kernel) (by omega) (by omega) (show kz_dt (-33) 7 = 6 from by decide +kernel)]
  exact (bz_brn hM wf k ht (x := -8) (c := 12) (by omega) hv.1 hv.2).wr
theorem bz_chk_8 (hM : M = 6 ∨ M = 18) (wf : bz_wf P) (k : bz_K h0 m0 hc hm M P f d t 0) (f0 : 0 ≤ f) (f1 : f < P 0 0) (ht : t < 64) {v : Int} (hL : bz_LC hc) (r6 : kz_dt (-9) 2 = 0 → v = 0) (r7 : kz_dt (-9) 2 = 1 → 0 ≤ v ∧ v ≤ 2) (r8 : (kz_dt (-9) 2 = 2 ∨ kz_dt (-9) 2 = 3 ∨ kz_dt (-9) 2 = 4) → 0 ≤ v ∧ v ≤ 4294967295) (n1 : 2 ≤ (13 : Int) ∧ (13 : Int) ≤ 4 → d ≤ 9) (n2 : (13 : Int) = 5 ∨ (13 : Int) = 11 → 1 ≤ d) : bz_CE h0 m0 M P f (d + bz_dl 13) t (fn_Checker_check 48 (-9) v hc) (fn_Md_check 67 f 13 v hm) := by
  rw [show bz_dl 13 = 0 from rfl, Int.add_zero]
  have hv := r8 (by decide +kernel)
  rw [bz_ckC hL (by omega) (by omega) (show kz_dt (-9) 6 = 8 from by decide +kernel) (by omega) (by omega) (show kz_dt (-33) 8 = 7 from by decide +kernel)]
  exact (bz_brn hM wf k ht (x := -9) (c := 13) (by omega) hv.1 hv.2).wr
theorem bz_chk_9 (hM : M = 6 ∨ M = 18) (wf : bz_wf P) (k : bz_K h0 m0 hc hm M P f d t 0) (f0 : 0 ≤ f) (f1 : f < P 0 0) (ht : t < 64) {v : Int} (hL : bz_LC hc) (r6 : kz_dt (-10) 2 = 0 → v = 0) (r7 : kz_dt (-10) 2 = 1 → 0 ≤ v ∧ v ≤ 2) (r8 : (kz_dt (-10) 2 = 2 ∨ kz_dt (-10) 2 = 3 ∨ kz_dt (-10) 2 = 4) → 0 ≤ v ∧ v ≤ 4294967295) (n1 : 2 ≤ (15 : Int) ∧ (15 : Int) ≤ 4 → d ≤ 9) (n2 : (15 : Int) = 5 ∨ (15 : Int) = 11 → 1 ≤ d) : bz_CE h0 m0 M P f (d + bz_dl 15) t (fn_Checker_check 48 (-10) v hc) (fn_Md_check 67 f 15 v hm) := by
  rw [show bz_dl 15 = 0 from rfl, Int.add_zero]
  rw [bz_ckC hL (by omega) (by omega) (show kz_dt (-10) 6 = 9 from by decide +kernel) (by omega) (by omega) (show kz_dt (-33) 9 = 8 from by decide +kernel)]
  have hf := wf.2.2 f f0 f1
  obtain ⟨t', b', h1, m1, e1, e2, e3, e4, e5⟩ := bz_tres hM wf k hf.2.2.2.2.1 hf.2.2.2.2.2.1
  obtain ⟨t2, h2, m2, g1, g2, g3, g4⟩ := bz_die hM wf e3
  have w4 := wf.2.1
  rw [show bz_csw 8 (-10) v hc = (qz_ck ((hc 48 3 : Int) ≠ 0) <| qz_bc (fn_Checker_takeResult 48 (hc (hc 48 3) 3) hc) fun _ h20 => qz_bc (fn_Checker_makeUnreachable 48 h20) fun _ h22 => fn_Checker_check_184 h22) from rfl, show fn_Md_check 67 f 15 v hm = (qz_ck ((hm 67 18 : Int) ≠ 0) <| qz_ck ((0 : Int) ≤ f ∧ f < hm (hm 67 18) (-1)) <| qz_bc (fn_Md_takeResult 67 (hm (hm 67 18) f) hm) fun _ h11 => qz_bc (fn_Md_die 67 h11) fun _ h13 => fn_Md_check_179 h13) from rfl, k.1.2.2.2.1, (k.1.2.1.2 f f0 f1).2.2.1, bz_ck (show M + 4 + 2 * f ≠ 0 by omega), bz_m67_18 k.2.1.1, bz_m81_m1 k.2.1.1, bz_ck (show (81 : Int) ≠ 0 by omega), bz_ck (show 0 ≤ f ∧ f < 4 by omega), (k.2.1.2.1.2 f f0 f1).2.2.1, e1, e2, bz_bc, bz_bc, g1, g2, bz_bc, bz_bc]
  exact g3.ce (by omega)
theorem bz_chk_10 (hM : M = 6 ∨ M = 18) (wf : bz_wf P) (k : bz_K h0 m0 hc hm M P f d t 0) (f0 : 0 ≤ f) (f1 : f < P 0 0) (ht : t < 64) {v : Int} (hL : bz_LC hc) (r6 : kz_dt (-11) 2 = 0 → v = 0) (r7 : kz_dt (-11) 2 = 1 → 0 ≤ v ∧ v ≤ 2) (r8 : (kz_dt (-11) 2 = 2 ∨ kz_dt (-11) 2 = 3 ∨ kz_dt (-11) 2 = 4) → 0 ≤ v ∧ v ≤ 4294967295) (n1 : 2 ≤ (16 : Int) ∧ (16 : Int) ≤ 4 → d ≤ 9) (n2 : (16 : Int) = 5 ∨ (16 : Int) = 11 → 1 ≤ d) : bz_CE h0 m0 M P f (d + bz_dl 16) t (fn_Checker_check 48 (-11) v hc) (fn_Md_check 67 f 16 v hm) := by
  rw [show bz_dl 16 = 0 from rfl, Int.add_zero]
  have hv := r8 (by decide +kernel)
  rw [bz_ckC hL (by omega) (by omega) (show kz_dt (-11) 6 = 10 from by decide +kernel) (by omega) (by omega) (show kz_dt (-33) 10 = 10 from by decide +kernel)]
  exact (bz_callc hM wf k ht hv.1 hv.2).wr
theorem bz_chk_11 (hM : M = 6 ∨ M = 18) (wf : bz_wf P) (k : bz_K h0 m0 hc hm M P f d t 0) (f0 : 0 ≤ f) (f1 : f < P 0 0) (ht : t < 64) {v : Int} (hL : bz_LC hc) (r6 : kz_dt (-12) 2 = 0 → v = 0) (r7 : kz_dt (-12) 2 = 1 → 0 ≤ v ∧ v ≤ 2) (r8 : (kz_dt (-12) 2 = 2 ∨ kz_dt (-12) 2 = 3 ∨ kz_dt (-12) 2 = 4) → 0 ≤ v ∧ v ≤ 4294967295) (n1 : 2 ≤ (26 : Int) ∧ (26 : Int) ≤ 4 → d ≤ 9) (n2 : (26 : Int) = 5 ∨ (26 : Int) = 11 → 1 ≤ d) : bz_CE h0 m0 M P f (d + bz_dl 26) t (fn_Checker_check 48 (-12) v hc) (fn_Md_check 67 f 26 v hm) := by
  rw [show bz_dl 26 = 0 from rfl, Int.add_zero]
  rw [bz_ckC hL (by omega) (by omega) (show kz_dt (-12) 6 = 11 from by decide +kernel) (by omega) (by omega) (show kz_dt (-33) 11 = 11 from by decide +kernel)]
  obtain ⟨g, t', b', h1, m1, c1, c2, c3, c4, c5, c6⟩ := bz_take hM wf k (tc := 3) (by omega) (by omega)
  rw [show bz_sv 3 = 0 from if_pos rfl] at c2
  rw [show bz_csw 11 (-12) v hc = qz_bc (fn_Checker_take 48 3 hc) (fun _ h12 => fn_Checker_check_184 h12) from rfl, show fn_Md_check 67 f 26 v hm = qz_bc (fn_Md_take 67 0 hm) fun _ h => fn_Md_check_179 h from rfl, c1, c2, bz_bc, bz_bc]
  exact c3.ce (by omega)
theorem bz_chk_12 (hM : M = 6 ∨ M = 18) (wf : bz_wf P) (k : bz_K h0 m0 hc hm M P f d t 0) (f0 : 0 ≤ f) (f1 : f < P 0 0) (ht : t < 64) {v : Int} (hL : bz_LC hc) (r6 : kz_dt (-13) 2 = 0 → v = 0) (r7 : kz_dt (-13) 2 = 1 → 0 ≤ v ∧ v ≤ 2) (r8 : (kz_dt (-13) 2 = 2 ∨ kz_dt (-13) 2 = 3 ∨ kz_dt (-13) 2 = 4) → 0 ≤ v ∧ v ≤ 4294967295) (n1 : 2 ≤ (27 : Int) ∧ (27 : Int) ≤ 4 → d ≤ 9) (n2 : (27 : Int) = 5 ∨ (27 : Int) = 11 → 1 ≤ d) : bz_CE h0 m0 M P f (d + bz_dl 27) t (fn_Checker_check 48 (-13) v hc) (fn_Md_check 67 f 27 v hm) := by
  rw [show bz_dl 27 = 0 from rfl, Int.add_zero]
  rw [bz_ckC hL (by omega) (by omega) (show kz_dt (-13) 6 = 12 from by decide +kernel) (by omega) (by omega) (show kz_dt (-33) 12 = 12 from by decide +kernel)]
  exact (bz_selct hM wf k ht).wr
theorem bz_chk_13 (hM : M = 6 ∨ M = 18) (wf : bz_wf P) (k : bz_K h0 m0 hc hm M P f d t 0) (f0 : 0 ≤ f) (f1 : f < P 0 0) (ht : t < 64) {v : Int} (hL : bz_LC hc) (r6 : kz_dt (-14) 2 = 0 → v = 0) (r7 : kz_dt (-14) 2 = 1 → 0 ≤ v ∧ v ≤ 2) (r8 : (kz_dt (-14) 2 = 2 ∨ kz_dt (-14) 2 = 3 ∨ kz_dt (-14) 2 = 4) → 0 ≤ v ∧ v ≤ 4294967295) (n1 : 2 ≤ (32 : Int) ∧ (32 : Int) ≤ 4 → d ≤ 9) (n2 : (32 : Int) = 5 ∨ (32 : Int) = 11 → 1 ≤ d) : bz_CE h0 m0 M P f (d + bz_dl 32) t (fn_Checker_check 48 (-14) v hc) (fn_Md_check 67 f 32 v hm) := by
  rw [show bz_dl 32 = 0 from rfl, Int.add_zero]
  have hv := r8 (by decide +kernel)
  rw [bz_ckC hL (by omega) (by omega) (show kz_dt (-14) 6 = 13 from by decide +kernel) (by omega) (by omega) (show kz_dt (-33) 13 = 13 from by decide +kernel)]
  exact (bz_slot hM wf k f0 f1 ht (x := -14) (c := 32) (by omega) hv.1 hv.2).wr
theorem bz_chk_14 (hM : M = 6 ∨ M = 18) (wf : bz_wf P) (k : bz_K h0 m0 hc hm M P f d t 0) (f0 : 0 ≤ f) (f1 : f < P 0 0) (ht : t < 64) {v : Int} (hL : bz_LC hc) (r6 : kz_dt (-15) 2 = 0 → v = 0) (r7 : kz_dt (-15) 2 = 1 → 0 ≤ v ∧ v ≤ 2) (r8 : (kz_dt (-15) 2 = 2 ∨ kz_dt (-15) 2 = 3 ∨ kz_dt (-15) 2 = 4) → 0 ≤ v ∧ v ≤ 4294967295) (n1 : 2 ≤ (33 : Int) ∧ (33 : Int) ≤ 4 → d ≤ 9) (n2 : (33 : Int) = 5 ∨ (33 : Int) = 11 → 1 ≤ d) : bz_CE h0 m0 M P f (d + bz_dl 33) t (fn_Checker_check 48 (-15) v hc) (fn_Md_check 67 f 33 v hm) := by
  rw [show bz_dl 33 = 0 from rfl, Int.add_zero]
  have hv := r8 (by decide +kernel)
  rw [bz_ckC hL (by omega) (by omega) (show kz_dt (-15) 6 = 14 from by decide +kernel) (by omega) (by omega) (show kz_dt (-33) 14 = 14 from by decide +kernel)]
  exact (bz_slot hM wf k f0 f1 ht (x := -15) (c := 33) (by omega) hv.1 hv.2).wr
theorem bz_chk_15 (hM : M = 6 ∨ M = 18) (wf : bz_wf P) (k : bz_K h0 m0 hc hm M P f d t 0) (f0 : 0 ≤ f) (f1 : f < P 0 0) (ht : t < 64) {v : Int} (hL : bz_LC hc) (r6 : kz_dt (-16) 2 = 0 → v = 0) (r7 : kz_dt (-16) 2 = 1 → 0 ≤ v ∧ v ≤ 2) (r8 : (kz_dt (-16) 2 = 2 ∨ kz_dt (-16) 2 = 3 ∨ kz_dt (-16) 2 = 4) → 0 ≤ v ∧ v ≤ 4294967295) (n1 : 2 ≤ (34 : Int) ∧ (34 : Int) ≤ 4 → d ≤ 9) (n2 : (34 : Int) = 5 ∨ (34 : Int) = 11 → 1 ≤ d) : bz_CE h0 m0 M P f (d + bz_dl 34) t (fn_Checker_check 48 (-16) v hc) (fn_Md_check 67 f 34 v hm) := by
  rw [show bz_dl 34 = 0 from rfl, Int.add_zero]
  have hv := r8 (by decide +kernel)
  rw [bz_ckC hL (by omega) (by omega) (show kz_dt (-16) 6 = 15 from by decide +kernel) (by omega) (by omega) (show kz_dt (-33) 15 = 15 from by decide +kernel)]
  exact (bz_slot hM wf k f0 f1 ht (x := -16) (c := 34) (by omega) hv.1 hv.2).wr
theorem bz_chk_16 (hM : M = 6 ∨ M = 18) (wf : bz_wf P) (k : bz_K h0 m0 hc hm M P f d t 0) (f0 : 0 ≤ f) (f1 : f < P 0 0) (ht : t < 64) {v : Int} (hL : bz_LC hc) (r6 : kz_dt (-17) 2 = 0 → v = 0) (r7 : kz_dt (-17) 2 = 1 → 0 ≤ v ∧ v ≤ 2) (r8 : (kz_dt (-17) 2 = 2 ∨ kz_dt (-17) 2 = 3 ∨ kz_dt (-17) 2 = 4) → 0 ≤ v ∧ v ≤ 4294967295) (n1 : 2 ≤ (65 : Int) ∧ (65 : Int) ≤ 4 → d ≤ 9) (n2 : (65 : Int) = 5 ∨ (65 : Int) = 11 → 1 ≤ d) : bz_CE h0 m0 M P f (d + bz_dl 65) t (fn_Checker_check 48 (-17) v hc) (fn_Md_check 67 f 65 v hm) := by
  rw [show bz_dl 65 = 0 from rfl, Int.add_zero]
  exact bz_simp0 hM wf k ht (by omega) (by omega) (by decide +kernel) (show kz_dt (-17) 5 = 1 from by decide +kernel) (by omega) (by omega) (by decide +kernel) (by decide +kernel) (by rw [show fn_Md_check 67 f 65 v hm = qz_bc (fn_Md_put 67 (qz_w (65 - 64)) hm) fun _ h => fn_Md_check_179 h from rfl, show qz_w (65 - 64) = 1 from by decide +kernel])
theorem bz_chk_17 (hM : M = 6 ∨ M = 18) (wf : bz_wf P) (k : bz_K h0 m0 hc hm M P f d t 0) (f0 : 0 ≤ f) (f1 : f < P 0 0) (ht : t < 64) {v : Int} (hL : bz_LC hc) (r6 : kz_dt (-18) 2 = 0 → v = 0) (r7 : kz_dt (-18) 2 = 1 → 0 ≤ v ∧ v ≤ 2) (r8 : (kz_dt (-18) 2 = 2 ∨ kz_dt (-18) 2 = 3 ∨ kz_dt (-18) 2 = 4) → 0 ≤ v ∧ v ≤ 4294967295) (n1 : 2 ≤ (66 : Int) ∧ (66 : Int) ≤ 4 → d ≤ 9) (n2 : (66 : Int) = 5 ∨ (66 : Int) = 11 → 1 ≤ d) : bz_CE h0 m0 M P f (d + bz_dl 66) t (fn_Checker_check 48 (-18) v hc) (fn_Md_check 67 f 66 v hm) := by
  rw [show bz_dl 66 = 0 from rfl, Int.add_zero]
  exact bz_simp0 hM wf k ht (by omega) (by omega) (by decide +kernel) (show kz_dt (-18) 5 = 2 from by decide +kernel) (by omega) (by omega) (by decide +kernel) (by decide +kernel) (by rw [show fn_Md_check 67 f 66 v hm = qz_bc (fn_Md_put 67 (qz_w (66 - 64)) hm) fun _ h => fn_Md_check_179 h from rfl, show qz_w (66 - 64) = 2 from by decide +kernel])
theorem bz_chk_18 (hM : M = 6 ∨ M = 18) (wf : bz_wf P) (k : bz_K h0 m0 hc hm M P f d t 0) (f0 : 0 ≤ f) (f1 : f < P 0 0) (ht : t < 64) {v : Int} (hL : bz_LC hc) (r6 : kz_dt (-19) 2 = 0 → v = 0) (r7 : kz_dt (-19) 2 = 1 → 0 ≤ v ∧ v ≤ 2) (r8 : (kz_dt (-19) 2 = 2 ∨ kz_dt (-19) 2 = 3 ∨ kz_dt (-19) 2 = 4) → 0 ≤ v ∧ v ≤ 4294967295) (n1 : 2 ≤ (69 : Int) ∧ (69 : Int) ≤ 4 → d ≤ 9) (n2 : (69 : Int) = 5 ∨ (69 : Int) = 11 → 1 ≤ d) : bz_CE h0 m0 M P f (d + bz_dl 69) t (fn_Checker_check 48 (-19) v hc) (fn_Md_check 67 f 69 v hm) := by
  rw [show bz_dl 69 = 0 from rfl, Int.add_zero]
  exact bz_simp1 hM wf k ht (by omega) (by omega) (by decide +kernel) (show kz_dt (-19) 4 = 1 from by decide +kernel) (show kz_dt (-19) 5 = 1 from by decide +kernel) (by omega) (by omega) (by omega) (by omega) (by decide +kernel) (by decide +kernel) rfl
theorem bz_chk_19 (hM : M = 6 ∨ M = 18) (wf : bz_wf P) (k : bz_K h0 m0 hc hm M P f d t 0) (f0 : 0 ≤ f) (f1 : f < P 0 0) (ht : t < 64) {v : Int} (hL : bz_LC hc) (r6 : kz_dt (-20) 2 = 0 → v = 0) (r7 : kz_dt (-20) 2 = 1 → 0 ≤ v ∧ v ≤ 2) (r8 : (kz_dt (-20) 2 = 2 ∨ kz_dt (-20) 2 = 3 ∨ kz_dt (-20) 2 = 4) → 0 ≤ v ∧ v ≤ 4294967295) (n1 : 2 ≤ (70 : Int) ∧ (70 : Int) ≤ 4 → d ≤ 9) (n2 : (70 : Int) = 5 ∨ (70 : Int) = 11 → 1 ≤ d) : bz_CE h0 m0 M P f (d + bz_dl 70) t (fn_Checker_check 48 (-20) v hc) (fn_Md_check 67 f 70 v hm) := by
  rw [show bz_dl 70 = 0 from rfl, Int.add_zero]
  exact bz_simp2 hM wf k ht (by omega) (by omega) (by decide +kernel) (show kz_dt (-20) 4 = 1 from by decide +kernel) (show kz_dt (-20) 5 = 1 from by decide +kernel) (by omega) (by omega) (by omega) (by omega) (by decide +kernel) (by decide +kernel) rfl
theorem bz_chk_20 (hM : M = 6 ∨ M = 18) (wf : bz_wf P) (k : bz_K h0 m0 hc hm M P f d t 0) (f0 : 0 ≤ f) (f1 : f < P 0 0) (ht : t < 64) {v : Int} (hL : bz_LC hc) (r6 : kz_dt (-21) 2 = 0 → v = 0) (r7 : kz_dt (-21) 2 = 1 → 0 ≤ v ∧ v ≤ 2) (r8 : (kz_dt (-21) 2 = 2 ∨ kz_dt (-21) 2 = 3 ∨ kz_dt (-21) 2 = 4) → 0 ≤ v ∧ v ≤ 4294967295) (n1 : 2 ≤ (72 : Int) ∧ (72 : Int) ≤ 4 → d ≤ 9) (n2 : (72 : Int) = 5 ∨ (72 : Int) = 11 → 1 ≤ d) : bz_CE h0 m0 M P f (d + bz_dl 72) t (fn_Checker_check 48 (-21) v hc) (fn_Md_check 67 f 72 v hm) := by
  rw [show bz_dl 72 = 0 from rfl, Int.add_zero]
  exact bz_simp2 hM wf k ht (by omega) (by omega) (by decide +kernel) (show kz_dt (-21) 4 = 1 from by decide +kernel) (show kz_dt (-21) 5 = 1 from by decide +kernel) (by omega) (by omega) (by omega) (by omega) (by decide +kernel) (by decide +kernel) rfl
theorem bz_chk_21 (hM : M = 6 ∨ M = 18) (wf : bz_wf P) (k : bz_K h0 m0 hc hm M P f d t 0) (f0 : 0 ≤ f) (f1 : f < P 0 0) (ht : t < 64) {v : Int} (hL : bz_LC hc) (r6 : kz_dt (-22) 2 = 0 → v = 0) (r7 : kz_dt (-22) 2 = 1 → 0 ≤ v ∧ v ≤ 2) (r8 : (kz_dt (-22) 2 = 2 ∨ kz_dt (-22) 2 = 3 ∨ kz_dt (-22) 2 = 4) → 0 ≤ v ∧ v ≤ 4294967295) (n1 : 2 ≤ (80 : Int) ∧ (80 : Int) ≤ 4 → d ≤ 9) (n2 : (80 : Int) = 5 ∨ (80 : Int) = 11 → 1 ≤ d) : bz_CE h0 m0 M P f (d + bz_dl 80) t (fn_Checker_check 48 (-22) v hc) (fn_Md_check 67 f 80 v hm) := by
  rw [show bz_dl 80 = 0 from rfl, Int.add_zero]
  exact bz_simp1 hM wf k ht (by omega) (by omega) (by decide +kernel) (show kz_dt (-22) 4 = 2 from by decide +kernel) (show kz_dt (-22) 5 = 1 from by decide +kernel) (by omega) (by omega) (by omega) (by omega) (by decide +kernel) (by decide +kernel) rfl
theorem bz_chk_22 (hM : M = 6 ∨ M = 18) (wf : bz_wf P) (k : bz_K h0 m0 hc hm M P f d t 0) (f0 : 0 ≤ f) (f1 : f < P 0 0) (ht : t < 64) {v : Int} (hL : bz_LC hc) (r6 : kz_dt (-23) 2 = 0 → v = 0) (r7 : kz_dt (-23) 2 = 1 → 0 ≤ v ∧ v ≤ 2) (r8 : (kz_dt (-23) 2 = 2 ∨ kz_dt (-23) 2 = 3 ∨ kz_dt (-23) 2 = 4) → 0 ≤ v ∧ v ≤ 4294967295) (n1 : 2 ≤ (81 : Int) ∧ (81 : Int) ≤ 4 → d ≤ 9) (n2 : (81 : Int) = 5 ∨ (81 : Int) = 11 → 1 ≤ d) : bz_CE h0 m0 M P f (d + bz_dl 81) t (fn_Checker_check 48 (-23) v hc) (fn_Md_check 67 f 81 v hm) := by
  rw [show bz_dl 81 = 0 from rfl, Int.add_zero]
  exact bz_simp2 hM wf k ht (by omega) (by omega) (by decide +kernel) (show kz_dt (-23) 4 = 2 from by decide +kernel) (show kz_dt (-23) 5 = 1 from by decide +kernel) (by omega) (by omega) (by omega) (by omega) (by decide +kernel) (by decide +kernel) rfl
theorem bz_chk_23 (hM : M = 6 ∨ M = 18) (wf : bz_wf P) (k : bz_K h0 m0 hc hm M P f d t 0) (f0 : 0 ≤ f) (f1 : f < P 0 0) (ht : t < 64) {v : Int} (hL : bz_LC hc) (r6 : kz_dt (-24) 2 = 0 → v = 0) (r7 : kz_dt (-24) 2 = 1 → 0 ≤ v ∧ v ≤ 2) (r8 : (kz_dt (-24) 2 = 2 ∨ kz_dt (-24) 2 = 3 ∨ kz_dt (-24) 2 = 4) → 0 ≤ v ∧ v ≤ 4294967295) (n1 : 2 ≤ (106 : Int) ∧ (106 : Int) ≤ 4 → d ≤ 9) (n2 : (106 : Int) = 5 ∨ (106 : Int) = 11 → 1 ≤ d) : bz_CE h0 m0 M P f (d + bz_dl 106) t (fn_Checker_check 48 (-24) v hc) (fn_Md_check 67 f 106 v hm) := by
  rw [show bz_dl 106 = 0 from rfl, Int.add_zero]
  exact bz_simp2 hM wf k ht (by omega) (by omega) (by decide +kernel) (show kz_dt (-24) 4 = 1 from by decide +kernel) (show kz_dt (-24) 5 = 1 from by decide +kernel) (by omega) (by omega) (by omega) (by omega) (by decide +kernel) (by decide +kernel) rfl
theorem bz_chk_24 (hM : M = 6 ∨ M = 18) (wf : bz_wf P) (k : bz_K h0 m0 hc hm M P f d t 0) (f0 : 0 ≤ f) (f1 : f < P 0 0) (ht : t < 64) {v : Int} (hL : bz_LC hc) (r6 : kz_dt (-25) 2 = 0 → v = 0) (r7 : kz_dt (-25) 2 = 1 → 0 ≤ v ∧ v ≤ 2) (r8 : (kz_dt (-25) 2 = 2 ∨ kz_dt (-25) 2 = 3 ∨ kz_dt (-25) 2 = 4) → 0 ≤ v ∧ v ≤ 4294967295) (n1 : 2 ≤ (107 : Int) ∧ (107 : Int) ≤ 4 → d ≤ 9) (n2 : (107 : Int) = 5 ∨ (107 : Int) = 11 → 1 ≤ d) : bz_CE h0 m0 M P f (d + bz_dl 107) t (fn_Checker_check 48 (-25) v hc) (fn_Md_check 67 f 107 v hm) := by
  rw [show bz_dl 107 = 0 from rfl, Int.add_zero]
  exact bz_simp2 hM wf k ht (by omega) (by omega) (by decide +kernel) (show kz_dt (-25) 4 = 1 from by decide +kernel) (show kz_dt (-25) 5 = 1 from by decide +kernel) (by omega) (by omega) (by omega) (by omega) (by decide +kernel) (by decide +kernel) rfl
theorem bz_chk_25 (hM : M = 6 ∨ M = 18) (wf : bz_wf P) (k : bz_K h0 m0 hc hm M P f d t 0) (f0 : 0 ≤ f) (f1 : f < P 0 0) (ht : t < 64) {v : Int} (hL : bz_LC hc) (r6 : kz_dt (-26) 2 = 0 → v = 0) (r7 : kz_dt (-26) 2 = 1 → 0 ≤ v ∧ v ≤ 2) (r8 : (kz_dt (-26) 2 = 2 ∨ kz_dt (-26) 2 = 3 ∨ kz_dt (-26) 2 = 4) → 0 ≤ v ∧ v ≤ 4294967295) (n1 : 2 ≤ (108 : Int) ∧ (108 : Int) ≤ 4 → d ≤ 9) (n2 : (108 : Int) = 5 ∨ (108 : Int) = 11 → 1 ≤ d) : bz_CE h0 m0 M P f (d + bz_dl 108) t (fn_Checker_check 48 (-26) v hc) (fn_Md_check 67 f 108 v hm) := by
  rw [show bz_dl 108 = 0 from rfl, Int.add_zero]
  exact bz_simp2 hM wf k ht (by omega) (by omega) (by decide +kernel) (show kz_dt (-26) 4 = 1 from by decide +kernel) (show kz_dt (-26) 5 = 1 from by decide +kernel) (by omega) (by omega) (by omega) (by omega) (by decide +kernel) (by decide +kernel) rfl
theorem bz_chk_26 (hM : M = 6 ∨ M = 18) (wf : bz_wf P) (k : bz_K h0 m0 hc hm M P f d t 0) (f0 : 0 ≤ f) (f1 : f < P 0 0) (ht : t < 64) {v : Int} (hL : bz_LC hc) (r6 : kz_dt (-27) 2 = 0 → v = 0) (r7 : kz_dt (-27) 2 = 1 → 0 ≤ v ∧ v ≤ 2) (r8 : (kz_dt (-27) 2 = 2 ∨ kz_dt (-27) 2 = 3 ∨ kz_dt (-27) 2 = 4) → 0 ≤ v ∧ v ≤ 4294967295) (n1 : 2 ≤ (124 : Int) ∧ (124 : Int) ≤ 4 → d ≤ 9) (n2 : (124 : Int) = 5 ∨ (124 : Int) = 11 → 1 ≤ d) : bz_CE h0 m0 M P f (d + bz_dl 124) t (fn_Checker_check 48 (-27) v hc) (fn_Md_check 67 f 124 v hm) := by
  rw [show bz_dl 124 = 0 from rfl, Int.add_zero]
  exact bz_simp2 hM wf k ht (by omega) (by omega) (by decide +kernel) (show kz_dt (-27) 4 = 2 from by decide +kernel) (show kz_dt (-27) 5 = 2 from by decide +kernel) (by omega) (by omega) (by omega) (by omega) (by decide +kernel) (by decide +kernel) rfl
theorem bz_chk_27 (hM : M = 6 ∨ M = 18) (wf : bz_wf P) (k : bz_K h0 m0 hc hm M P f d t 0) (f0 : 0 ≤ f) (f1 : f < P 0 0) (ht : t < 64) {v : Int} (hL : bz_LC hc) (r6 : kz_dt (-28) 2 = 0 → v = 0) (r7 : kz_dt (-28) 2 = 1 → 0 ≤ v ∧ v ≤ 2) (r8 : (kz_dt (-28) 2 = 2 ∨ kz_dt (-28) 2 = 3 ∨ kz_dt (-28) 2 = 4) → 0 ≤ v ∧ v ≤ 4294967295) (n1 : 2 ≤ (126 : Int) ∧ (126 : Int) ≤ 4 → d ≤ 9) (n2 : (126 : Int) = 5 ∨ (126 : Int) = 11 → 1 ≤ d) : bz_CE h0 m0 M P f (d + bz_dl 126) t (fn_Checker_check 48 (-28) v hc) (fn_Md_check 67 f 126 v hm) := by
  rw [show bz_dl 126 = 0 from rfl, Int.add_zero]
  exact bz_simp2 hM wf k ht (by omega) (by omega) (by decide +kernel) (show kz_dt (-28) 4 = 2 from by decide +kernel) (show kz_dt (-28) 5 = 2 from by decide +kernel) (by omega) (by omega) (by omega) (by omega) (by decide +kernel) (by decide +kernel) rfl
theorem bz_chk_28 (hM : M = 6 ∨ M = 18) (wf : bz_wf P) (k : bz_K h0 m0 hc hm M P f d t 0) (f0 : 0 ≤ f) (f1 : f < P 0 0) (ht : t < 64) {v : Int} (hL : bz_LC hc) (r6 : kz_dt (-29) 2 = 0 → v = 0) (r7 : kz_dt (-29) 2 = 1 → 0 ≤ v ∧ v ≤ 2) (r8 : (kz_dt (-29) 2 = 2 ∨ kz_dt (-29) 2 = 3 ∨ kz_dt (-29) 2 = 4) → 0 ≤ v ∧ v ≤ 4294967295) (n1 : 2 ≤ (167 : Int) ∧ (167 : Int) ≤ 4 → d ≤ 9) (n2 : (167 : Int) = 5 ∨ (167 : Int) = 11 → 1 ≤ d) : bz_CE h0 m0 M P f (d + bz_dl 167) t (fn_Checker_check 48 (-29) v hc) (fn_Md_check 67 f 167 v hm) := by
  rw [show bz_dl 167 = 0 from rfl, Int.add_zero]
  exact bz_simp1 hM wf k ht (by omega) (by omega) (by decide +kernel) (show kz_dt (-29) 4 = 2 from by decide +kernel) (show kz_dt (-29) 5 = 1 from by decide +kernel) (by omega) (by omega) (by omega) (by omega) (by decide +kernel) (by decide +kernel) rfl
theorem bz_chk_29 (hM : M = 6 ∨ M = 18) (wf : bz_wf P) (k : bz_K h0 m0 hc hm M P f d t 0) (f0 : 0 ≤ f) (f1 : f < P 0 0) (ht : t < 64) {v : Int} (hL : bz_LC hc) (r6 : kz_dt (-30) 2 = 0 → v = 0) (r7 : kz_dt (-30) 2 = 1 → 0 ≤ v ∧ v ≤ 2) (r8 : (kz_dt (-30) 2 = 2 ∨ kz_dt (-30) 2 = 3 ∨ kz_dt (-30) 2 = 4) → 0 ≤ v ∧ v ≤ 4294967295) (n1 : 2 ≤ (172 : Int) ∧ (172 : Int) ≤ 4 → d ≤ 9) (n2 : (172 : Int) = 5 ∨ (172 : Int) = 11 → 1 ≤ d) : bz_CE h0 m0 M P f (d + bz_dl 172) t (fn_Checker_check 48 (-30) v hc) (fn_Md_check 67 f 172 v hm) := by
  rw [show bz_dl 172 = 0 from rfl, Int.add_zero]
  exact bz_simp1 hM wf k ht (by omega) (by omega) (by decide +kernel) (show kz_dt (-30) 4 = 1 from by decide +kernel) (show kz_dt (-30) 5 = 2 from by decide +kernel) (by omega) (by omega) (by omega) (by omega) (by decide +kernel) (by decide +kernel) rfl
theorem bz_chk (hM : M = 6 ∨ M = 18) (wf : bz_wf P) (k : bz_K h0 m0 hc hm M P f d t 0) (f0 : 0 ≤ f) (f1 : f < P 0 0) (ht : t < 64) {i : Int} (hr : bz_row P i) (n1 : 2 ≤ P 5 i ∧ P 5 i ≤ 4 → d ≤ 9) (n2 : P 5 i = 5 ∨ P 5 i = 11 → 1 ≤ d) : bz_CE h0 m0 M P f (d + bz_dl (P 5 i)) t (fn_Checker_check 48 (P 8 i) (P 6 i) hc) (fn_Md_check 67 f (P 5 i) (P 6 i) hm) := by
  obtain ⟨r1, r2, r3, r4, r5, r6, r7, r8, r9⟩ := hr
  have hL := k.1.1
  generalize P 6 i = v at *
  generalize P 5 i = c at *
  generalize P 8 i = x at *
  have hx : x = -1 ∨ x = -2 ∨ x = -3 ∨ x = -4 ∨ x = -5 ∨ x = -6 ∨ x = -7 ∨ x = -8 ∨ x = -9 ∨ x = -10 ∨ x = -11 ∨ x = -12 ∨ x = -13 ∨ x = -14 ∨ x = -15 ∨ x = -16 ∨ x = -17 ∨ x = -18 ∨ x = -19 ∨ x = -20 ∨ x = -21 ∨ x = -22 ∨ x = -23 ∨ x = -24 ∨ x = -25 ∨ x = -26 ∨ x = -27 ∨ x = -28 ∨ x = -29 ∨ x = -30 := by omega
  rcases hx with rfl | rfl | rfl | rfl | rfl | rfl | rfl | rfl | rfl | rfl | rfl | rfl | rfl | rfl | rfl | rfl | rfl | rfl | rfl | rfl | rfl | rfl | rfl | rfl | rfl | rfl | rfl | rfl | rfl | rfl
  · have hcd : c = 0 := r3.trans (by decide +kernel)
    subst hcd
    exact bz_chk_0 hM wf k f0 f1 ht hL r6 r7 r8 n1 n2
  · have hcd : c = 1 := r3.trans (by decide +kernel)
    subst hcd
    exact bz_chk_1 hM wf k f0 f1 ht hL r6 r7 r8 n1 n2
  · have hcd : c = 2 := r3.trans (by decide +kernel)
    subst hcd
    exact bz_chk_2 hM wf k f0 f1 ht hL r6 r7 r8 n1 n2
  · have hcd : c = 3 := r3.trans (by decide +kernel)
    subst hcd
    exact bz_chk_3 hM wf k f0 f1 ht hL r6 r7 r8 n1 n2
  · have hcd : c = 4 := r3.trans (by decide +kernel)
    subst hcd
    exact bz_chk_4 hM wf k f0 f1 ht hL r6 r7 r8 n1 n2
  · have hcd : c = 5 := r3.trans (by decide +kernel)
    subst hcd
    exact bz_chk_5 hM wf k f0 f1 ht hL r6 r7 r8 n1 n2
  · have hcd : c = 11 := r3.trans (by decide +kernel)
    subst hcd
    exact bz_chk_6 hM wf k f0 f1 ht hL r6 r7 r8 n1 n2
  · have hcd : c = 12 := r3.trans (by decide +kernel)
    subst hcd
    exact bz_chk_7 hM wf k f0 f1 ht hL r6 r7 r8 n1 n2
  · have hcd : c = 13 := r3.trans (by decide +kernel)
    subst hcd
    exact bz_chk_8 hM wf k f0 f1 ht hL r6 r7 r8 n1 n2
  · have hcd : c = 15 := r3.trans (by decide +kernel)
    subst hcd
    exact bz_chk_9 hM wf k f0 f1 ht hL r6 r7 r8 n1 n2
  · have hcd : c = 16 := r3.trans (by decide +kernel)
    subst hcd
    exact bz_chk_10 hM wf k f0 f1 ht hL r6 r7 r8 n1 n2
  · have hcd : c = 26 := r3.trans (by decide +kernel)
    subst hcd
    exact bz_chk_11 hM wf k f0 f1 ht hL r6 r7 r8 n1 n2
  · have hcd : c = 27 := r3.trans (by decide +kernel)
    subst hcd
    exact bz_chk_12 hM wf k f0 f1 ht hL r6 r7 r8 n1 n2
  · have hcd : c = 32 := r3.trans (by decide +kernel)
    subst hcd
    exact bz_chk_13 hM wf k f0 f1 ht hL r6 r7 r8 n1 n2
  · have hcd : c = 33 := r3.trans (by decide +kernel)
    subst hcd
    exact bz_chk_14 hM wf k f0 f1 ht hL r6 r7 r8 n1 n2
  · have hcd : c = 34 := r3.trans (by decide +kernel)
    subst hcd
    exact bz_chk_15 hM wf k f0 f1 ht hL r6 r7 r8 n1 n2
  · have hcd : c = 65 := r3.trans (by decide +kernel)
    subst hcd
    exact bz_chk_16 hM wf k f0 f1 ht hL r6 r7 r8 n1 n2
  · have hcd : c = 66 := r3.trans (by decide +kernel)
    subst hcd
    exact bz_chk_17 hM wf k f0 f1 ht hL r6 r7 r8 n1 n2
  · have hcd : c = 69 := r3.trans (by decide +kernel)
    subst hcd
    exact bz_chk_18 hM wf k f0 f1 ht hL r6 r7 r8 n1 n2
  · have hcd : c = 70 := r3.trans (by decide +kernel)
    subst hcd
    exact bz_chk_19 hM wf k f0 f1 ht hL r6 r7 r8 n1 n2
  · have hcd : c = 72 := r3.trans (by decide +kernel)
    subst hcd
    exact bz_chk_20 hM wf k f0 f1 ht hL r6 r7 r8 n1 n2
  · have hcd : c = 80 := r3.trans (by decide +kernel)
    subst hcd
    exact bz_chk_21 hM wf k f0 f1 ht hL r6 r7 r8 n1 n2
  · have hcd : c = 81 := r3.trans (by decide +kernel)
    subst hcd
    exact bz_chk_22 hM wf k f0 f1 ht hL r6 r7 r8 n1 n2
  · have hcd : c = 106 := r3.trans (by decide +kernel)
    subst hcd
    exact bz_chk_23 hM wf k f0 f1 ht hL r6 r7 r8 n1 n2
  · have hcd : c = 107 := r3.trans (by decide +kernel)
    subst hcd
    exact bz_chk_24 hM wf k f0 f1 ht hL r6 r7 r8 n1 n2
  · have hcd : c = 108 := r3.trans (by decide +kernel)
    subst hcd
    exact bz_chk_25 hM wf k f0 f1 ht hL r6 r7 r8 n1 n2
  · have hcd : c = 124 := r3.trans (by decide +kernel)
    subst hcd
    exact bz_chk_26 hM wf k f0 f1 ht hL r6 r7 r8 n1 n2
  · have hcd : c = 126 := r3.trans (by decide +kernel)
    subst hcd
    exact bz_chk_27 hM wf k f0 f1 ht hL r6 r7 r8 n1 n2
  · have hcd : c = 167 := r3.trans (by decide +kernel)
    subst hcd
    exact bz_chk_28 hM wf k f0 f1 ht hL r6 r7 r8 n1 n2
  · have hcd : c = 172 := r3.trans (by decide +kernel)
    subst hcd
    exact bz_chk_29 hM wf k f0 f1 ht hL r6 r7 r8 n1 n2
end CKH
