/-! A block begins: its result. -/
section SC
variable {t : Int → Int} {N T M : Int} {hc0 hm0 hc hm hc' hm' : qz_H}
theorem cz_bcc {x : Option qz_R} {f g : Int → qz_H → Option qz_R} (h : ∀ r h, x = some (r, h) → f r h = g r h) : qz_bc x f = qz_bc x g := by
  cases x with
  | none => rfl
  | some p => exact h p.1 p.2 rfl
theorem cz_fl (w : Int) (h : qz_H) : ∃ h', fn_Md_fail 67 w h = some (0, h') := by
  unfold fn_Md_fail fn_Md_fail_16
  by_cases h0 : h 67 38 = 0
  · exact ⟨_, by rw [if_neg (by omega), bz_ck (by omega), bz_bn, bz_ck (by omega)]⟩
  · exact ⟨_, by rw [if_pos h0, bz_ck (by omega), bz_bn, bz_ck (by omega)]⟩
theorem cz_rtL {k : Nat} {kd s : Int} {L : Nat} (S : cz_S t N T M hc0 hm0 k hc hm kd s L) {r : Int} {h : qz_H} (hr : fn_Md_readType 67 hm = some (r, h)) : bz_LM h ∧ (r = 0 ∨ r = 1 ∨ r = 2) := by
  have e := S.en
  rw [cz_rtM e S.tk] at hr
  have h012 := cz_ty012 (t := t) kd s L
  by_cases h0 : cz_ty t kd s L = 0
  · rw [if_pos h0] at hr
    cases hr
    exact ⟨e.tm.1, Or.inl rfl⟩
  · rw [if_neg h0] at hr
    obtain ⟨p, p1, p2, p3, p4, p5⟩ := S.tk.pos e.w (by rw [cz_ty2 h0]; omega)
    obtain ⟨hc', hm', kd', s', L', n1, n2, n3, n4, n5, n6, n7, n8⟩ := cz_next e.w e.tc e.tm (e := p) (by omega) p4 p1 p2
    rw [n2, bz_bc] at hr
    cases hr
    exact ⟨(n4.tm e.tm).1, h012⟩
theorem cz_en.is3 (e : cz_en t N T M hc0 hm0 hc hm) {kd s : Int} {L : Nat} (tk : cz_tk t N hc hm kd s L) : fn_Md_is 67 120325194214501 6 hm = some (cz_kb t kd s L 0, hm) ∧ fn_Md_is 67 1718972003 4 hm = some (cz_kb t kd s L 1, hm) ∧ fn_Md_is 67 482671223149 5 hm = some (cz_kb t kd s L 2, hm) ∧ fn_Md_is 67 125780054338676 6 hm = some (cz_kb t kd s L 3, hm) ∧ fn_Md_is 67 465725251948 5 hm = some (cz_kb t kd s L 4, hm) := by
  obtain ⟨_, k0, n0, k1, n1, k2, n2, k3, n3, k4, n4, _⟩ := cz_kws
  exact ⟨e.isM tk (by omega) k0 n0, e.isM tk (by omega) k1 n1, e.isM tk (by omega) k2 n2, e.isM tk (by omega) k3 n3, e.isM tk (by omega) k4 n4⟩
theorem cz_en.is3C (e : cz_en t N T M hc0 hm0 hc hm) {kd s : Int} {L : Nat} (tk : cz_tk t N hc hm kd s L) : fn_Scanner_is 34 (-35) hc = some (cz_kb t kd s L 0, hc) ∧ fn_Scanner_is 34 (-37) hc = some (cz_kb t kd s L 1, hc) ∧ fn_Scanner_is 34 (-39) hc = some (cz_kb t kd s L 2, hc) ∧ fn_Scanner_is 34 (-41) hc = some (cz_kb t kd s L 3, hc) ∧ fn_Scanner_is 34 (-43) hc = some (cz_kb t kd s L 4, hc) :=
  ⟨e.isC tk (i := 0) (by omega), e.isC tk (i := 1) (by omega), e.isC tk (i := 2) (by omega), e.isC tk (i := 3) (by omega), e.isC tk (i := 4) (by omega)⟩
/-- a parenthesis behind a block's head -/
theorem cz_behindB (e : cz_en t N T M hc0 hm0 hc hm) {kd s : Int} {L : Nat} (tk : cz_tk t N hc hm kd s L) {d : Int} (d0 : 0 ≤ d) (d9 : d ≤ 9) (h5 : hc 30 5 = d + 3) (h6 : hc 30 6 = 0) (b0 : hc (38 + d) 0 = 1) (hk : hc (37 + d) 0 = 8 ∨ hc (37 + d) 0 = 9) (hp : hc (37 + d) 1 ≤ 2) (k : Nat) : cz_go k hc = cz_rest k (if cz_kb t kd s L 3 = 0 then fn_Reader_beginFolded 30 (38 + d) (qz_up hc (37 + d) 1 4) else some (0, qz_up (qz_up hc (37 + d) 1 3) (38 + d) 0 6)) := by
  unfold cz_go
  rw [h5, bz_lev e.tc.1 (by omega) (by omega), show 35 + (d + 3) = 38 + d by omega]
  have mx : qz_max 0 (d + 3 - 1) = d + 2 := by unfold qz_max; rw [if_pos (by omega)]; omega
  unfold fn_Reader_judge
  rw [if_pos h6, bz_ck (by omega), b0]
  simp only [qz_swt]
  rw [if_neg (by omega), if_pos trivial, cz_bb]
  unfold fn_Reader_behindOpening
  rw [bz_c30_1 e.tc.1, bz_ck (by omega), bz_c31_m1 e.tc.1, h5, bz_w (by omega) (by omega), mx, bz_ck (by omega), bz_lev e.tc.1 (by omega) (by omega), show 35 + (d + 2) = 37 + d by omega, bz_bn, bz_ck (by omega)]
  simp only [qz_swt]
  rw [if_neg (by omega), if_neg (by omega), if_neg (by omega), cz_bb]
  have z119 : fn_Reader_beginPart_119 30 (38 + d) (37 + d) hc = fn_Reader_beginFolded 30 (38 + d) (qz_up hc (37 + d) 1 4) := by
    unfold fn_Reader_beginPart_119
    rw [bz_ck (by omega), bz_ck (by omega), bz_bn, cz_bb]
  unfold fn_Reader_beginPart fn_Reader_beginPart_13 fn_Reader_beginPart_50 fn_Reader_beginPart_83
  rw [bz_ck (by omega), if_pos (by omega), bz_bn, if_pos (by omega), bz_ck (by omega), if_neg (by omega), bz_c30_0 e.tc.1, bz_ck (by omega), (e.is3C tk).2.2.2.1, bz_bc, if_pos rfl, z119, bz_ck (by omega), bz_ck (by omega), bz_bn, bz_ck (by omega), bz_ck (by omega), bz_bn]
theorem cz_G.setv {c m d b q e' u v : Int} (g : cz_G t hc hm M c m d b q e' u) (hM : M = 6 ∨ M = 18) (m1 : 1 ≤ m) (x11 : hc (M + 2) (m - 1) ≠ -11) (hv : cz_vl (hc (M + 2) (m - 1)) v) (fc : ∀ o i : Int, (o = M ∨ M + 2 ≤ o ∧ o ≤ M + 11 ∨ o = 32 ∨ o = 33 ∨ 35 ≤ o ∧ o ≤ 37 + d ∧ ¬ (o = 37 + d ∧ i = 1)) → ¬ (o = M + 3 ∧ i = m - 1) → hc' o i = hc o i) (fm : ∀ o i : Int, (79 ≤ o ∧ o ≤ 99 ∨ o = 67 ∧ (i = 15 ∨ i = 23 ∨ i = 28 ∨ i = 39)) → ¬ (o = 85 ∧ i = m - 1) → hm' o i = hm o i) (y1 : hc' (M + 3) (m - 1) = v) (y2 : hm' 85 (m - 1) = v) {u' : Int} (hu : u ≤ u') : cz_G t hc' hm' M c m d b q e' u' := by
  obtain ⟨⟨g1, g2, g3, g4, g6, g7⟩, g5, gq⟩ := g
  refine ⟨⟨g1.same hM (fun o i h => fc o i (by omega) (by omega)) (fun o i h1 h2 => fm o i (by omega) (by omega)) (fm _ _ (by omega) (by omega)) (fm _ _ (by omega) (by omega)), g2.same (fun i => fc 32 i (by omega) (by omega)) (fun o i h1 h2 => fm o i (by omega) (by omega)), g3.same (fun i => fc 33 i (by omega) (by omega)) (fun o i h => fm o i (by omega) (by omega)), ?_, g6.same (fun o i h => fm o i (by omega) (by omega)), g7⟩, g5.same (fun o i h1 h2 h3 => fc o i (by omega) (by omega)) (fm _ _ (by omega) (by omega)) (fun o i h1 h2 => fm o i (by omega) (by omega)), gq⟩
  obtain ⟨r1, r2, r3, r4⟩ := g4
  refine ⟨by rw [fm _ _ (by omega) (by omega)]; exact r1, r2, fun k k0 k1 => ?_, fun j j0 j1 => ?_⟩
  · obtain ⟨p1, p2, p3, p4⟩ := r3 k k0 k1
    rw [fc (M + 2) k (by omega) (by omega), fm 84 k (by omega) (by omega)]
    refine ⟨p1, p2, p3, ?_⟩
    by_cases hk : k = m - 1
    · left
      rw [hk, y1, y2]
      exact ⟨rfl, hv⟩
    · rw [fc (M + 3) k (by omega) (by omega), fm 85 k (by omega) (by omega)]
      rcases p4 with p4 | ⟨p4, j, j0, j1, j2, j3⟩
      · exact Or.inl p4
      · refine Or.inr ⟨p4, j, j0, j1, ?_, ?_⟩
        · rw [fm _ _ (by omega) (by omega)]; exact j2
        · rw [fm _ _ (by omega) (by omega)]; exact j3
  · obtain ⟨p1, p2, p3, p4⟩ := r4 j j0 j1
    rw [fm 90 j (by omega) (by omega), fm 91 j (by omega) (by omega), fm 92 j (by omega) (by omega)]
    refine ⟨p1, by omega, fun i i0 i1 => by rw [fm 90 i (by omega) (by omega)]; exact p3 i i0 i1, ?_⟩
    rcases p4 with ⟨a1, a2, a3, a4⟩ | p4
    · left
      have : hm 92 j ≠ m - 1 := fun h => x11 (by rw [← h]; exact a3)
      rw [fc (M + 2) _ (by omega) (by omega), fc (M + 3) _ (by omega) (by omega)]
      exact ⟨a1, a2, a3, a4⟩
    · exact Or.inr p4
theorem cz_vl1 {j : Nat} {v : Int} (h : kz_dt (-((j : Int) + 1)) 2 = 1) (h0 : 0 ≤ v) (h2 : v ≤ 2) : cz_vl (-((j : Int) + 1)) v :=
  ⟨by omega, by omega, fun h' => by omega, fun _ => ⟨h0, h2⟩, fun h' => by omega, fun h' => by omega⟩
theorem cz_setB (e : cz_en t N T M hc0 hm0 hc hm) {d m : Int} (d0 : 0 ≤ d) (d9 : d ≤ 9) (h5 : hc 30 5 = d + 3) (hk : hc (37 + d) 0 ≠ 3) (m4 : hc M 4 = m) (m1 : 1 ≤ m) (m64 : m ≤ 64) (v : Int) : fn_Reader_setResult 30 v hc = some (0, qz_up hc (M + 3) (m - 1) v) := by
  have hM := e.hM
  obtain ⟨u0, u1, u2, u3, u4, u5⟩ := bz_mod e.tc.1 hM
  have mx : qz_max 0 (d + 3 - 1) = d + 2 := by unfold qz_max; rw [if_pos (by omega)]; omega
  unfold fn_Reader_setResult fn_Reader_setResult_44 fn_Reader_setLatestOperand fn_Reader_setLatestOperand_28
  rw [bz_c30_1 e.tc.1, bz_ck (by omega), bz_c31_m1 e.tc.1, h5, bz_w (by omega) (by omega), mx, bz_ck (by omega), bz_lev e.tc.1 (by omega) (by omega), show 35 + (d + 2) = 37 + d by omega, bz_bn, bz_ck (by omega), if_pos hk, e.m4, bz_ck (by omega), m4, if_neg (by omega), bz_ck (by omega), bz_ck (by omega), u2, bz_ck (by omega), bz_w (by omega) (by omega), u5, bz_ck (by omega), bz_bn, bz_bc]
def cz_RB (l3 : Int) (h6 : qz_H) : Option qz_R :=
        qz_bc (fn_Md_readType 67 h6) fun r7 h8 =>
        qz_ck ((h6 67 22 : Int) ≠ 0) <|
        qz_ck (0 < h6 67 22 ∧ (0 : Int) ≤ l3 ∧ l3 < h8 (h6 67 22) (-1)) <|
        qz_bn (qz_up h8 (h6 67 22) l3 r7) fun h9 =>
        qz_ck ((h9 67 22 : Int) ≠ 0) <|
        qz_ck ((0 : Int) ≤ l3 ∧ l3 < h9 (h9 67 22) (-1)) <|
        if qz_cmp (h9 (h9 67 22) l3) 0 = 0 then
          fn_Md_beginBlock_187 67 h9
        else
          qz_bc (fn_Md_pass 67 2 h9) fun r10 h11 =>
          if ¬ r10 = 0 then
            fn_Md_beginBlock_195 h11
          else
            fn_Md_beginBlock_187 67 h11
theorem cz_RB_eq {k : Nat} {kd s : Int} {L : Nat} {m : Int} (S : cz_S t N T M hc0 hm0 k hc hm kd s L) (m1 : 1 ≤ m) (m64 : m ≤ 64) : cz_RB (m - 1) hm = qz_bc (fn_Md_readType 67 hm) fun r h8 => if r = 0 then (qz_bc (fn_Md_fail 67 1 (qz_up h8 85 (m - 1) r)) fun r1 h2 => if r1 = 0 then some (0, h2) else none) else (qz_bc (fn_Md_pass 67 2 (qz_up h8 85 (m - 1) r)) fun r9 h => if ¬ r9 = 0 then some (1, h) else (qz_bc (fn_Md_fail 67 1 h) fun r1 h2 => if r1 = 0 then some (0, h2) else none)) := by
  unfold cz_RB
  refine cz_bcc (fun r h hr => ?_)
  obtain ⟨Lh, hr⟩ := cz_rtL S hr
  have Lu : bz_LM (qz_up h 85 (m - 1) r) := fun q hq => by
    have z : ∀ q ∈ bz_TM, ¬ (q.1 = 85 ∧ 0 ≤ q.2.1) := by decide +kernel
    rw [cz_un (fun hh => z q hq ⟨hh.1, by omega⟩)]; exact Lh q hq
  have ck0 : ∀ h : qz_H, fn_Md_beginBlock_187 67 h = qz_bc (fn_Md_fail 67 1 h) fun r1 h2 => if r1 = 0 then some (0, h2) else none := by
    intro h
    unfold fn_Md_beginBlock_187 fn_Md_beginBlock_200
    obtain ⟨h', hf⟩ := cz_fl 1 h
    rw [hf, bz_bc, bz_bc, if_pos rfl, if_pos rfl, bz_ck (by omega)]
  unfold fn_Md_beginBlock_195 fn_Md_beginBlock_200
  rw [bz_m67_22 S.en.tm.1, bz_m85_m1 Lh, bz_ck (by omega), bz_ck (by omega), bz_bn, bz_m67_22 Lu, bz_ck (by omega), bz_m85_m1 Lu, bz_ck (by omega), bz_us, ck0]
  by_cases h0 : r = 0
  · rw [if_pos h0, if_pos (by rw [h0]; rfl)]
  · rw [if_neg h0, if_neg (by unfold qz_cmp; rw [if_pos (by omega)]; omega)]
    refine cz_bcc (fun r9 h9 hr9 => ?_)
    by_cases h0 : r9 = 0
    · rw [if_neg (show ¬ ¬ r9 = 0 by omega), if_neg (show ¬ ¬ r9 = 0 by omega), ck0]
    · rw [if_pos h0, if_pos h0, bz_ck (by omega)]
theorem cz_b116 {k : Nat} {kd s : Int} {L : Nat} {c m d q : Int} (S : cz_S t N T M hc0 hm0 k hc hm kd s L) (g : cz_G t hc hm M c m d d q (-1) s) (d1 : 1 ≤ d) (h5 : hc 30 5 = d + 2) (h6 : hc 30 6 = 0) (h7 : hc 30 7 = -2) (hp : hc (37 + d) 1 = 0 ∨ hc (37 + d) 1 = 1) (pn : hc (37 + d) 1 = 0 → ¬ cz_nt t kd s L) (m1 : 1 ≤ m) {j : Nat} (row : hc (M + 2) (m - 1) = -((j : Int) + 1)) (j10 : j ≠ 10) (k21 : kz_dt (-((j : Int) + 1)) 2 = 1) : cz_out t N T M hc0 hm0 c (s - 1) (cz_go k hc) (fn_Md_beginBlock_116 67 (c - 1) (m - 1) hm) := by
  have e := S.en
  have hM := e.hM
  obtain ⟨d0, d10, _, _, kk, kf⟩ := g.2.1.kind
  obtain ⟨c1, c4, m0, m64, r3, r4, r23, r15, r50, r51, q0, r39, r28⟩ := g.rows
  have hk : hc (37 + d) 0 = 8 ∨ hc (37 + d) 0 = 9 := by have := kk rfl; omega
  have hk1 : hc (37 + d) 0 = 3 ∨ hc (37 + d) 0 = 8 ∨ hc (37 + d) 0 = 9 := by omega
  clear kk kf
  have t33 := S.tk.2.2.2.1
  have k0 := S.k0
  have k4 := S.k4
  unfold fn_Md_beginBlock_116
  by_cases h0 : kd = 0
  · subst h0
    rw [if_pos (show hm 67 33 = 1 by rw [t33]; rfl), cz_goB e d0 d10 h5 h6 hk1]
    have e7 : cz_en t N T M hc0 hm0 (qz_up hc 30 7 (-2)) hm := e.uc (by omega)
    unfold fn_Reader_inBody
    rw [bz_bn, bz_ck (by omega), bz_bn, bz_c30_0 e7.tc.1, bz_ck (by omega), show (qz_up hc 30 7 (-2)) 34 1 = 0 by rw [cz_un (by omega)]; exact S.tk.1, if_neg (by omega), cz_bb, show qz_up hc 30 7 (-2) = hc by rw [← h7]; exact cz_ue _ _ _, cz_openC e h5 (by omega) (by omega), cz_openM e r39 d0 d10]
    clear pn t33 e7
    by_cases h9 : d ≤ 9
    · rw [if_pos (by omega), if_pos h9]
      have e1 : cz_en t N T M hc0 hm0 (cz_lv hc (d + 2) 1) hm := e.fC (fun o i h => cz_lv_un (by omega) (by omega))
      obtain ⟨hc2, hm2, kd', s', L', n1, n2, S2, ss, Fc, Fm⟩ := cz_adv S (by omega) e1 (cz_lv_un (by omega) (by omega)) (cz_lv_un (by omega) (by omega)) rfl (by rw [cz_lv_5 (by omega)]; omega) (by rw [cz_lv_5 (by omega)]; omega)
      rw [n1, n2, bz_bc, bz_bc, if_pos (show ¬ (1 : Int) = 0 by omega)]
      obtain ⟨z0, z1, z2, z3, z4⟩ := cz_lv_k (hc := hc) (x := d + 2) (k := 1)
      rw [show 36 + (d + 2) = 38 + d by omega] at z0 z1 z2 z3 z4
      have fc2 : ∀ o i : Int, o ≠ 34 → o ≠ 30 → o ≠ 38 + d → hc2 o i = hc o i := by
        intro o i x1 x2 x3
        rw [Fc o i (by omega) (by omega)]
        exact cz_lv_un (by omega) (by omega)
      have a5 : hc2 30 5 = d + 3 := by
        rw [Fc _ _ (by omega) (by omega), cz_lv_5 (by omega)]; omega
      have a6 : hc2 30 6 = 0 := by
        rw [Fc _ _ (by omega) (by omega), cz_lv_un (by omega) (by omega)]; exact h6
      have a7 : hc2 30 7 = -2 := by
        rw [Fc _ _ (by omega) (by omega), cz_lv_un (by omega) (by omega)]; exact h7
      have y0 : hc2 (38 + d) 0 = 1 := by rw [Fc _ _ (by omega) (by omega)]; exact z0
      have y1 : hc2 (38 + d) 1 = 0 := by rw [Fc _ _ (by omega) (by omega)]; exact z1
      have y4 : hc2 (38 + d) 4 = 0 := by rw [Fc _ _ (by omega) (by omega)]; exact z4
      have w0 : hc2 (37 + d) 0 = hc (37 + d) 0 := fc2 _ _ (by omega) (by omega) (by omega)
      have w1 : hc2 (37 + d) 1 = hc (37 + d) 1 := fc2 _ _ (by omega) (by omega) (by omega)
      have g2 : cz_G t hc2 hm2 M c m d d q (-1) s' := g.same hM (fun o i h => fc2 o i (by omega) (by omega) (by omega)) (fun o i h => Fm o i (by omega)) (by omega)
      rw [cz_behindB S2.en S2.tk d0 h9 a5 a6 y0 (by rw [w0]; exact hk) (by rw [w1]; omega), (S2.en.is3 S2.tk).2.2.2.1, bz_bc]
      rcases cz_kb01 (t := t) kd' s' L' 3 with h3 | h3
      · rw [h3, if_pos rfl, if_neg (show ¬ ¬ (0 : Int) = 0 by omega)]
        have R := (cz_fold (m := m) (b := d) (q := q) (S2.fC (fun o i h => cz_un (by omega)) (fun i _ _ => cz_un (by omega)) (cz_un (by omega))) (g2.same hM (fun o i h => cz_un (by omega)) (fun o i h => rfl) (Int.le_refl _)) h9 (by rw [cz_un (by omega)]; exact a5) (by rw [cz_un (by omega)]; exact a6) (by rw [cz_un (by omega)]; exact a7) (by rw [cz_un (by omega)]; exact y4) (fun _ => bz_us _ _ _ _)).mono (s' := s - 1) (by omega)
        rcases R with ⟨w, hc', hm', r1, r2, r3, r4⟩ | ⟨k', hc', hm', kd', s', L', r1, r2, r3⟩
        · exact Or.inl ⟨w, hc', hm', r1, r2, by rw [r3, bz_bc, bz_ck (by omega)], r4⟩
        · exact Or.inr ⟨k', hc', hm', kd', s', L', r1, by rw [r2, bz_bc, bz_ck (by omega)], r3⟩
      · have kd2 := cz_kb2 h3
        rw [h3, if_neg (show ¬ (1 : Int) = 0 by omega), if_pos (show ¬ (1 : Int) = 0 by omega)]
        have e2 : cz_en t N T M hc0 hm0 (qz_up (qz_up hc2 (37 + d) 1 3) (38 + d) 0 6) hm2 := (S2.en.uc (by omega)).uc (by omega)
        obtain ⟨hc3, hm3, kd3, s3, L3, n3, n4, S3, ss3, Fc3, Fm3⟩ := cz_adv S2 (by omega) e2 (by simp (disch := omega) only [cz_un]) (by simp (disch := omega) only [cz_un]) rfl (by simp (disch := omega) only [cz_un]; omega) (by simp (disch := omega) only [cz_un]; omega)
        rw [n3, n4, bz_bc]
        have fc3 : ∀ o i : Int, o ≠ 34 → ¬ (o = 30 ∧ i = 9) → ¬ (o = 37 + d ∧ i = 1) → ¬ (o = 38 + d ∧ i = 0) → hc3 o i = hc2 o i := by
          intro o i x1 x2 x3 x4
          rw [Fc3 o i (by omega) (by omega), cz_un x4, cz_un x3]
        have b5 : hc3 30 5 = d + 3 := by rw [fc3 _ _ (by omega) (by omega) (by omega) (by omega)]; exact a5
        have b6 : hc3 30 6 = 0 := by rw [fc3 _ _ (by omega) (by omega) (by omega) (by omega)]; exact a6
        have v0 : hc3 (38 + d) 0 = 6 := by rw [Fc3 _ _ (by omega) (by omega), bz_us]
        have v1 : hc3 (38 + d) 1 = 0 := by rw [fc3 _ _ (by omega) (by omega) (by omega) (by omega)]; exact y1
        have v3 : hc3 (37 + d) 1 = 3 := by rw [Fc3 _ _ (by omega) (by omega), cz_un (by omega), bz_us]
        have g3 : cz_G t hc3 hm3 M c m d d q (-1) s3 := g2.same hM (fun o i h => fc3 o i (by omega) (by omega) (by omega) (by omega)) (fun o i h => Fm3 o i (by omega)) (by omega)
        have eU : cz_en t N T M hc0 hm0 (qz_up hc3 (38 + d) 1 3) hm3 := S3.en.uc (by omega)
        have M4 : hc3 M 4 = m := by rw [fc3 _ _ (by omega) (by omega) (by omega) (by omega), fc2 _ _ (by omega) (by omega) (by omega)]; exact r4
        have K0 : hc3 (37 + d) 0 ≠ 3 := by rw [fc3 _ _ (by omega) (by omega) (by omega) (by omega), w0]; omega
        have row3 : hc3 (M + 2) (m - 1) = -((j : Int) + 1) := by rw [fc3 _ _ (by omega) (by omega) (by omega) (by omega), fc2 _ _ (by omega) (by omega) (by omega)]; exact row
        have L3m := S3.en.tm.1
        show cz_out t N T M hc0 hm0 c (s - 1) (cz_go (k + 1 + 1) hc3) (cz_RB (m - 1) hm3)
        rcases cz_resS S3 (A := M + 3) (I := m - 1) (o' := 85) (I' := m - 1) d0 h9 b5 b6 v0 v1 (by omega) (by omega) (by omega) (by omega) (by omega) (by omega) (fun v => cz_setB eU d0 h9 (by rw [cz_un (by omega)]; exact b5) (by rw [cz_un (by omega)]; exact K0) (by rw [cz_un (by omega)]; exact M4) m1 m64 v) (fun h => some (1, h)) (D := cz_RB (m - 1) hm3) (cz_RB_eq S3 m1 m64) with R | ⟨k4, hc4, hm4, kd4, s4, L4, v, q1, q2, S4, ss4, q3, q4, q5, q6, q7, q8⟩
        · exact Or.inl R
        · right
          refine ⟨k4, hc4, hm4, kd4, s4, L4, q1, q2, by omega, m, d, d, q, S4, g3.setv (v := v) hM m1 (by rw [row3]; omega) (by rw [row3]; exact cz_vl1 k21 (by omega) (by omega)) (fun o i x1 x2 => q6 o i (by omega) (by omega) (by omega) x2) (fun o i x1 x2 => q8 o i (by omega) x2) q4 q5 (by omega), q7, ?_, Or.inl ?_, fun _ => Or.inr (Or.inr ⟨?_, d1⟩)⟩
          · rw [q6 _ _ (by omega) (by omega) (by omega) (by omega)]; exact b6
          · rw [q6 _ _ (by omega) (by omega) (by omega) (by omega), fc3 _ _ (by omega) (by omega) (by omega) (by omega)]; exact a7
          · rw [q6 _ _ (by omega) (by omega) (by omega) (by omega)]; exact v3
    · left
      rw [if_neg (by omega), if_neg h9, bz_bc, if_neg (show ¬ ¬ (0 : Int) = 0 by omega), bz_ck (by omega)]
      exact cz_badI e (Or.inr rfl) S.sm
  · rw [if_neg (show ¬ hm 67 33 = 1 by rw [t33]; split <;> omega), bz_ck (by omega)]
    exact Or.inr ⟨_, _, _, _, _, _, rfl, rfl, by omega, m, d, d, q, S, g, h5, h6, Or.inl h7, fun _ => Or.inr (Or.inl ⟨h0, pn⟩)⟩
end SC
