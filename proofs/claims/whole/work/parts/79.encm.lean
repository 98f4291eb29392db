section SGM
variable {P : qz_H}
theorem bz_likeM (wf : bz_wf P) {h : qz_H} (hL : bz_LM h) (mm : bz_MM h P) {f g : Int} (f0 : 0 ≤ f) (f1 : f < P 0 0) (g0 : 0 ≤ g) (g1 : g < P 0 0) : (bz_lk P f g → fn_Md_sameSignature 67 f g h = some (1, h)) ∧ (¬ bz_lk P f g → fn_Md_sameSignature 67 f g h = some (0, h)) := by
  have w := wf.2.1
  obtain ⟨x1, x2, x3, x4, x5, x6, x7, x8, x9, x10, x11⟩ := wf.2.2 f f0 f1
  obtain ⟨y1, y2, y3, y4, y5, y6, y7, y8, y9, y10, y11⟩ := wf.2.2 g g0 g1
  obtain ⟨c1, c2, c3, c4, c5, c6, c7⟩ := mm.2 f f0 f1
  obtain ⟨e1, e2, e3, e4, e5, e6, e7⟩ := mm.2 g g0 g1
  have zero : ∀ (n : Nat) (k : Int), fn_Md_sameSignature_39 (n + 1) 67 f g 0 k h = some (0, h) := by
    intro n k
    rw [fn_Md_sameSignature_39]
    unfold fn_Md_sameSignature_39_b fn_Md_sameSignature_93
    rw [bz_m67_8 hL, bz_m72_m1 hL, bz_ck (by omega), bz_ck (by omega), if_pos rfl, bz_ck (by omega), ite_self]
  have key : P 1 f = P 1 g → ∀ (m n : Nat) (k : Int), (m : Int) + k = P 1 f → 0 ≤ k → ((∀ j : Int, k ≤ j → j < P 1 f → P 7 (8 * f + j) = P 7 (8 * g + j)) → fn_Md_sameSignature_39 (n + m + 1) 67 f g 1 k h = some (1, h)) ∧ (¬ (∀ j : Int, k ≤ j → j < P 1 f → P 7 (8 * f + j) = P 7 (8 * g + j)) → fn_Md_sameSignature_39 (n + m + 1) 67 f g 1 k h = some (0, h)) := by
    intro hp m
    induction m with
    | zero =>
      intro n k hm k0
      have z : fn_Md_sameSignature_39 (n + 0 + 1) 67 f g 1 k h = some (1, h) := by
        rw [fn_Md_sameSignature_39]
        unfold fn_Md_sameSignature_39_b fn_Md_sameSignature_93
        rw [bz_m67_8 hL, bz_m72_m1 hL, bz_ck (by omega), bz_ck (by omega), c1, if_pos (by omega), bz_ck (by omega)]
      exact ⟨fun _ => z, fun q => absurd (fun j j0 j1 => by omega) q⟩
    | succ m ih =>
      intro n k hm k0
      have st : fn_Md_sameSignature_39 (n + (m + 1) + 1) 67 f g 1 k h = if P 7 (8 * f + k) = P 7 (8 * g + k) then fn_Md_sameSignature_39 (n + m + 1) 67 f g 1 (k + 1) h else fn_Md_sameSignature_39 (n + m + 1) 67 f g 0 (k + 1) h := by
        rw [show n + (m + 1) + 1 = (n + m + 1) + 1 from by omega, fn_Md_sameSignature_39]
        unfold fn_Md_sameSignature_39_b fn_Md_sameSignature_86
        simp only [bz_bn]
        rw [bz_m67_8 hL, bz_m72_m1 hL, bz_ck (by omega), bz_ck (by omega), c1, if_neg (by omega), if_neg (by omega), bz_m67_11 hL, bz_m75_m1 hL, bz_w (show -2147483648 ≤ 8 * f by omega) (by omega), bz_w (show -2147483648 ≤ 8 * g by omega) (by omega), bz_w (show -2147483648 ≤ 8 * f + k by omega) (by omega), bz_w (show -2147483648 ≤ 8 * g + k by omega) (by omega), bz_w (show -2147483648 ≤ k + 1 by omega) (by omega), bz_ck (by omega), bz_ck (by omega), bz_ck (by omega), bz_ck (by omega), c6 k k0 (by omega), e6 k k0 (by omega)]
        by_cases q : P 7 (8 * f + k) = P 7 (8 * g + k)
        · rw [if_neg (by omega), if_pos q]
        · rw [if_pos q, if_neg q]
      obtain ⟨i1, i2⟩ := ih n (k + 1) (by omega) (by omega)
      by_cases q : P 7 (8 * f + k) = P 7 (8 * g + k)
      · rw [st, if_pos q]
        refine ⟨fun a => i1 fun j j0 j1 => a j (by omega) j1, fun a => i2 fun b => a fun j j0 j1 => ?_⟩
        by_cases q2 : j = k
        · rw [q2]; exact q
        · exact b j (by omega) j1
      · rw [st, if_neg q, zero]
        exact ⟨fun a => absurd (a k (by omega) (by omega)) q, fun _ => rfl⟩
  unfold fn_Md_sameSignature fn_Md_sameSignature_34 fn_Md_sameSignature_35
  simp only [bz_bn]
  rw [bz_m67_8 hL, bz_m72_m1 hL, bz_m67_10 hL, bz_m74_m1 hL, c1, c3, e1, e3]
  simp only [bz_ck (show (72 : Int) ≠ 0 by omega), bz_ck (show (74 : Int) ≠ 0 by omega), bz_ck (show 0 ≤ f ∧ f < 4 by omega), bz_ck (show 0 ≤ g ∧ g < 4 by omega)]
  have z0 := zero 3999 0
  by_cases q1 : P 1 f = P 1 g
  · rw [if_neg (by omega)]
    by_cases q2 : P 3 f = P 3 g
    · rw [if_neg (by omega)]
      obtain ⟨i1, i2⟩ := key q1 (P 1 f).toNat (3999 - (P 1 f).toNat) 0 (by omega) (by omega)
      rw [show 3999 - (P 1 f).toNat + (P 1 f).toNat + 1 = qz_NF from by unfold qz_NF; omega] at i1 i2
      exact ⟨fun a => i1 a.2.2, fun a => i2 fun b => a ⟨q1, q2, b⟩⟩
    · rw [if_pos q2]
      exact ⟨fun a => absurd a.2.1 q2, fun _ => z0⟩
  · rw [if_pos q1]
    exact ⟨fun a => absurd a.1 q1, fun _ => z0⟩
theorem bz_fiM (wf : bz_wf P) {h : qz_H} (hL : bz_LM h) (mm : bz_MM h P) {f : Int} (f0 : 0 ≤ f) (f1 : f < P 0 0) : fn_Md_firstLike 67 f h = some (bz_fi P f, h) := by
  have w := wf.2.1
  have key : ∀ (m n : Nat) (g : Int), (m : Int) + g = f → 0 ≤ g → fn_Md_firstLike_2 (n + m + 1) 67 f g h = some (bz_sf P f m g, h) := by
    intro m
    induction m with
    | zero =>
      intro n g hm g0
      have e : g = f := by omega
      subst e
      rw [fn_Md_firstLike_2]
      unfold fn_Md_firstLike_2_b
      rw [(bz_likeM wf hL mm f0 f1 f0 f1).1 (bz_lk.rf P g), bz_bc, if_pos (by omega), bz_sf]
    | succ m ih =>
      intro n g hm g0
      obtain ⟨l1, l2⟩ := bz_likeM wf hL mm f0 f1 g0 (show g < P 0 0 by omega)
      rw [show n + (m + 1) + 1 = (n + m + 1) + 1 from by omega, fn_Md_firstLike_2]
      unfold fn_Md_firstLike_2_b
      by_cases q : bz_lk P f g
      · rw [l1 q, bz_bc, if_pos (by omega), bz_sf_pos q]
      · rw [l2 q, bz_bc, if_neg (by omega), bz_bn, bz_w (by omega) (by omega), ih n (g + 1) (by omega) (by omega), bz_sf_neg q]
  unfold fn_Md_firstLike
  rw [bz_bn]
  have k := key f.toNat (3999 - f.toNat) 0 (by omega) (by omega)
  rw [show 3999 - f.toNat + f.toNat + 1 = qz_NF from by unfold qz_NF; omega] at k
  exact k
theorem bz_sbM (wf : bz_wf P) {h : qz_H} (hL : bz_LM h) (mm : bz_MM h P) {f : Int} (f0 : 0 ≤ f) (f1 : f ≤ P 0 0) : fn_Md_signaturesBefore 67 f h = some (bz_sbf P f.toNat, h) := by
  have w := wf.2.1
  have key : ∀ (m n : Nat) (g : Int), (m : Int) + g = f → 0 ≤ g → fn_Md_signaturesBefore_4 (n + m + 1) 67 f (bz_sbf P g.toNat) g h = some (bz_sbf P f.toNat, h) := by
    intro m
    induction m with
    | zero =>
      intro n g hm g0
      rw [fn_Md_signaturesBefore_4]
      unfold fn_Md_signaturesBefore_4_b
      rw [if_pos (by omega), show g = f from by omega]
    | succ m ih =>
      intro n g hm g0
      obtain ⟨r0, r1⟩ := bz_sbf_rg P g.toNat
      have e3 : bz_sbf P (g + 1).toNat = bz_sbf P g.toNat + if bz_fi P g = g then 1 else 0 := by
        rw [show (g + 1).toNat = g.toNat + 1 from by omega, bz_sbf, Int.toNat_of_nonneg g0]
      have i := ih n (g + 1) (by omega) (by omega)
      rw [e3] at i
      rw [show n + (m + 1) + 1 = (n + m + 1) + 1 from by omega, fn_Md_signaturesBefore_4]
      unfold fn_Md_signaturesBefore_4_b fn_Md_signaturesBefore_24
      simp only [bz_bn]
      rw [if_neg (by omega), bz_fiM wf hL mm g0 (by omega), bz_bc, bz_w (show -2147483648 ≤ g + 1 by omega) (by omega)]
      by_cases q : bz_fi P g = g
      · rw [if_pos q] at i
        rw [if_neg (by omega), bz_w (by omega) (by omega), i]
      · rw [if_neg q] at i
        rw [if_pos q, bz_w (by omega) (by omega), i]
  unfold fn_Md_signaturesBefore
  simp only [bz_bn]
  have k := key f.toNat (3999 - f.toNat) 0 (by omega) (by omega)
  rw [show 3999 - f.toNat + f.toNat + 1 = qz_NF from by unfold qz_NF; omega] at k
  exact k
/-- one signature, and what follows it -/
theorem bz_sigM (wf : bz_wf P) {f : Int} (f0 : 0 ≤ f) (f1 : f < P 0 0) (k25 : Int → Int → Int → qz_H → Option qz_R) (b : Int) {h : qz_H} {L : List Int} (xm : bz_XM h P L) (hl : L.length + (bz_sig P f).length ≤ 1000) : ∃ h', (qz_bc (fn_Md_add 67 96 h) fun _ h6 => qz_ck ((h6 67 8 : Int) ≠ 0) <| qz_ck ((0 : Int) ≤ f ∧ f < h6 (h6 67 8) (-1)) <| qz_bc (fn_Md_unsigned 67 (h6 (h6 67 8) f) h6) fun _ h8 => qz_bn (0 : Int) fun x9 => fn_Md_signatureSection_61 k25 qz_NF 67 b f x9 h8) = k25 67 b (f + 1) h' ∧ bz_XM h' P (L ++ bz_sig P f) ∧ bz_fx h h' := by
  have w := wf.2.1
  obtain ⟨x1, x2, x3, x4, x5, x6, x7, x8, x9, x10, x11⟩ := wf.2.2 f f0 f1
  have loop : ∀ (m n : Nat) (k : Int) (h : qz_H) (L : List Int), (m : Int) + k = P 1 f → 0 ≤ k → bz_XM h P L → L.length + (bz_fl (fun k => [bz_ty (P 7 (8 * f + k))]) k m ++ (bz_U (if P 3 f = 0 then 0 else 1) ++ (if P 3 f = 0 then [] else [bz_ty (P 3 f)]))).length ≤ 1000 → ∃ h', fn_Md_signatureSection_61 k25 (n + m + 1) 67 b f k h = k25 67 b (f + 1) h' ∧ bz_XM h' P (L ++ (bz_fl (fun k => [bz_ty (P 7 (8 * f + k))]) k m ++ (bz_U (if P 3 f = 0 then 0 else 1) ++ (if P 3 f = 0 then [] else [bz_ty (P 3 f)])))) ∧ bz_fx h h' := by
    intro m
    induction m with
    | zero =>
      intro n k h L hm k0 xm hl
      obtain ⟨c1, c2, c3, c4, c5, c6, c7⟩ := xm.2.1.2 f f0 f1
      rw [bz_fl, List.nil_append] at hl ⊢
      rw [List.length_append] at hl
      rw [fn_Md_signatureSection_61]
      unfold fn_Md_signatureSection_61_b fn_Md_signatureSection_110 fn_Md_signatureSection_135
      simp only [bz_bn]
      rw [bz_m67_8 xm.1, bz_m72_m1 xm.1, bz_ck (by omega), bz_ck (by omega), c1, if_pos (by omega), bz_m67_10 xm.1, bz_m74_m1 xm.1, bz_ck (by omega), bz_ck (by omega), c3, bz_w (show -2147483648 ≤ f + 1 by omega) (by omega)]
      by_cases q : P 3 f = 0
      · simp only [if_pos q, bz_U1 (show (0 : Int) ≤ 0 by omega) (show (0 : Int) ≤ 127 by omega)] at hl ⊢
        obtain ⟨h', e1, e2, e3⟩ := bz_en_add (c := 0) (by omega) (by omega) h L xm (by omega)
        obtain ⟨d1, d2, d3, d4, d5, d6, d7⟩ := e2.2.1.2 f f0 f1
        rw [if_pos (by omega), e1, bz_bc, bz_m67_10 e2.1, bz_m74_m1 e2.1, bz_ck (by omega), bz_ck (by omega), d3, if_pos (by omega), List.append_nil]
        exact ⟨h', rfl, e2, e3⟩
      · simp only [if_neg q, bz_U1 (show (0 : Int) ≤ 1 by omega) (show (1 : Int) ≤ 127 by omega)] at hl ⊢
        rw [List.length_singleton, List.length_singleton] at hl
        obtain ⟨h', e1, e2, e3⟩ := bz_en_add (c := 1) (by omega) (by omega) h L xm (by rw [List.length_singleton]; omega)
        obtain ⟨d1, d2, d3, d4, d5, d6, d7⟩ := e2.2.1.2 f f0 f1
        have rg := bz_ty_rg (P 3 f)
        obtain ⟨h2, g1, g2, g3⟩ := bz_en_add (c := bz_ty (P 3 f)) rg.1 rg.2 h' _ e2 (by rw [List.length_append, List.length_singleton, List.length_singleton]; omega)
        rw [if_neg (by omega), e1, bz_bc, bz_m67_10 e2.1, bz_m74_m1 e2.1, bz_ck (by omega), bz_ck (by omega), d3, if_neg (by omega), bz_ck (by omega), bz_ck (by omega), bz_tyM x5 x6, bz_bc, g1, bz_bc]
        rw [List.append_assoc] at g2
        exact ⟨h2, rfl, g2, e3.tr g3⟩
    | succ m ih =>
      intro n k h L hm k0 xm hl
      obtain ⟨c1, c2, c3, c4, c5, c6, c7⟩ := xm.2.1.2 f f0 f1
      have tt := x10 k k0 (by omega)
      have rg := bz_ty_rg (P 7 (8 * f + k))
      rw [bz_fl] at hl ⊢
      simp only [List.cons_append, List.nil_append, List.length_cons] at hl
      obtain ⟨h', e1, e2, e3⟩ := bz_en_add (c := bz_ty (P 7 (8 * f + k))) rg.1 rg.2 h L xm (by rw [List.length_singleton]; omega)
      obtain ⟨h2, g1, g2, g3⟩ := ih n (k + 1) h' (L ++ [bz_ty (P 7 (8 * f + k))]) (by omega) (by omega) e2 (by rw [List.length_append, List.length_singleton]; omega)
      refine ⟨h2, ?_, by simpa only [List.append_assoc] using g2, e3.tr g3⟩
      rw [show n + (m + 1) + 1 = (n + m + 1) + 1 from by omega, fn_Md_signatureSection_61]
      unfold fn_Md_signatureSection_61_b
      simp only [bz_bn]
      rw [bz_m67_8 xm.1, bz_m72_m1 xm.1, bz_ck (by omega), bz_ck (by omega), c1, if_neg (by omega), bz_m67_11 xm.1, bz_m75_m1 xm.1, bz_w (show -2147483648 ≤ 8 * f by omega) (by omega), bz_w (show -2147483648 ≤ 8 * f + k by omega) (by omega), bz_ck (by omega), bz_ck (by omega), c6 k k0 (by omega), bz_tyM (by omega) (by omega), bz_bc, e1, bz_bc, bz_w (by omega) (by omega), g1]
  unfold bz_sig at hl ⊢
  rw [List.length_cons, List.length_append] at hl
  obtain ⟨h1, e1, e2, e3⟩ := bz_en_add (c := 96) (by omega) (by omega) h L xm (by rw [List.length_singleton]; omega)
  obtain ⟨h2, g1, g2, g3⟩ := bz_en_U (v := P 1 f) (by omega) (by omega) h1 _ e2 (by rw [List.length_append, List.length_singleton]; omega)
  obtain ⟨h3, i1, i2, i3⟩ := loop (P 1 f).toNat (3999 - (P 1 f).toNat) 0 h2 _ (by omega) (by omega) g2 (by rw [List.length_append, List.length_append, List.length_singleton]; omega)
  rw [show 3999 - (P 1 f).toNat + (P 1 f).toNat + 1 = qz_NF from by unfold qz_NF; omega] at i1
  refine ⟨h3, ?_, by simpa only [List.append_assoc, List.cons_append, List.nil_append] using i2, (e3.tr g3).tr i3⟩
  rw [e1, bz_bc, bz_m67_8 e2.1, bz_m72_m1 e2.1, bz_ck (by omega), bz_ck (by omega), (e2.2.1.2 f f0 f1).1, g1, bz_bc, bz_bn, i1]
theorem bz_en_tse (wf : bz_wf P) : bz_en P (fn_Md_signatureSection 67) (1 :: bz_szd (bz_tse P)) := by
  intro h L xm hl
  have w0 := wf.1
  have w := wf.2.1
  unfold bz_szd at hl ⊢
  rw [List.length_cons, List.length_append] at hl
  have hle : (bz_tse P).length = (bz_U (bz_sbf P (P 0 0).toNat)).length + (bz_fl (fun f => if bz_fi P f = f then bz_sig P f else []) 0 (P 0 0).toNat).length := by unfold bz_tse; rw [List.length_append]
  obtain ⟨h1, e1, e2, e3⟩ := bz_en_add (c := 1) (by omega) (by omega) h L xm (by rw [List.length_singleton]; omega)
  obtain ⟨r0, r1⟩ := bz_sbf_rg P (P 0 0).toNat
  obtain ⟨h3, i1, i2, i3⟩ := bz_en_U (v := bz_sbf P (P 0 0).toNat) r0 (by omega) h1 _ e2 (by rw [List.length_append, List.length_singleton]; omega)
  have loop : ∀ (m n : Nat) (f : Int) (h : qz_H) (B : List Int), (m : Int) + f = P 0 0 → 0 ≤ f → bz_XM h P ((L ++ [1]) ++ B) → L.length + 1 + B.length + (bz_fl (fun f => if bz_fi P f = f then bz_sig P f else []) f m).length ≤ 1000 → ∃ h', fn_Md_signatureSection_25 (n + m + 1) 67 ((L ++ [1]).length : Int) f h = some (0, h') ∧ bz_XM h' P ((L ++ [1]) ++ (bz_U (B ++ bz_fl (fun f => if bz_fi P f = f then bz_sig P f else []) f m).length ++ (B ++ bz_fl (fun f => if bz_fi P f = f then bz_sig P f else []) f m))) ∧ bz_fx h h' := by
    intro m
    induction m with
    | zero =>
      intro n f h B hm f0 xm hl
      obtain ⟨h', p1, p2, p3⟩ := bz_mPut xm (by rw [List.length_append, List.length_singleton]; omega)
      refine ⟨h', ?_, by rw [bz_fl, List.append_nil]; exact p2, p3⟩
      rw [fn_Md_signatureSection_25]
      unfold fn_Md_signatureSection_25_b
      rw [xm.2.1.1, if_pos (by omega), p1, bz_bc]
    | succ m ih =>
      intro n f h B hm f0 xm hl
      rw [bz_fl] at hl ⊢
      rw [List.length_append] at hl
      rw [show n + (m + 1) + 1 = (n + m + 1) + 1 from by omega, fn_Md_signatureSection_25]
      unfold fn_Md_signatureSection_25_b fn_Md_signatureSection_135
      rw [xm.2.1.1, if_neg (by omega), bz_fiM wf xm.1 xm.2.1 f0 (by omega), bz_bc]
      by_cases q : bz_fi P f = f
      · rw [if_neg (by omega)]
        simp only [if_pos q] at hl ⊢
        obtain ⟨h', k1, k2, k3⟩ := bz_sigM wf f0 (show f < P 0 0 by omega) (fn_Md_signatureSection_25 (n + m + 1)) ((L ++ [1]).length : Int) xm (by rw [List.length_append, List.length_append, List.length_singleton]; omega)
        rw [List.append_assoc] at k2
        obtain ⟨h'', l1, l2, l3⟩ := ih n (f + 1) h' (B ++ bz_sig P f) (by omega) (by omega) k2 (by rw [List.length_append]; omega)
        rw [List.append_assoc B] at l2
        exact ⟨h'', k1.trans l1, l2, k3.tr l3⟩
      · rw [if_pos q]
        simp only [if_neg q, bz_bn] at hl ⊢
        obtain ⟨h'', l1, l2, l3⟩ := ih n (f + 1) h B (by omega) (by omega) xm (by simp only [List.length_nil] at hl; omega)
        exact ⟨h'', by rw [bz_w (by omega) (by omega), l1], by rw [List.nil_append]; exact l2, l3⟩
  obtain ⟨h4, k1, k2, k3⟩ := loop (P 0 0).toNat (3999 - (P 0 0).toNat) 0 h3 _ (by omega) (by omega) i2 (by omega)
  rw [show 3999 - (P 0 0).toNat + (P 0 0).toNat + 1 = qz_NF from by unfold qz_NF; omega] at k1
  refine ⟨h4, ?_, ?_, (e3.tr i3).tr k3⟩
  · unfold fn_Md_signatureSection
    simp only [bz_bn]
    rw [e1, bz_bc, e2.2.2.1, e2.2.1.1, bz_sbM wf e2.1 e2.2.1 w0 (by omega), bz_bc, i1, bz_bc]
    exact k1
  · have e : bz_tse P = bz_U (bz_sbf P (P 0 0).toNat) ++ bz_fl (fun f => if bz_fi P f = f then bz_sig P f else []) 0 (P 0 0).toNat := rfl
    rw [← e] at k2
    rw [List.append_assoc] at k2
    exact k2
theorem bz_en_fse (wf : bz_wf P) : bz_en P (fn_Md_functionSection 67) (3 :: bz_szd (bz_fse P)) := by
  intro h L xm hl
  have w0 := wf.1
  have w := wf.2.1
  unfold bz_szd at hl ⊢
  rw [List.length_cons, List.length_append] at hl
  have hle : (bz_fse P).length = (bz_U (P 0 0)).length + (bz_fl (fun f => bz_U (bz_num0 P f)) 0 (P 0 0).toNat).length := by unfold bz_fse; rw [List.length_append]
  obtain ⟨h1, e1, e2, e3⟩ := bz_en_add (c := 3) (by omega) (by omega) h L xm (by rw [List.length_singleton]; omega)
  obtain ⟨h3, i1, i2, i3⟩ := bz_en_U (v := P 0 0) w0 (by omega) h1 _ e2 (by rw [List.length_append, List.length_singleton]; omega)
  have loop : ∀ (m n : Nat) (f : Int) (h : qz_H) (B : List Int), (m : Int) + f = P 0 0 → 0 ≤ f → bz_XM h P ((L ++ [3]) ++ B) → L.length + 1 + B.length + (bz_fl (fun f => bz_U (bz_num0 P f)) f m).length ≤ 1000 → ∃ h', fn_Md_functionSection_21 (n + m + 1) 67 ((L ++ [3]).length : Int) f h = some (0, h') ∧ bz_XM h' P ((L ++ [3]) ++ (bz_U (B ++ bz_fl (fun f => bz_U (bz_num0 P f)) f m).length ++ (B ++ bz_fl (fun f => bz_U (bz_num0 P f)) f m))) ∧ bz_fx h h' := by
    intro m
    induction m with
    | zero =>
      intro n f h B hm f0 xm hl
      obtain ⟨h', p1, p2, p3⟩ := bz_mPut xm (by rw [List.length_append, List.length_singleton]; omega)
      refine ⟨h', ?_, by rw [bz_fl, List.append_nil]; exact p2, p3⟩
      rw [fn_Md_functionSection_21]
      unfold fn_Md_functionSection_21_b
      rw [xm.2.1.1, if_pos (by omega), p1, bz_bc]
    | succ m ih =>
      intro n f h B hm f0 xm hl
      obtain ⟨r0, r1⟩ := bz_sbf_rg P (bz_fi P f).toNat
      obtain ⟨q0, q1, -⟩ := bz_fi_ok P f0
      rw [bz_fl] at hl ⊢
      rw [List.length_append] at hl
      obtain ⟨h', k1, k2, k3⟩ := bz_en_U (v := bz_num0 P f) r0 (by show bz_sbf P (bz_fi P f).toNat ≤ _; omega) h _ xm (by rw [List.length_append, List.length_append, List.length_singleton]; omega)
      rw [List.append_assoc] at k2
      obtain ⟨h'', l1, l2, l3⟩ := ih n (f + 1) h' (B ++ bz_U (bz_num0 P f)) (by omega) (by omega) k2 (by rw [List.length_append]; omega)
      rw [List.append_assoc B] at l2
      refine ⟨h'', ?_, l2, k3.tr l3⟩
      rw [show n + (m + 1) + 1 = (n + m + 1) + 1 from by omega, fn_Md_functionSection_21]
      unfold fn_Md_functionSection_21_b
      rw [xm.2.1.1, if_neg (by omega), bz_fiM wf xm.1 xm.2.1 f0 (by omega), bz_bc, bz_sbM wf xm.1 xm.2.1 q0 (by omega), bz_bc, k1, bz_bc, bz_bn, bz_w (by omega) (by omega), l1]
  obtain ⟨h4, k1, k2, k3⟩ := loop (P 0 0).toNat (3999 - (P 0 0).toNat) 0 h3 _ (by omega) (by omega) i2 (by omega)
  rw [show 3999 - (P 0 0).toNat + (P 0 0).toNat + 1 = qz_NF from by unfold qz_NF; omega] at k1
  refine ⟨h4, ?_, ?_, (e3.tr i3).tr k3⟩
  · unfold fn_Md_functionSection
    simp only [bz_bn]
    rw [e1, bz_bc, e2.2.2.1, e2.2.1.1, i1, bz_bc]
    exact k1
  · have e : bz_fse P = bz_U (P 0 0) ++ bz_fl (fun f => bz_U (bz_num0 P f)) 0 (P 0 0).toNat := rfl
    rw [← e] at k2
    rw [List.append_assoc] at k2
    exact k2
end SGM
