section CSM
variable {P : qz_H}
theorem bz_en_cse (wf : bz_wf P) : bz_en P (fn_Md_codeSection 67) (10 :: bz_szd (bz_cse P)) := by
  intro h L xm hl
  have w0 := wf.1
  have w := wf.2.1
  unfold bz_szd at hl ⊢
  rw [List.length_cons, List.length_append] at hl
  have hle : (bz_cse P).length = (bz_U (P 0 0)).length + (bz_fl (fun f => bz_szd (bz_bdy P f)) 0 (P 0 0).toNat).length := by unfold bz_cse; rw [List.length_append]
  obtain ⟨h1, e1, e2, e3⟩ := bz_en_add (c := 10) (by omega) (by omega) h L xm (by rw [List.length_singleton]; omega)
  obtain ⟨h3, i1, i2, i3⟩ := bz_en_U (v := P 0 0) w0 (by omega) h1 _ e2 (by rw [List.length_append, List.length_singleton]; omega)
  -- the rows of one function
  have rows : ∀ (k22 : Int → Int → Int → qz_H → Option qz_R) (b f : Int), 0 ≤ f → f < P 0 0 → ∀ (m n : Nat) (i : Int) (h : qz_H) (A B : List Int), (m : Int) + i = P 4 (f + 1) → P 4 f ≤ i → bz_XM h P (A ++ B) → A.length + B.length + (bz_fl (bz_ib P) i m).length + 1 ≤ 1000 → ∃ h', fn_Md_codeSection_48 k22 (n + m + 1) 67 b f A.length i h = k22 67 b (f + 1) h' ∧ bz_XM h' P (A ++ (bz_U (B ++ (bz_fl (bz_ib P) i m ++ [11])).length ++ (B ++ (bz_fl (bz_ib P) i m ++ [11])))) ∧ bz_fx h h' := by
    intro k22 b f f0 f1 m
    obtain ⟨x1, x2, x3, x4, x5, x6, x7, x8, x9, x10, x11⟩ := wf.2.2 f f0 f1
    induction m with
    | zero =>
      intro n i h A B hm i0 xm hl
      rw [bz_fl] at hl ⊢
      rw [List.length_nil] at hl
      obtain ⟨c1, c2, c3, c4, c5, c6, c7⟩ := xm.2.1.2 f f0 f1
      obtain ⟨h1, e1, e2, e3⟩ := bz_en_add (c := 11) (by omega) (by omega) h _ xm (by rw [List.length_append, List.length_singleton]; omega)
      rw [List.append_assoc] at e2
      obtain ⟨h2, g1, g2, g3⟩ := bz_mPut e2 (by rw [List.length_append, List.length_singleton]; omega)
      refine ⟨h2, ?_, by rw [List.nil_append]; exact g2, e3.tr g3⟩
      rw [fn_Md_codeSection_48]
      unfold fn_Md_codeSection_48_b
      rw [bz_m67_12 xm.1, bz_m76_m1 xm.1, bz_w (show -2147483648 ≤ f + 1 by omega) (by omega), bz_ck (by omega), bz_ck (by omega), c5, if_pos (by omega), e1, bz_bc, g1, bz_bc, bz_bn]
    | succ m ih =>
      intro n i h A B hm i0 xm hl
      rw [bz_fl] at hl ⊢
      rw [List.length_append] at hl
      obtain ⟨c1, c2, c3, c4, c5, c6, c7⟩ := xm.2.1.2 f f0 f1
      have hr := x11 i i0 (by omega)
      obtain ⟨h2, e1, e2, e3⟩ := bz_en_ib wf (show 0 ≤ i by omega) (by omega) hr (fun h mm => (mm.2 f f0 f1).2.2.2.2.2.2 i i0 (by omega)) h _ xm (by rw [List.length_append]; omega)
      rw [List.append_assoc] at e2
      obtain ⟨h3, i1, i2, i3⟩ := ih n (i + 1) h2 A (B ++ bz_ib P i) (by omega) (by omega) e2 (by rw [List.length_append]; omega)
      refine ⟨h3, ?_, by simpa only [List.append_assoc] using i2, e3.tr i3⟩
      rw [show n + (m + 1) + 1 = (n + m + 1) + 1 from by omega, fn_Md_codeSection_48]
      unfold fn_Md_codeSection_48_b
      rw [bz_m67_12 xm.1, bz_m76_m1 xm.1, bz_w (show -2147483648 ≤ f + 1 by omega) (by omega), bz_ck (by omega), bz_ck (by omega), c5, if_neg (by omega), e1, bz_bc, bz_bn, bz_w (by omega) (by omega), i1]
  have loop : ∀ (m n : Nat) (f : Int) (h : qz_H) (B : List Int), (m : Int) + f = P 0 0 → 0 ≤ f → bz_XM h P ((L ++ [10]) ++ B) → L.length + 1 + B.length + (bz_fl (fun f => bz_szd (bz_bdy P f)) f m).length ≤ 1000 → ∃ h', fn_Md_codeSection_22 (n + m + 1) 67 ((L ++ [10]).length : Int) f h = some (0, h') ∧ bz_XM h' P ((L ++ [10]) ++ (bz_U (B ++ bz_fl (fun f => bz_szd (bz_bdy P f)) f m).length ++ (B ++ bz_fl (fun f => bz_szd (bz_bdy P f)) f m))) ∧ bz_fx h h' := by
    intro m
    induction m with
    | zero =>
      intro n f h B hm f0 xm hl
      obtain ⟨h', p1, p2, p3⟩ := bz_mPut xm (by rw [List.length_append, List.length_singleton]; omega)
      refine ⟨h', ?_, by rw [bz_fl, List.append_nil]; exact p2, p3⟩
      rw [fn_Md_codeSection_22]
      unfold fn_Md_codeSection_22_b
      rw [xm.2.1.1, if_pos (by omega), p1, bz_bc]
    | succ m ih =>
      intro n f h B hm f0 xm hl
      have f1 : f < P 0 0 := by omega
      obtain ⟨x1, x2, x3, x4, x5, x6, x7, x8, x9, x10, x11⟩ := wf.2.2 f f0 f1
      rw [bz_fl] at hl ⊢
      have hlb : (bz_szd (bz_bdy P f)).length = (bz_U (bz_bdy P f).length).length + ((bz_rns P f).length + ((bz_fl (bz_ib P) (P 4 f) (P 4 (f + 1) - P 4 f).toNat).length + 1)) := by
        unfold bz_szd
        rw [List.length_append]
        unfold bz_bdy
        rw [List.length_append, List.length_append, List.length_singleton]
      rw [List.length_append] at hl
      obtain ⟨h1, k1, k2, k3⟩ := bz_en_rns wf f0 f1 h _ xm (by rw [List.length_append, List.length_append, List.length_singleton]; omega)
      obtain ⟨h2, l1, l2, l3⟩ := rows (fn_Md_codeSection_22 (n + m + 1)) ((L ++ [10]).length : Int) f f0 f1 (P 4 (f + 1) - P 4 f).toNat (3999 - (P 4 (f + 1) - P 4 f).toNat) (P 4 f) h1 ((L ++ [10]) ++ B) (bz_rns P f) (by omega) (by omega) k2 (by rw [List.length_append, List.length_append, List.length_singleton]; omega)
      rw [show 3999 - (P 4 (f + 1) - P 4 f).toNat + (P 4 (f + 1) - P 4 f).toNat + 1 = qz_NF from by unfold qz_NF; omega] at l1
      have e : bz_rns P f ++ (bz_fl (bz_ib P) (P 4 f) (P 4 (f + 1) - P 4 f).toNat ++ [11]) = bz_bdy P f := rfl
      rw [e, List.append_assoc] at l2
      have e' : bz_U (bz_bdy P f).length ++ bz_bdy P f = bz_szd (bz_bdy P f) := rfl
      rw [e'] at l2
      obtain ⟨h4, m1, m2, m3⟩ := ih n (f + 1) h2 (B ++ bz_szd (bz_bdy P f)) (by omega) (by omega) l2 (by rw [List.length_append]; omega)
      rw [List.append_assoc B] at m2
      refine ⟨h4, ?_, m2, (k3.tr l3).tr m3⟩
      rw [show n + (m + 1) + 1 = (n + m + 1) + 1 from by omega, fn_Md_codeSection_22]
      unfold fn_Md_codeSection_22_b
      simp only [bz_bn]
      rw [xm.2.1.1, if_neg (by omega), k1, bz_bc, bz_m67_12 k2.1, bz_m76_m1 k2.1, bz_ck (by omega), bz_ck (by omega), (k2.2.1.2 f f0 f1).2.2.2.1, xm.2.2.1, l1, m1]
  obtain ⟨h4, k1, k2, k3⟩ := loop (P 0 0).toNat (3999 - (P 0 0).toNat) 0 h3 _ (by omega) (by omega) i2 (by omega)
  rw [show 3999 - (P 0 0).toNat + (P 0 0).toNat + 1 = qz_NF from by unfold qz_NF; omega] at k1
  refine ⟨h4, ?_, ?_, (e3.tr i3).tr k3⟩
  · unfold fn_Md_codeSection
    simp only [bz_bn]
    rw [e1, bz_bc, e2.2.2.1, e2.2.1.1, i1, bz_bc]
    exact k1
  · have e : bz_cse P = bz_U (P 0 0) ++ bz_fl (fun f => bz_szd (bz_bdy P f)) 0 (P 0 0).toNat := rfl
    rw [← e] at k2
    rw [List.append_assoc] at k2
    exact k2
/-- the model has encoded -/
theorem bz_wrN (wf : bz_wf P) {h : qz_H} (hL : bz_LM h) (mm : bz_MM h P) : ∃ h', fn_Md_encode 67 h = some (((bz_enc P).length : Int), h') ∧ bz_LM h' ∧ bz_MM h' P ∧ h' 67 3 = 0 ∧ h' 67 58 = (bz_enc P).length ∧ (∀ k : Nat, k < (bz_enc P).length → h' 106 (k : Int) = (bz_enc P).getD k 0) ∧ (∀ o i : Int, o ≠ 67 → o ≠ 106 → o ≠ 107 → h' o i = h o i) ∧ ∀ i : Int, i ≠ 3 → i ≠ 58 → i ≠ 60 → h' 67 i = h 67 i := by
  have len := bz_enc_len wf
  have h0 : bz_XM (qz_up (qz_up h 67 3 0) 67 60 0) P [] := by
    refine ⟨bz_LM_up (a := 67) (b := 67) (c := 60) (e := 60) (by decide +kernel) (by omega) (by omega) (by omega) (by omega) (bz_th_LM hL 0), bz_MM_same (by rw [bz_ui (by omega), bz_ui (by omega)]) (fun o i o1 o2 => by rw [bz_uo (by omega), bz_uo (by omega)]) mm, bz_us _ _ _ _, fun k hk => by cases hk⟩
  obtain ⟨a1, b1, c1, d1⟩ := bz_en_add (c := 0) (by omega) (by omega) _ _ h0 (by simp)
  obtain ⟨a2, b2, c2, d2⟩ := bz_en_add (c := 97) (by omega) (by omega) a1 _ c1 (by simp)
  obtain ⟨a3, b3, c3, d3⟩ := bz_en_add (c := 115) (by omega) (by omega) a2 _ c2 (by simp)
  obtain ⟨a4, b4, c4, d4⟩ := bz_en_add (c := 109) (by omega) (by omega) a3 _ c3 (by simp)
  obtain ⟨a5, b5, c5, d5⟩ := bz_en_add (c := 1) (by omega) (by omega) a4 _ c4 (by simp)
  obtain ⟨a6, b6, c6, d6⟩ := bz_en_add (c := 0) (by omega) (by omega) a5 _ c5 (by simp)
  obtain ⟨a7, b7, c7, d7⟩ := bz_en_add (c := 0) (by omega) (by omega) a6 _ c6 (by simp)
  obtain ⟨a8, b8, c8, d8⟩ := bz_en_add (c := 0) (by omega) (by omega) a7 _ c7 (by simp)
  have fx8 : bz_fx (qz_up (qz_up h 67 3 0) 67 60 0) a8 := ((((((d1.tr d2).tr d3).tr d4).tr d5).tr d6).tr d7).tr d8
  have sec : ∃ h', (if P 0 0 ≤ 0 then fn_Md_encode_72 67 a8 else qz_bc (fn_Md_signatureSection 67 a8) fun _ h20 => qz_bc (fn_Md_functionSection 67 h20) fun _ h22 => qz_bc (fn_Md_codeSection 67 h22) fun _ h24 => fn_Md_encode_72 67 h24) = fn_Md_encode_72 67 h' ∧ bz_XM h' P (bz_enc P) ∧ bz_fx a8 h' := by
    unfold bz_enc at len ⊢
    rw [List.length_append] at len
    by_cases q : P 0 0 ≤ 0
    · rw [if_pos q, if_pos q, List.append_nil]
      exact ⟨a8, rfl, c8, bz_fx.rf _⟩
    · rw [if_neg q] at len ⊢
      rw [if_neg q]
      rw [List.length_append, List.length_append] at len
      simp only [List.length_cons, List.length_nil] at len
      obtain ⟨h2, f1, f2, f3⟩ := bz_en_tse wf a8 _ c8 (by simp only [List.length_append, List.length_cons, List.length_nil]; omega)
      obtain ⟨h3, g1, g2, g3⟩ := bz_en_fse wf h2 _ f2 (by simp only [List.length_append, List.length_cons, List.length_nil]; omega)
      obtain ⟨h4, i1, i2, i3⟩ := bz_en_cse wf h3 _ g2 (by simp only [List.length_append, List.length_cons, List.length_nil]; omega)
      refine ⟨h4, by rw [f1, bz_bc, g1, bz_bc, i1, bz_bc], ?_, (f3.tr g3).tr i3⟩
      simpa only [List.append_assoc, List.nil_append, List.cons_append] using i2
  obtain ⟨h9, s1, s2, s3⟩ := sec
  have fx9 := fx8.tr s3
  -- the copy
  have cpy : ∀ (m n : Nat) (k : Int) (h : qz_H), bz_LM h → 0 ≤ k → (m : Int) + k = h 67 60 → h 67 60 ≤ 1000 → ∃ h', fn_Md_encode_74 (n + m + 1) 67 k h = some (h 67 60, h') ∧ bz_LM h' ∧ h' 67 58 = h 67 60 ∧ (∀ i : Int, i ≠ 58 → h' 67 i = h 67 i) ∧ (∀ o i : Int, o ≠ 67 → o ≠ 106 → h' o i = h o i) ∧ ∀ j : Int, h' 106 j = if k ≤ j ∧ j < h 67 60 then h 107 j else h 106 j := by
    intro m
    induction m with
    | zero =>
      intro n k h hL k0 hm hn
      rw [fn_Md_encode_74]
      unfold fn_Md_encode_74_b
      rw [if_pos (by omega), bz_ck (by omega), bz_bn, bz_us]
      refine ⟨_, rfl, bz_LM_up (a := 67) (b := 67) (c := 58) (e := 58) (by decide +kernel) (by omega) (by omega) (by omega) (by omega) hL, bz_us _ _ _ _, fun i hi => bz_ui hi, fun o i h1 h2 => bz_uo h1, fun j => ?_⟩
      rw [bz_uo (by omega), if_neg (by omega)]
    | succ m ih =>
      intro n k h hL k0 hm hn
      have hL1 : bz_LM (qz_up h 106 k (h 107 k)) := bz_LM_up (a := 106) (b := 106) (c := 0) (e := 1400) (by decide +kernel) (by omega) (by omega) (by omega) (by omega) hL
      have e60 : qz_up h 106 k (h 107 k) 67 60 = h 67 60 := bz_uo (by omega)
      obtain ⟨h', g1, g2, g3, g4, g5, g6⟩ := ih n (k + 1) (qz_up h 106 k (h 107 k)) hL1 (by omega) (by omega) (by omega)
      rw [e60] at g1 g3
      refine ⟨h', ?_, g2, g3, fun i hi => (g4 i hi).trans (bz_uo (by omega)), fun o i h1 h2 => (g5 o i h1 h2).trans (bz_uo h2), fun j => ?_⟩
      · rw [show n + (m + 1) + 1 = (n + m + 1) + 1 from by omega, fn_Md_encode_74]
        unfold fn_Md_encode_74_b
        rw [if_neg (by omega), bz_m67_61 hL, bz_m67_59 hL, bz_m107_m1 hL, bz_m106_m1 hL, bz_ck (by omega), bz_ck (by omega), bz_ck (by omega), bz_ck (by omega), bz_bn, bz_bn, bz_w (by omega) (by omega), g1]
      · rw [g6 j, e60]
        by_cases q : k + 1 ≤ j ∧ j < h 67 60
        · rw [if_pos q, if_pos (by omega), bz_uo (by omega)]
        · rw [if_neg q]
          by_cases q2 : j = k
          · rw [if_pos (by omega), q2, bz_us]
          · rw [if_neg (by omega), bz_ui q2]
  obtain ⟨h', g1, g2, g3, g4, g5, g6⟩ := cpy (bz_enc P).length (3999 - (bz_enc P).length) 0 h9 s2.1 (by omega) (by rw [s2.2.2.1]; omega) (by rw [s2.2.2.1]; omega)
  rw [show 3999 - (bz_enc P).length + (bz_enc P).length + 1 = qz_NF from by unfold qz_NF; omega, s2.2.2.1] at g1
  refine ⟨h', ?_, g2, ?_, ?_, by rw [g3, s2.2.2.1], fun k hk => ?_, fun o i o1 o2 o3 => ?_, fun i i1 i2 i3 => ?_⟩
  · unfold fn_Md_encode
    rw [bz_ck (by omega), bz_bn, bz_ck (by omega), bz_bn, b1, bz_bc, b2, bz_bc, b3, bz_bc, b4, bz_bc, b5, bz_bc, b6, bz_bc, b7, bz_bc, b8, bz_bc, c8.2.1.1, s1]
    unfold fn_Md_encode_72
    rw [bz_bn, g1]
  · exact bz_MM_same (g4 7 (by omega)) (fun o i o1 o2 => g5 o i (by omega) (by omega)) s2.2.1
  · rw [g4 3 (by omega), fx9 67 3 (by omega) (by omega), bz_ui (by omega), bz_us]
  · rw [g6 k, s2.2.2.1, if_pos (by omega), s2.2.2.2 k hk]
  · rw [g5 o i o1 o2, fx9 o i o3 (by omega), bz_uo o1, bz_uo o1]
  · rw [g4 i i2, fx9 67 i (by omega) (by omega), bz_ui i3, bz_ui i1]
/-- encode -/
theorem bz_encode {hc hm : qz_H} {M : Int} (hL : bz_LC hc) (hLM : bz_LM hm) (hM : M = 6 ∨ M = 18) (h6 : hc 1 6 = M) (wf : bz_wf P) (mc : bz_MC hc M P) (mm : bz_MM hm P) :
    ∃ n hc' hm', fn_SA_encode 1 hc = some (n, hc') ∧ fn_Md_encode 67 hm = some (n, hm') ∧ bz_LC hc' ∧ bz_LM hm' ∧ bz_RE hc' hm' ∧ (∀ o i : Int, o ≠ 63 → o ≠ 64 → o ≠ 65 → hc' o i = hc o i) ∧ (∀ o i : Int, o ≠ 67 → o ≠ 106 → o ≠ 107 → hm' o i = hm o i) ∧ ∀ i : Int, i ≠ 3 → i ≠ 58 → i ≠ 60 → hm' 67 i = hm 67 i := by
  obtain ⟨hc', a1, a2, a3⟩ := bz_wrE hM wf hL mc h6
  obtain ⟨hm', b1, b2, b3, b4, b5, b6, b7, b8⟩ := bz_wrN wf hLM mm
  have len := bz_enc_len wf
  refine ⟨_, hc', hm', a1, b1, a2.1, b2, ⟨by rw [a2.2.2.1]; omega, by rw [a2.2.2.1]; omega, by rw [b5, a2.2.2.1], fun k k0 k1 => ?_⟩, fun o i o1 o2 o3 => a3 o i o2 o3 (by omega), b7, b8⟩
  rw [a2.2.2.1] at k1
  have e : k = ((k.toNat : Nat) : Int) := by omega
  rw [e, a2.2.2.2 k.toNat (by omega), b6 k.toNat (by omega)]
end CSM
