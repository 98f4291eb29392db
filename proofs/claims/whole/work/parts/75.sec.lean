/-! The sections. -/
def bz_sig (P : qz_H) (f : Int) : List Int := 96 :: (bz_U (P 1 f) ++ (bz_fl (fun k => [bz_ty (P 7 (8 * f + k))]) 0 (P 1 f).toNat ++ (bz_U (if P 3 f = 0 then 0 else 1) ++ (if P 3 f = 0 then [] else [bz_ty (P 3 f)]))))
noncomputable def bz_tse (P : qz_H) : List Int := bz_U (bz_sbf P (P 0 0).toNat) ++ bz_fl (fun f => if bz_fi P f = f then bz_sig P f else []) 0 (P 0 0).toNat
noncomputable def bz_fse (P : qz_H) : List Int := bz_U (P 0 0) ++ bz_fl (fun f => bz_U (bz_num0 P f)) 0 (P 0 0).toNat
/-- does a run of slots end at k -/
def bz_er (P : qz_H) (f k : Int) : Prop := ¬ k + 1 < P 2 f ∨ P 7 (8 * f + (k + 1)) ≠ P 7 (8 * f + k)
noncomputable def bz_rn (P : qz_H) (f : Int) : Nat → Int → Int → List Int
  | 0, _, _ => []
  | m + 1, k, r => @ite _ (bz_er P f k) (Classical.propDecidable _) (bz_U (r + 1) ++ (bz_ty (P 7 (8 * f + k)) :: bz_rn P f m (k + 1) 0)) (bz_rn P f m (k + 1) (r + 1))
noncomputable def bz_rc (P : qz_H) (f : Int) : Nat → Int → Int
  | 0, _ => 0
  | m + 1, k => @ite _ (bz_er P f k) (Classical.propDecidable _) 1 0 + bz_rc P f m (k + 1)
noncomputable def bz_rns (P : qz_H) (f : Int) : List Int := bz_U (bz_rc P f (P 2 f - P 1 f).toNat (P 1 f)) ++ bz_rn P f (P 2 f - P 1 f).toNat (P 1 f) 0
def bz_ib (P : qz_H) (i : Int) : List Int := P 5 i :: (if kz_dt (P 8 i) 2 = 0 then [] else if kz_dt (P 8 i) 2 = 1 then [bz_ty (P 6 i)] else if kz_dt (P 8 i) 2 = 5 ∨ kz_dt (P 8 i) 2 = 6 then bz_S (P 6 i) else bz_U (P 6 i))
noncomputable def bz_bdy (P : qz_H) (f : Int) : List Int := bz_rns P f ++ (bz_fl (bz_ib P) (P 4 f) (P 4 (f + 1) - P 4 f).toNat ++ [11])
def bz_szd (l : List Int) : List Int := bz_U l.length ++ l
noncomputable def bz_cse (P : qz_H) : List Int := bz_U (P 0 0) ++ bz_fl (fun f => bz_szd (bz_bdy P f)) 0 (P 0 0).toNat
noncomputable def bz_enc (P : qz_H) : List Int := [0, 97, 115, 109, 1, 0, 0, 0] ++ (if P 0 0 ≤ 0 then [] else (1 :: bz_szd (bz_tse P)) ++ ((3 :: bz_szd (bz_fse P)) ++ (10 :: bz_szd (bz_cse P))))
theorem bz_U1 {v : Int} (h0 : 0 ≤ v) (h1 : v ≤ 127) : bz_U v = [v] := by
  show bz_un 9 v = [v]
  rw [bz_un, if_pos h1]
  congr 1
  omega
theorem bz_rc_rg (P : qz_H) (f : Int) : ∀ (m : Nat) (k : Int), 0 ≤ bz_rc P f m k ∧ bz_rc P f m k ≤ m
  | 0, _ => by rw [bz_rc]; omega
  | m + 1, k => by
    have := bz_rc_rg P f m (k + 1)
    rw [bz_rc]
    by_cases c : bz_er P f k
    · rw [if_pos c]; omega
    · rw [if_neg c]; omega
section SEC
variable {M : Int} {P : qz_H}
/-- a piece of the encoder that only adds -/
def bz_em (M : Int) (P : qz_H) (fn : qz_H → Option qz_R) (l : List Int) : Prop := ∀ (h : qz_H) (L : List Int), bz_XC h M P L → L.length + l.length ≤ 1000 → ∃ h', fn h = some (0, h') ∧ bz_XC h' M P (L ++ l) ∧ bz_fe h h'
theorem bz_em_add (hM : M = 6 ∨ M = 18) (wf : bz_wf P) {c : Int} (c0 : 0 ≤ c) (c1 : c ≤ 255) : bz_em M P (fn_Encoder_add 63 c) [c] := fun h L xc hl => by
  rw [List.length_singleton] at hl
  obtain ⟨h', e1, e2, e3, -⟩ := bz_eAdd hM wf xc (by omega) c0 c1
  exact ⟨h', e1, e2, e3⟩
theorem bz_em_U (hM : M = 6 ∨ M = 18) (wf : bz_wf P) {v : Int} (v0 : 0 ≤ v) (v1 : v ≤ 4294967295) : bz_em M P (fn_Encoder_addUnsigned 63 v) (bz_U v) := fun h L xc hl => by
  obtain ⟨h', e1, e2, e3, -⟩ := bz_eU hM wf v0 v1 xc (by omega)
  exact ⟨h', e1, e2, e3⟩
theorem bz_em_T (hM : M = 6 ∨ M = 18) (wf : bz_wf P) (t : Int) : bz_em M P (fn_Encoder_addType 63 t) [bz_ty t] := fun h L xc hl => by
  rw [List.length_singleton] at hl
  exact bz_eT hM wf t xc (by omega)
theorem bz_em_sig (hM : M = 6 ∨ M = 18) (wf : bz_wf P) {f : Int} (f0 : 0 ≤ f) (f1 : f < P 0 0) : bz_em M P (fn_Encoder_addSignature 63 (M + 4 + 2 * f)) (bz_sig P f) := by
  have w := wf.2.1
  obtain ⟨x1, x2, x3, x4, x5, x6, x7, x8, x9, x10, x11⟩ := wf.2.2 f f0 f1
  have loop : ∀ (m n : Nat) (k : Int) (h : qz_H) (L : List Int), (m : Int) + k = P 1 f → 0 ≤ k → bz_XC h M P L → L.length + (bz_fl (fun k => [bz_ty (P 7 (8 * f + k))]) k m ++ (bz_U (if P 3 f = 0 then 0 else 1) ++ (if P 3 f = 0 then [] else [bz_ty (P 3 f)]))).length ≤ 1000 → ∃ h', fn_Encoder_addSignature_17 (n + m + 1) 63 (M + 4 + 2 * f) k h = some (0, h') ∧ bz_XC h' M P (L ++ (bz_fl (fun k => [bz_ty (P 7 (8 * f + k))]) k m ++ (bz_U (if P 3 f = 0 then 0 else 1) ++ (if P 3 f = 0 then [] else [bz_ty (P 3 f)])))) ∧ bz_fe h h' := by
    intro m
    induction m with
    | zero =>
      intro n k h L hm k0 xc hl
      obtain ⟨c1, c2, c3, c4, c5, c6, c7⟩ := xc.2.1.2 f f0 f1
      rw [bz_fl, List.nil_append] at hl ⊢
      rw [List.length_append] at hl
      rw [fn_Encoder_addSignature_17]
      unfold fn_Encoder_addSignature_17_b fn_Encoder_addSignature_47 fn_Encoder_addSignature_60 fn_Encoder_addSignature_78
      rw [bz_ck (by omega), c1, if_pos (by omega), bz_ck (by omega), c3]
      by_cases q : P 3 f = 0
      · simp only [if_pos q] at hl ⊢
        obtain ⟨h', e1, e2, e3⟩ := bz_em_U hM wf (v := 0) (by omega) (by omega) h L xc (by omega)
        obtain ⟨d1, d2, d3, d4, d5, d6, d7⟩ := e2.2.1.2 f f0 f1
        rw [if_neg (by omega), e1, bz_bc, bz_ck (by omega), d3, if_pos q, List.append_nil]
        exact ⟨h', rfl, e2, e3⟩
      · simp only [if_neg q] at hl ⊢
        obtain ⟨h', e1, e2, e3⟩ := bz_em_U hM wf (v := 1) (by omega) (by omega) h L xc (by omega)
        obtain ⟨d1, d2, d3, d4, d5, d6, d7⟩ := e2.2.1.2 f f0 f1
        obtain ⟨h2, g1, g2, g3⟩ := bz_em_T hM wf (P 3 f) h' _ e2 (by rw [List.length_append]; omega)
        rw [if_pos q, e1, bz_bc, bz_ck (by omega), d3, if_neg q, bz_ck (by omega), g1, bz_bc]
        rw [List.append_assoc] at g2
        exact ⟨h2, rfl, g2, e3.tr g3⟩
    | succ m ih =>
      intro n k h L hm k0 xc hl
      obtain ⟨b1, b2, b3⟩ := bz_fun xc.1 hM f0 (show f ≤ 3 by omega)
      obtain ⟨c1, c2, c3, c4, c5, c6, c7⟩ := xc.2.1.2 f f0 f1
      rw [bz_fl] at hl ⊢
      simp only [List.cons_append, List.nil_append, List.length_cons] at hl
      obtain ⟨h', e1, e2, e3⟩ := bz_em_T hM wf (P 7 (8 * f + k)) h L xc (by rw [List.length_singleton]; omega)
      obtain ⟨h2, g1, g2, g3⟩ := ih n (k + 1) h' (L ++ [bz_ty (P 7 (8 * f + k))]) (by omega) (by omega) e2 (by rw [List.length_append, List.length_singleton]; omega)
      refine ⟨h2, ?_, by simpa only [List.append_assoc] using g2, e3.tr g3⟩
      rw [show n + (m + 1) + 1 = (n + m + 1) + 1 from by omega, fn_Encoder_addSignature_17]
      unfold fn_Encoder_addSignature_17_b
      rw [bz_ck (by omega), c1, if_neg (by omega), if_neg (by omega), bz_ck (by omega), b2, bz_ck (by omega), b3, bz_ck (by omega), c6 k k0 (by omega), e1, bz_bc, bz_bn, bz_w (by omega) (by omega), g1]
  intro h L xc hl
  unfold bz_sig at hl ⊢
  rw [List.length_cons, List.length_append] at hl
  obtain ⟨h1, e1, e2, e3⟩ := bz_em_add hM wf (c := 96) (by omega) (by omega) h L xc (by rw [List.length_singleton]; omega)
  obtain ⟨h2, g1, g2, g3⟩ := bz_em_U hM wf (v := P 1 f) (by omega) (by omega) h1 _ e2 (by rw [List.length_append, List.length_singleton]; omega)
  obtain ⟨h3, i1, i2, i3⟩ := loop (P 1 f).toNat (3999 - (P 1 f).toNat) 0 h2 _ (by omega) (by omega) g2 (by rw [List.length_append, List.length_append, List.length_singleton]; omega)
  rw [show 3999 - (P 1 f).toNat + (P 1 f).toNat + 1 = qz_NF from by unfold qz_NF; omega] at i1
  refine ⟨h3, ?_, by simpa only [List.append_assoc, List.cons_append, List.nil_append] using i2, (e3.tr g3).tr i3⟩
  unfold fn_Encoder_addSignature
  rw [e1, bz_bc, bz_ck (by omega), (e2.2.1.2 f f0 f1).1, g1, bz_bc, bz_bn, i1]
/-- the section of signatures, and that of their numbers -/
theorem bz_fr_tse (hM : M = 6 ∨ M = 18) (wf : bz_wf P) {h : qz_H} {L : List Int} (xc : bz_XC h M P L) (hl : L.length + (1 :: bz_szd (bz_tse P)).length ≤ 1000) : ∃ h', fn_Encoder_addSignatures 63 M h = some (0, h') ∧ bz_XC h' M P (L ++ 1 :: bz_szd (bz_tse P)) ∧ (∀ f : Int, 0 ≤ f → f < P 0 0 → h' 65 f = bz_num0 P f) ∧ ∀ o i : Int, o ≠ 64 → o ≠ 65 → ¬ (o = 63 ∧ i = 2) → h' o i = h o i := by
  have w0 := wf.1
  have w := wf.2.1
  unfold bz_szd at hl ⊢
  rw [List.length_cons, List.length_append] at hl
  have hle : (bz_tse P).length = (bz_U (bz_sbf P (P 0 0).toNat)).length + (bz_fl (fun f => if bz_fi P f = f then bz_sig P f else []) 0 (P 0 0).toNat).length := by unfold bz_tse; rw [List.length_append]
  obtain ⟨h1, e1, e2, e3⟩ := bz_em_add hM wf (c := 1) (by omega) (by omega) h L xc (by rw [List.length_singleton]; omega)
  obtain ⟨h2, g1, g2, g3, g4⟩ := bz_numsC hM wf e2
  obtain ⟨r0, r1⟩ := bz_sbf_rg P (P 0 0).toNat
  obtain ⟨h3, i1, i2, i3⟩ := bz_em_U hM wf (v := bz_sbf P (P 0 0).toNat) r0 (by omega) h2 _ g2 (by rw [List.length_append, List.length_singleton]; omega)
  have s3 : ∀ f : Int, 0 ≤ f → f < P 0 0 → h3 65 f = bz_num0 P f := fun f f0 f1 => (i3 65 f (by omega) (by omega)).trans (g4 f f0 f1)
  have loop : ∀ (m n : Nat) (f : Int) (h : qz_H) (B : List Int), (m : Int) + f = P 0 0 → 0 ≤ f → bz_XC h M P ((L ++ [1]) ++ B) → (∀ f : Int, 0 ≤ f → f < P 0 0 → h 65 f = bz_num0 P f) → L.length + 1 + B.length + (bz_fl (fun f => if bz_fi P f = f then bz_sig P f else []) f m).length ≤ 1000 → ∃ h', fn_Encoder_addSignatures_25 (n + m + 1) 63 M ((L ++ [1]).length : Int) (bz_sbf P f.toNat) f h = some (0, h') ∧ bz_XC h' M P ((L ++ [1]) ++ (bz_U (B ++ bz_fl (fun f => if bz_fi P f = f then bz_sig P f else []) f m).length ++ (B ++ bz_fl (fun f => if bz_fi P f = f then bz_sig P f else []) f m))) ∧ (∀ f : Int, 0 ≤ f → f < P 0 0 → h' 65 f = bz_num0 P f) ∧ bz_fe h h' := by
    intro m
    induction m with
    | zero =>
      intro n f h B hm f0 xc hs hl
      obtain ⟨h', p1, p2, p3⟩ := bz_ePut hM wf xc (by rw [List.length_append, List.length_singleton]; omega)
      refine ⟨h', ?_, by rw [bz_fl, List.append_nil]; exact p2, fun f f0 f1 => (p3 65 f (by omega) (by omega)).trans (hs f f0 f1), p3⟩
      rw [fn_Encoder_addSignatures_25]
      unfold fn_Encoder_addSignatures_25_b fn_Encoder_addSignatures_71
      rw [bz_ck (by omega), xc.2.1.1, if_pos (by omega), p1, bz_bc]
    | succ m ih =>
      intro n f h B hm f0 xc hs hl
      obtain ⟨a1, a2, a3, a4, a5, a6⟩ := bz_mod xc.1 hM
      obtain ⟨b1, b2, b3⟩ := bz_fun xc.1 hM f0 (show f ≤ 3 by omega)
      obtain ⟨r0, r1⟩ := bz_sbf_rg P f.toNat
      have e3 : bz_sbf P (f + 1).toNat = bz_sbf P f.toNat + if bz_fi P f = f then 1 else 0 := by
        rw [show (f + 1).toNat = f.toNat + 1 from by omega, bz_sbf, Int.toNat_of_nonneg f0]
      have iff := bz_sbf_iff P f0
      rw [bz_fl] at hl ⊢
      rw [List.length_append] at hl
      rw [show n + (m + 1) + 1 = (n + m + 1) + 1 from by omega, fn_Encoder_addSignatures_25]
      unfold fn_Encoder_addSignatures_25_b fn_Encoder_addSignatures_65
      simp only [bz_bn]
      rw [bz_ck (by omega), xc.2.1.1, if_neg (by omega), if_neg (by omega), bz_c63_1 xc.1, bz_c65_m1 xc.1, bz_ck (by omega), bz_ck (by omega), hs f f0 (by omega), bz_w (show -2147483648 ≤ f + 1 by omega) (by omega), bz_w (show -2147483648 ≤ bz_sbf P f.toNat + 1 by omega) (by omega)]
      by_cases q : bz_fi P f = f
      · rw [if_neg (fun z => z (iff.mpr q)), bz_ck (by omega), a1, bz_ck (by omega), a4, bz_ck (by omega), b1]
        simp only [if_pos q] at hl e3 ⊢
        obtain ⟨h', k1, k2, k3⟩ := bz_em_sig hM wf f0 (show f < P 0 0 by omega) h _ xc (by rw [List.length_append, List.length_append, List.length_singleton]; omega)
        rw [List.append_assoc] at k2
        obtain ⟨h'', l1, l2, l3, l4⟩ := ih n (f + 1) h' (B ++ bz_sig P f) (by omega) (by omega) k2 (fun f f0 f1 => (k3 65 f (by omega) (by omega)).trans (hs f f0 f1)) (by rw [List.length_append]; omega)
        rw [e3] at l1
        rw [List.append_assoc B] at l2
        exact ⟨h'', by rw [k1, bz_bc, l1], l2, l3, k3.tr l4⟩
      · rw [if_pos (fun z => q (iff.mp z))]
        simp only [if_neg q] at hl e3 ⊢
        obtain ⟨h'', l1, l2, l3, l4⟩ := ih n (f + 1) h B (by omega) (by omega) xc hs (by simp only [List.length_nil] at hl; omega)
        rw [e3, Int.add_zero] at l1
        exact ⟨h'', l1, by rw [List.nil_append]; exact l2, l3, l4⟩
  obtain ⟨h4, k1, k2, k3, k4⟩ := loop (P 0 0).toNat (3999 - (P 0 0).toNat) 0 h3 _ (by omega) (by omega) i2 s3 (by omega)
  rw [show 3999 - (P 0 0).toNat + (P 0 0).toNat + 1 = qz_NF from by unfold qz_NF; omega] at k1
  refine ⟨h4, ?_, ?_, k3, fun o i o1 o2 o3 => (((k4 o i o1 o3).trans (i3 o i o1 o3)).trans (g3 o i o2)).trans (e3 o i o1 o3)⟩
  · unfold fn_Encoder_addSignatures
    simp only [bz_bn]
    rw [e1, bz_bc, e2.2.2.1, g1, bz_bc, i1, bz_bc]
    exact k1
  · have e : bz_tse P = bz_U (bz_sbf P (P 0 0).toNat) ++ bz_fl (fun f => if bz_fi P f = f then bz_sig P f else []) 0 (P 0 0).toNat := rfl
    rw [← e] at k2
    rw [List.append_assoc] at k2
    exact k2
theorem bz_fr_fse (hM : M = 6 ∨ M = 18) (wf : bz_wf P) {h : qz_H} {L : List Int} (xc : bz_XC h M P L) (hs : ∀ f : Int, 0 ≤ f → f < P 0 0 → h 65 f = bz_num0 P f) (hl : L.length + (3 :: bz_szd (bz_fse P)).length ≤ 1000) : ∃ h', fn_Encoder_addSignatureNumbers 63 M h = some (0, h') ∧ bz_XC h' M P (L ++ 3 :: bz_szd (bz_fse P)) ∧ ∀ o i : Int, o ≠ 64 → o ≠ 65 → ¬ (o = 63 ∧ i = 2) → h' o i = h o i := by
  have w0 := wf.1
  have w := wf.2.1
  unfold bz_szd at hl ⊢
  rw [List.length_cons, List.length_append] at hl
  have hle : (bz_fse P).length = (bz_U (P 0 0)).length + (bz_fl (fun f => bz_U (bz_num0 P f)) 0 (P 0 0).toNat).length := by unfold bz_fse; rw [List.length_append]
  obtain ⟨h1, e1, e2, e3⟩ := bz_em_add hM wf (c := 3) (by omega) (by omega) h L xc (by rw [List.length_singleton]; omega)
  obtain ⟨h3, i1, i2, i3⟩ := bz_em_U hM wf (v := P 0 0) w0 (by omega) h1 _ e2 (by rw [List.length_append, List.length_singleton]; omega)
  have s3 : ∀ f : Int, 0 ≤ f → f < P 0 0 → h3 65 f = bz_num0 P f := fun f f0 f1 => ((i3 65 f (by omega) (by omega)).trans (e3 65 f (by omega) (by omega))).trans (hs f f0 f1)
  have loop : ∀ (m n : Nat) (f : Int) (h : qz_H) (B : List Int), (m : Int) + f = P 0 0 → 0 ≤ f → bz_XC h M P ((L ++ [3]) ++ B) → (∀ f : Int, 0 ≤ f → f < P 0 0 → h 65 f = bz_num0 P f) → L.length + 1 + B.length + (bz_fl (fun f => bz_U (bz_num0 P f)) f m).length ≤ 1000 → ∃ h', fn_Encoder_addSignatureNumbers_21 (n + m + 1) 63 M ((L ++ [3]).length : Int) f h = some (0, h') ∧ bz_XC h' M P ((L ++ [3]) ++ (bz_U (B ++ bz_fl (fun f => bz_U (bz_num0 P f)) f m).length ++ (B ++ bz_fl (fun f => bz_U (bz_num0 P f)) f m))) ∧ bz_fe h h' := by
    intro m
    induction m with
    | zero =>
      intro n f h B hm f0 xc hs hl
      obtain ⟨h', p1, p2, p3⟩ := bz_ePut hM wf xc (by rw [List.length_append, List.length_singleton]; omega)
      refine ⟨h', ?_, by rw [bz_fl, List.append_nil]; exact p2, p3⟩
      rw [fn_Encoder_addSignatureNumbers_21]
      unfold fn_Encoder_addSignatureNumbers_21_b fn_Encoder_addSignatureNumbers_51
      rw [bz_ck (by omega), xc.2.1.1, if_pos (by omega), p1, bz_bc]
    | succ m ih =>
      intro n f h B hm f0 xc hs hl
      obtain ⟨r0, r1⟩ := bz_sbf_rg P (bz_fi P f).toNat
      obtain ⟨q0, q1, -⟩ := bz_fi_ok P f0
      rw [bz_fl] at hl ⊢
      rw [List.length_append] at hl
      obtain ⟨h', k1, k2, k3⟩ := bz_em_U hM wf (v := bz_num0 P f) r0 (by show bz_sbf P (bz_fi P f).toNat ≤ _; omega) h _ xc (by rw [List.length_append, List.length_append, List.length_singleton]; omega)
      rw [List.append_assoc] at k2
      obtain ⟨h'', l1, l2, l4⟩ := ih n (f + 1) h' (B ++ bz_U (bz_num0 P f)) (by omega) (by omega) k2 (fun f f0 f1 => (k3 65 f (by omega) (by omega)).trans (hs f f0 f1)) (by rw [List.length_append]; omega)
      rw [List.append_assoc B] at l2
      refine ⟨h'', ?_, l2, k3.tr l4⟩
      rw [show n + (m + 1) + 1 = (n + m + 1) + 1 from by omega, fn_Encoder_addSignatureNumbers_21]
      unfold fn_Encoder_addSignatureNumbers_21_b
      rw [bz_ck (by omega), xc.2.1.1, if_neg (by omega), if_neg (by omega), bz_c63_1 xc.1, bz_c65_m1 xc.1, bz_ck (by omega), bz_ck (by omega), hs f f0 (by omega), k1, bz_bc, bz_bn, bz_w (by omega) (by omega), l1]
  obtain ⟨h4, k1, k2, k4⟩ := loop (P 0 0).toNat (3999 - (P 0 0).toNat) 0 h3 _ (by omega) (by omega) i2 s3 (by omega)
  rw [show 3999 - (P 0 0).toNat + (P 0 0).toNat + 1 = qz_NF from by unfold qz_NF; omega] at k1
  refine ⟨h4, ?_, ?_, fun o i o1 o2 o3 => ((k4 o i o1 o3).trans (i3 o i o1 o3)).trans (e3 o i o1 o3)⟩
  · unfold fn_Encoder_addSignatureNumbers
    simp only [bz_bn]
    rw [e1, bz_bc, e2.2.2.1, bz_ck (by omega), e2.2.1.1, i1, bz_bc]
    exact k1
  · have e : bz_fse P = bz_U (P 0 0) ++ bz_fl (fun f => bz_U (bz_num0 P f)) 0 (P 0 0).toNat := rfl
    rw [← e] at k2
    rw [List.append_assoc] at k2
    exact k2
end SEC
