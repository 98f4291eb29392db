/-! How long the bytes are at most. -/
theorem bz_U1_len {v : Int} (h0 : 0 ≤ v) (h1 : v ≤ 127) : (bz_U v).length = 1 := by rw [bz_U1 h0 h1]; rfl
theorem bz_rn_len (P : qz_H) (f : Int) : ∀ (m : Nat) (k r : Int), 0 ≤ r → r + m ≤ 100 → (bz_rn P f m k r).length ≤ 2 * m
  | 0, _, _, _, _ => by rw [bz_rn]; simp
  | m + 1, k, r, h0, h1 => by
    have i1 := bz_rn_len P f m (k + 1) 0 (by omega) (by omega)
    have i2 := bz_rn_len P f m (k + 1) (r + 1) (by omega) (by omega)
    have l := bz_U1_len (show 0 ≤ r + 1 by omega) (by omega)
    rw [bz_rn]
    by_cases c : bz_er P f k
    · rw [if_pos c, List.length_append, List.length_cons]; omega
    · rw [if_neg c]; omega
theorem bz_bdy_len {P : qz_H} {f : Int} (hf : bz_fok P f) : (bz_szd (bz_bdy P f)).length ≤ 20 + 11 * (P 4 (f + 1) - P 4 f).toNat := by
  obtain ⟨x1, x2, x3, x4, x5, x6, x7, x8, x9, x10, x11⟩ := hf
  obtain ⟨r0, r1⟩ := bz_rc_rg P f (P 2 f - P 1 f).toNat (P 1 f)
  have l1 := bz_U1_len r0 (by omega)
  have l2 := bz_rn_len P f (P 2 f - P 1 f).toNat (P 1 f) 0 (by omega) (by omega)
  have l3 := bz_fl_len (bz_ib_len P) (P 4 (f + 1) - P 4 f).toNat (P 4 f)
  have hl : (bz_bdy P f).length ≤ 18 + 11 * (P 4 (f + 1) - P 4 f).toNat := by
    unfold bz_bdy bz_rns
    simp only [List.length_append, List.length_singleton]
    omega
  have l4 := bz_U2_len (show ((bz_bdy P f).length : Int) < 16384 by omega)
  unfold bz_szd
  rw [List.length_append]
  omega
theorem bz_sig_len {P : qz_H} {f : Int} (hf : bz_fok P f) : (bz_sig P f).length ≤ 10 := by
  obtain ⟨x1, x2, x3, x4, x5, x6, x7, x8, x9, x10, x11⟩ := hf
  have l1 := bz_U1_len x1 (by omega)
  have l2 := bz_fl_len (g := fun k => [bz_ty (P 7 (8 * f + k))]) (B := 1) (fun k => Nat.le_refl _) (P 1 f).toNat 0
  have l3 := bz_U1_len (show (0 : Int) ≤ (if P 3 f = 0 then 0 else 1) by split <;> omega) (by split <;> omega)
  have l4 : (if P 3 f = 0 then [] else [bz_ty (P 3 f)]).length ≤ 1 := by split <;> simp
  unfold bz_sig
  simp only [List.length_append, List.length_cons]
  omega
theorem bz_enc_len {P : qz_H} (wf : bz_wf P) : (bz_enc P).length ≤ 900 := by
  have w0 := wf.1
  have w := wf.2.1
  have t1 : ∀ (m : Nat) (f : Int), 0 ≤ f → f + m ≤ P 0 0 → (bz_fl (fun f => if bz_fi P f = f then bz_sig P f else []) f m).length ≤ 10 * m := by
    intro m
    induction m with
    | zero => intro f _ _; rw [bz_fl]; simp
    | succ m ih =>
      intro f f0 f1
      have i := ih (f + 1) (by omega) (by omega)
      have l := bz_sig_len (wf.2.2 f f0 (by omega))
      rw [bz_fl, List.length_append]
      split
      · omega
      · simp only [List.length_nil]; omega
  have t2 : ∀ (m : Nat) (f : Int), 0 ≤ f → f + m ≤ P 0 0 → (bz_fl (fun f => bz_U (bz_num0 P f)) f m).length ≤ m := by
    intro m
    induction m with
    | zero => intro f _ _; rw [bz_fl]; simp
    | succ m ih =>
      intro f f0 f1
      have i := ih (f + 1) (by omega) (by omega)
      obtain ⟨q0, q1, -⟩ := bz_fi_ok P f0
      obtain ⟨r0, r1⟩ := bz_sbf_rg P (bz_fi P f).toNat
      have l := bz_U1_len (v := bz_num0 P f) r0 (by show bz_sbf P (bz_fi P f).toNat ≤ _; omega)
      rw [bz_fl, List.length_append]
      omega
  have t3 : ∀ (m : Nat) (f : Int), 0 ≤ f → f + m ≤ P 0 0 → (bz_fl (fun f => bz_szd (bz_bdy P f)) f m).length ≤ 20 * m + 11 * (P 4 (f + m) - P 4 f).toNat ∧ (m = 0 ∨ P 4 f ≤ P 4 (f + m)) := by
    intro m
    induction m with
    | zero => intro f _ _; rw [bz_fl]; simp
    | succ m ih =>
      intro f f0 f1
      obtain ⟨i, i2⟩ := ih (f + 1) (by omega) (by omega)
      have hf := wf.2.2 f f0 (by omega)
      have l := bz_bdy_len hf
      have hm := hf.2.2.2.2.2.2.2.1
      have e : f + 1 + (m : Int) = f + ((m + 1 : Nat) : Int) := by omega
      rw [e] at i i2
      have hm2 : P 4 (f + 1) ≤ P 4 (f + ((m + 1 : Nat) : Int)) := by
        rcases i2 with i2 | i2
        · subst i2
          exact Int.le_refl _
        · exact i2
      refine ⟨?_, Or.inr (by omega)⟩
      rw [bz_fl, List.length_append]
      omega
  unfold bz_enc
  rw [List.length_append]
  by_cases q : P 0 0 ≤ 0
  · rw [if_pos q]; decide
  · rw [if_neg q]
    obtain ⟨r0, r1⟩ := bz_sbf_rg P (P 0 0).toNat
    have a1 := bz_U1_len (v := bz_sbf P (P 0 0).toNat) r0 (by omega)
    have a2 := t1 (P 0 0).toNat 0 (by omega) (by omega)
    have a3 := bz_U1_len w0 (show P 0 0 ≤ 127 by omega)
    have a4 := t2 (P 0 0).toNat 0 (by omega) (by omega)
    obtain ⟨a5, -⟩ := t3 (P 0 0).toNat 0 (by omega) (by omega)
    have hl := wf.2.2 (P 0 0 - 1) (by omega) (by omega)
    have h0 := (wf.2.2 0 (by omega) (by omega)).2.2.2.2.2.2.1
    have h9 := hl.2.2.2.2.2.2.2.2.1
    rw [show P 0 0 - 1 + 1 = P 0 0 from by omega] at h9
    rw [show (0 : Int) + ((P 0 0).toNat : Int) = P 0 0 from by omega] at a5
    have b1 : (bz_tse P).length ≤ 41 := by unfold bz_tse; rw [List.length_append]; omega
    have b2 : (bz_fse P).length ≤ 5 := by unfold bz_fse; rw [List.length_append]; omega
    have b3 : (bz_cse P).length ≤ 785 := by unfold bz_cse; rw [List.length_append]; omega
    have s1 := bz_U2_len (show ((bz_tse P).length : Int) < 16384 by omega)
    have s2 := bz_U2_len (show ((bz_fse P).length : Int) < 16384 by omega)
    have s3 := bz_U2_len (show ((bz_cse P).length : Int) < 16384 by omega)
    unfold bz_szd
    simp only [List.length_append, List.length_cons, List.length_nil]
    omega
/-- the class has encoded -/
theorem bz_wrE {M : Int} {P : qz_H} (hM : M = 6 ∨ M = 18) (wf : bz_wf P) {h : qz_H} (hL : bz_LC h) (mc : bz_MC h M P) (h16 : h 1 6 = M) : ∃ h', fn_SA_encode 1 h = some (((bz_enc P).length : Int), h') ∧ bz_XC h' M P (bz_enc P) ∧ ∀ o i : Int, o ≠ 64 → o ≠ 65 → ¬ (o = 63 ∧ i = 2) → h' o i = h o i := by
  have w0 := wf.1
  have w := wf.2.1
  have len := bz_enc_len wf
  have h0 : bz_XC (qz_up h 63 2 0) M P [] := ⟨bz_LC_up (a := 63) (b := 63) (c := 2) (e := 2) (by decide +kernel) (by omega) (by omega) (by omega) (by omega) (by omega) hL, bz_MC_same hM wf (fun o i o1 o2 => bz_uo (by omega)) mc, bz_us _ _ _ _, fun k hk => by cases hk⟩
  have head : ∀ (m n : Nat) (k : Nat) (h : qz_H), m + k = 8 → bz_XC h M P (([0, 97, 115, 109, 1, 0, 0, 0] : List Int).take k) → ∃ h', fn_Encoder_write_7 (n + m + 1) 63 M (k : Int) h = fn_Encoder_write_7 (n + 1) 63 M 8 h' ∧ bz_XC h' M P [0, 97, 115, 109, 1, 0, 0, 0] ∧ bz_fe h h' := by
    intro m
    induction m with
    | zero =>
      intro n k h hm xc
      have e : k = 8 := by omega
      subst e
      exact ⟨h, rfl, xc, bz_fe.rf _⟩
    | succ m ih =>
      intro n k h hm xc
      have hk : k < 8 := by omega
      have hv : ∀ k, k < 8 → 0 ≤ kz_hdr.getD k 0 ∧ kz_hdr.getD k 0 ≤ 255 ∧ ([0, 97, 115, 109, 1, 0, 0, 0] : List Int).take k ++ [kz_hdr.getD k 0] = ([0, 97, 115, 109, 1, 0, 0, 0] : List Int).take (k + 1) ∧ kz_dt (-32) (k : Int) = kz_hdr.getD k 0 := by decide +kernel
      obtain ⟨v0, v1, v2, v3⟩ := hv k hk
      obtain ⟨h1, e1, e2, e3⟩ := bz_em_add hM wf v0 v1 h _ xc (by simp; omega)
      rw [v2] at e2
      obtain ⟨h2, g1, g2, g3⟩ := ih n (k + 1) h1 (by omega) e2
      refine ⟨h2, ?_, g2, e3.tr g3⟩
      rw [show n + (m + 1) + 1 = (n + m + 1) + 1 from by omega, fn_Encoder_write_7]
      unfold fn_Encoder_write_7_b
      rw [xc.1.2 (-32) (-1) (by omega) (by omega) (by omega) (by omega), show kz_dt (-32) (-1) = 8 from by decide +kernel, if_neg (by omega), bz_ck (by omega), xc.1.2 (-32) k (by omega) (by omega) (by omega) (by omega), v3, e1, bz_bc, bz_bn, bz_w (by omega) (by omega)]
      rw [show (k : Int) + 1 = ((k + 1 : Nat) : Int) from by omega, g1]
  obtain ⟨h1, e1, e2, e3⟩ := head 8 3991 0 (qz_up h 63 2 0) rfl h0
  have fr0 : ∀ o i : Int, o ≠ 64 → o ≠ 65 → ¬ (o = 63 ∧ i = 2) → h1 o i = h o i := fun o i o1 o2 o3 => (e3 o i o1 o3).trans (if_neg o3)
  -- the sections
  have sec : ∃ h', fn_Encoder_write_7 (3991 + 1) 63 M 8 h1 = some (0, h') ∧ bz_XC h' M P (bz_enc P) ∧ ∀ o i : Int, o ≠ 64 → o ≠ 65 → ¬ (o = 63 ∧ i = 2) → h' o i = h1 o i := by
    rw [fn_Encoder_write_7]
    unfold fn_Encoder_write_7_b fn_Encoder_write_52
    rw [e2.1.2 (-32) (-1) (by omega) (by omega) (by omega) (by omega), show kz_dt (-32) (-1) = 8 from by decide +kernel, if_pos (by omega), bz_ck (by omega), e2.2.1.1]
    unfold bz_enc at len ⊢
    rw [List.length_append] at len
    by_cases q : P 0 0 ≤ 0
    · rw [if_pos q, if_pos q, List.append_nil]
      exact ⟨h1, rfl, e2, fun _ _ _ _ _ => rfl⟩
    · rw [if_neg q] at len ⊢
      rw [if_neg q]
      rw [List.length_append, List.length_append] at len
      simp only [List.length_cons, List.length_nil] at len
      obtain ⟨h2, f1, f2, f3, f4⟩ := bz_fr_tse hM wf e2 (by simp only [List.length_cons, List.length_nil]; omega)
      obtain ⟨h3, g1, g2, g3⟩ := bz_fr_fse hM wf f2 f3 (by simp only [List.length_append, List.length_cons, List.length_nil]; omega)
      obtain ⟨h4, i1, i2, i3⟩ := bz_fr_cse hM wf g2 (by simp only [List.length_append, List.length_cons, List.length_nil]; omega)
      refine ⟨h4, by rw [f1, bz_bc, g1, bz_bc, i1, bz_bc], ?_, fun o i o1 o2 o3 => ((i3 o i o1 o2 o3).trans (g3 o i o1 o2 o3)).trans (f4 o i o1 o2 o3)⟩
      simpa only [List.append_assoc] using i2
  obtain ⟨h2, s1, s2, s3⟩ := sec
  refine ⟨h2, ?_, s2, fun o i o1 o2 o3 => (s3 o i o1 o2 o3).trans (fr0 o i o1 o2 o3)⟩
  unfold fn_SA_encode fn_Encoder_write
  rw [bz_c1_2 hL, h16, bz_ck (by omega), bz_ck (by omega), bz_bn, bz_bn]
  have e9 : fn_Encoder_write_7 qz_NF 63 M 0 (qz_up h 63 2 0) = some (0, h2) := by
    have := e1.trans s1
    exact this
  rw [e9, bz_bc, s3 1 2 (by omega) (by omega) (by omega), fr0 1 2 (by omega) (by omega) (by omega), bz_c1_2 hL, bz_ck (by omega), s2.2.2.1]
