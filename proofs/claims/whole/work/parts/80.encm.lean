/-! Runs of slots: the class finds their ends, the model their beginnings. -/
def bz_bg (P : qz_H) (f k : Int) : Prop := k = P 1 f ∨ P 7 (8 * f + k) ≠ P 7 (8 * f + (k - 1))
noncomputable def bz_ef (P : qz_H) (f : Int) : Nat → Int → Int
  | 0, e => e
  | m + 1, e => @ite _ (bz_bg P f e) (Classical.propDecidable _) e (bz_ef P f m (e + 1))
noncomputable def bz_ml (P : qz_H) (f : Int) : Nat → Int → List Int
  | 0, _ => []
  | m + 1, k => @ite _ (bz_bg P f k) (Classical.propDecidable _) (bz_U (bz_ef P f m (k + 1) - k) ++ [bz_ty (P 7 (8 * f + k))]) [] ++ bz_ml P f m (k + 1)
noncomputable def bz_bc1 (P : qz_H) (f : Int) : Nat → Int → Int
  | 0, _ => 0
  | m + 1, k => @ite _ (bz_bg P f k) (Classical.propDecidable _) 1 0 + bz_bc1 P f m (k + 1)
theorem bz_er_bg {P : qz_H} {f k : Int} (h1 : P 1 f ≤ k) (h2 : k + 1 < P 2 f) : bz_er P f k ↔ bz_bg P f (k + 1) := by
  unfold bz_er bz_bg
  rw [show k + 1 - 1 = k from by omega]
  constructor
  · rintro (h | h)
    · exact absurd h2 h
    · exact Or.inr h
  · rintro (h | h)
    · omega
    · exact Or.inr h
theorem bz_rc_bc {P : qz_H} {f : Int} : ∀ (m : Nat) (k : Int), P 1 f ≤ k → ((m + 1 : Nat) : Int) + k = P 2 f → bz_rc P f (m + 1) k = 1 + bz_bc1 P f m (k + 1)
  | 0, k, h1, hm => by
    have q : bz_er P f k := Or.inl (by omega)
    rw [bz_rc, if_pos q, bz_rc, bz_bc1]
  | m + 1, k, h1, hm => by
    have i := bz_rc_bc (P := P) (f := f) m (k + 1) (by omega) (by omega)
    have iff := bz_er_bg (P := P) (f := f) h1 (by omega)
    rw [bz_rc, i, bz_bc1]
    by_cases q : bz_er P f k
    · rw [if_pos q, if_pos (iff.mp q)]
    · rw [if_neg q, if_neg fun z => q (iff.mpr z)]
      omega
theorem bz_rn_ml {P : qz_H} {f : Int} : ∀ (m : Nat) (k r : Int), P 1 f ≤ k → ((m + 1 : Nat) : Int) + k = P 2 f → bz_rn P f (m + 1) k r = (bz_U (r + (bz_ef P f m (k + 1) - k)) ++ [bz_ty (P 7 (8 * f + k))]) ++ bz_ml P f m (k + 1)
  | 0, k, r, h1, hm => by
    have q : bz_er P f k := Or.inl (by omega)
    rw [bz_rn, if_pos q, bz_rn, bz_ml, bz_ef]
    rw [show r + (k + 1 - k) = r + 1 from by omega, List.append_nil]
  | m + 1, k, r, h1, hm => by
    have iff := bz_er_bg (P := P) (f := f) h1 (by omega)
    rw [bz_rn]
    by_cases q : bz_er P f k
    · have b := iff.mp q
      rw [if_pos q, bz_rn_ml m (k + 1) 0 (by omega) (by omega), bz_ml, if_pos b, bz_ef, if_pos b]
      rw [show r + (k + 1 - k) = r + 1 from by omega, Int.zero_add]
      simp only [List.append_assoc, List.cons_append, List.nil_append]
    · have b : ¬ bz_bg P f (k + 1) := fun z => q (iff.mpr z)
      have et : P 7 (8 * f + (k + 1)) = P 7 (8 * f + k) := by
        unfold bz_er at q
        exact Classical.byContradiction fun z => q (Or.inr z)
      rw [if_neg q, bz_rn_ml m (k + 1) (r + 1) (by omega) (by omega), bz_ml, if_neg b, bz_ef, if_neg b, et, List.nil_append]
      rw [show r + 1 + (bz_ef P f m (k + 1 + 1) - (k + 1)) = r + (bz_ef P f m (k + 1 + 1) - k) from by omega]
theorem bz_ef_rg (P : qz_H) (f : Int) : ∀ (m : Nat) (e : Int), e ≤ bz_ef P f m e ∧ bz_ef P f m e ≤ e + m
  | 0, e => by rw [bz_ef]; omega
  | m + 1, e => by
    have := bz_ef_rg P f m (e + 1)
    rw [bz_ef]
    by_cases q : bz_bg P f e
    · rw [if_pos q]; omega
    · rw [if_neg q]; omega
theorem bz_rns_ml {P : qz_H} {f : Int} (hf : bz_fok P f) : bz_rns P f = bz_U (bz_bc1 P f (P 2 f - P 1 f).toNat (P 1 f)) ++ bz_ml P f (P 2 f - P 1 f).toNat (P 1 f) := by
  obtain ⟨x1, x2, x3, x4, -⟩ := hf
  unfold bz_rns
  generalize hm : (P 2 f - P 1 f).toNat = m
  cases m with
  | zero => rfl
  | succ m =>
    have b : bz_bg P f (P 1 f) := Or.inl rfl
    rw [bz_rc_bc m _ (Int.le_refl _) (by omega), bz_rn_ml m _ 0 (Int.le_refl _) (by omega), bz_bc1, if_pos b, bz_ml, if_pos b, Int.zero_add]
section BDM
variable {P : qz_H}
theorem bz_bgM (wf : bz_wf P) {h : qz_H} {L : List Int} (xm : bz_XM h P L) {f k : Int} (f0 : 0 ≤ f) (f1 : f < P 0 0) (k0 : P 1 f ≤ k) (k1 : k < P 2 f) : (bz_bg P f k → fn_Md_runBegins 67 f k h = some (1, h)) ∧ (¬ bz_bg P f k → fn_Md_runBegins 67 f k h = some (0, h)) := by
  have w := wf.2.1
  obtain ⟨x1, x2, x3, x4, x5, x6, x7, x8, x9, x10, x11⟩ := wf.2.2 f f0 f1
  obtain ⟨c1, c2, c3, c4, c5, c6, c7⟩ := xm.2.1.2 f f0 f1
  unfold fn_Md_runBegins fn_Md_runBegins_37 fn_Md_runBegins_42
  rw [bz_m67_8 xm.1, bz_m72_m1 xm.1, bz_ck (by omega), bz_ck (by omega), c1]
  unfold bz_bg
  by_cases q : k = P 1 f
  · rw [if_pos q]
    exact ⟨fun _ => bz_ck (by simp), fun a => absurd (Or.inl q) a⟩
  · rw [if_neg q, bz_m67_11 xm.1, bz_m75_m1 xm.1, bz_w (show -2147483648 ≤ 8 * f by omega) (by omega), bz_w (show -2147483648 ≤ 8 * f + k by omega) (by omega), bz_w (show -2147483648 ≤ 8 * f + k - 1 by omega) (by omega), bz_ck (by omega), bz_ck (by omega), bz_ck (by omega), bz_ck (by omega), c6 k (by omega) k1, show 8 * f + k - 1 = 8 * f + (k - 1) from by omega, c6 (k - 1) (by omega) (by omega)]
    by_cases q2 : P 7 (8 * f + k) = P 7 (8 * f + (k - 1))
    · rw [if_pos q2]
      exact ⟨fun a => a.elim (fun b => absurd b q) (fun b => absurd q2 b), fun _ => bz_ck (by simp)⟩
    · rw [if_neg q2]
      exact ⟨fun _ => bz_ck (by simp), fun a => absurd (Or.inr q2) a⟩
theorem bz_bc1_rg (P : qz_H) (f : Int) : ∀ (m : Nat) (k : Int), 0 ≤ bz_bc1 P f m k ∧ bz_bc1 P f m k ≤ m
  | 0, _ => by rw [bz_bc1]; omega
  | m + 1, k => by
    have := bz_bc1_rg P f m (k + 1)
    rw [bz_bc1]
    by_cases c : bz_bg P f k
    · rw [if_pos c]; omega
    · rw [if_neg c]; omega
theorem bz_en_rns (wf : bz_wf P) {f : Int} (f0 : 0 ≤ f) (f1 : f < P 0 0) : bz_en P (fn_Md_runs 67 f) (bz_rns P f) := by
  have w := wf.2.1
  have hf := wf.2.2 f f0 f1
  obtain ⟨x1, x2, x3, x4, x5, x6, x7, x8, x9, x10, x11⟩ := id hf
  -- where a run ends
  have srch : ∀ (k55 : Int → Int → Int → qz_H → Option qz_R) (k : Int) (m n : Nat) (e : Int) (h : qz_H) (L : List Int), (m : Int) + e = P 2 f → P 1 f ≤ e → bz_XM h P L → fn_Md_runs_79 k55 (n + m + 1) 67 f k e h = fn_Md_runs_106 k55 67 f k (bz_ef P f m e) h := by
    intro k55 k m
    induction m with
    | zero =>
      intro n e h L hm e0 xm
      obtain ⟨c1, c2, c3, c4, c5, c6, c7⟩ := xm.2.1.2 f f0 f1
      rw [fn_Md_runs_79, bz_ef]
      unfold fn_Md_runs_79_b
      rw [bz_m67_9 xm.1, bz_m73_m1 xm.1, bz_ck (by omega), bz_ck (by omega), c2, if_pos (by omega)]
    | succ m ih =>
      intro n e h L hm e0 xm
      obtain ⟨c1, c2, c3, c4, c5, c6, c7⟩ := xm.2.1.2 f f0 f1
      obtain ⟨t1, t2⟩ := bz_bgM wf xm f0 f1 e0 (show e < P 2 f by omega)
      rw [show n + (m + 1) + 1 = (n + m + 1) + 1 from by omega, fn_Md_runs_79, bz_ef]
      unfold fn_Md_runs_79_b
      rw [bz_m67_9 xm.1, bz_m73_m1 xm.1, bz_ck (by omega), bz_ck (by omega), c2, if_neg (by omega)]
      by_cases q : bz_bg P f e
      · rw [t1 q, bz_bc, if_pos (by omega), if_pos q]
      · rw [t2 q, bz_bc, if_neg (by omega), bz_bn, bz_w (by omega) (by omega), ih n (e + 1) h L (by omega) (by omega) xm, if_neg q]
  have loop2 : ∀ (m n : Nat) (k : Int) (h : qz_H) (L : List Int), (m : Int) + k = P 2 f → P 1 f ≤ k → bz_XM h P L → L.length + (bz_ml P f m k).length ≤ 1000 → ∃ h', fn_Md_runs_55 (n + m + 1) 67 f k h = some (0, h') ∧ bz_XM h' P (L ++ bz_ml P f m k) ∧ bz_fx h h' := by
    intro m
    induction m with
    | zero =>
      intro n k h L hm k0 xm hl
      obtain ⟨c1, c2, c3, c4, c5, c6, c7⟩ := xm.2.1.2 f f0 f1
      refine ⟨h, ?_, by rw [bz_ml, List.append_nil]; exact xm, bz_fx.rf _⟩
      rw [fn_Md_runs_55]
      unfold fn_Md_runs_55_b
      rw [bz_m67_9 xm.1, bz_m73_m1 xm.1, bz_ck (by omega), bz_ck (by omega), c2, if_pos (by omega)]
    | succ m ih =>
      intro n k h L hm k0 xm hl
      obtain ⟨c1, c2, c3, c4, c5, c6, c7⟩ := xm.2.1.2 f f0 f1
      obtain ⟨t1, t2⟩ := bz_bgM wf xm f0 f1 k0 (show k < P 2 f by omega)
      rw [bz_ml] at hl ⊢
      rw [show n + (m + 1) + 1 = (n + m + 1) + 1 from by omega, fn_Md_runs_55]
      unfold fn_Md_runs_55_b fn_Md_runs_133
      simp only [bz_bn]
      rw [bz_m67_9 xm.1, bz_m73_m1 xm.1, bz_ck (by omega), bz_ck (by omega), c2, if_neg (by omega), bz_w (show -2147483648 ≤ k + 1 by omega) (by omega)]
      by_cases q : bz_bg P f k
      · rw [if_pos q] at hl ⊢
        simp only [List.length_append, List.length_singleton] at hl
        have rge := bz_ef_rg P f m (k + 1)
        obtain ⟨h1, e1, e2, e3⟩ := bz_en_U (v := bz_ef P f m (k + 1) - k) (by omega) (by omega) h L xm (by omega)
        have tt := x10 k (by omega) (by omega)
        have rg := bz_ty_rg (P 7 (8 * f + k))
        obtain ⟨h2, g1, g2, g3⟩ := bz_en_add (c := bz_ty (P 7 (8 * f + k))) rg.1 rg.2 h1 _ e2 (by rw [List.length_append, List.length_singleton]; omega)
        obtain ⟨h3, i1, i2, i3⟩ := ih n (k + 1) h2 _ (by omega) (by omega) g2 (by simp only [List.length_append, List.length_singleton]; omega)
        refine ⟨h3, ?_, by simpa only [List.append_assoc] using i2, (e3.tr g3).tr i3⟩
        have s := srch (fn_Md_runs_55 (n + m + 1)) k m (3999 - m) (k + 1) h L (by omega) (by omega) xm
        rw [show 3999 - m + m + 1 = qz_NF from by unfold qz_NF; omega] at s
        rw [t1 q, bz_bc, if_neg (by omega), s]
        unfold fn_Md_runs_106 fn_Md_runs_133
        rw [bz_w (show -2147483648 ≤ bz_ef P f m (k + 1) - k by omega) (by omega), e1, bz_bc, bz_m67_11 e2.1, bz_m75_m1 e2.1, bz_w (show -2147483648 ≤ 8 * f by omega) (by omega), bz_w (show -2147483648 ≤ 8 * f + k by omega) (by omega), bz_ck (by omega), bz_ck (by omega), (e2.2.1.2 f f0 f1).2.2.2.2.2.1 k (by omega) (by omega), bz_tyM (by omega) (by omega), bz_bc, g1, bz_bc, bz_bn, bz_w (by omega) (by omega), i1]
      · rw [if_neg q, List.nil_append] at hl ⊢
        obtain ⟨h3, i1, i2, i3⟩ := ih n (k + 1) h L (by omega) (by omega) xm hl
        exact ⟨h3, by rw [t2 q, bz_bc, if_pos rfl, i1], i2, i3⟩
  have loop1 : ∀ (m n : Nat) (k r : Int) (h : qz_H) (L : List Int), (m : Int) + k = P 2 f → P 1 f ≤ k → 0 ≤ r → r ≤ 100 - m → bz_XM h P L → fn_Md_runs_9 (n + m + 1) 67 f r k h = qz_bc (fn_Md_unsigned 67 (r + bz_bc1 P f m k) h) fun _ h2 => qz_ck ((h2 67 8 : Int) ≠ 0) <| qz_ck ((0 : Int) ≤ f ∧ f < h2 (h2 67 8) (-1)) <| qz_bn (h2 (h2 67 8) f : Int) fun x3 => fn_Md_runs_55 qz_NF 67 f x3 h2 := by
    intro m
    induction m with
    | zero =>
      intro n k r h L hm k0 r0 r1 xm
      obtain ⟨c1, c2, c3, c4, c5, c6, c7⟩ := xm.2.1.2 f f0 f1
      rw [fn_Md_runs_9, bz_bc1, Int.add_zero]
      unfold fn_Md_runs_9_b
      rw [bz_m67_9 xm.1, bz_m73_m1 xm.1, bz_ck (by omega), bz_ck (by omega), c2, if_pos (by omega)]
    | succ m ih =>
      intro n k r h L hm k0 r0 r1 xm
      obtain ⟨c1, c2, c3, c4, c5, c6, c7⟩ := xm.2.1.2 f f0 f1
      obtain ⟨t1, t2⟩ := bz_bgM wf xm f0 f1 k0 (show k < P 2 f by omega)
      rw [show n + (m + 1) + 1 = (n + m + 1) + 1 from by omega, fn_Md_runs_9, bz_bc1]
      unfold fn_Md_runs_9_b fn_Md_runs_34
      simp only [bz_bn]
      rw [bz_m67_9 xm.1, bz_m73_m1 xm.1, bz_ck (by omega), bz_ck (by omega), c2, if_neg (by omega), bz_w (show -2147483648 ≤ k + 1 by omega) (by omega)]
      by_cases q : bz_bg P f k
      · rw [t1 q, bz_bc, if_neg (by omega), if_pos q, bz_w (by omega) (by omega), ih n (k + 1) (r + 1) h L (by omega) (by omega) (by omega) (by omega) xm, Int.add_assoc r]
        rfl
      · rw [t2 q, bz_bc, if_pos rfl, if_neg q, bz_w (by omega) (by omega), ih n (k + 1) (r + 0) h L (by omega) (by omega) (by omega) (by omega) xm, Int.add_assoc r]
        rfl
  intro h L xm hl
  rw [bz_rns_ml hf] at hl ⊢
  rw [List.length_append] at hl
  obtain ⟨c1, c2, c3, c4, c5, c6, c7⟩ := xm.2.1.2 f f0 f1
  obtain ⟨r0, r1⟩ := bz_bc1_rg P f (P 2 f - P 1 f).toNat (P 1 f)
  obtain ⟨h1, e1, e2, e3⟩ := bz_en_U (v := bz_bc1 P f (P 2 f - P 1 f).toNat (P 1 f)) r0 (by omega) h L xm (by omega)
  obtain ⟨h2, g1, g2, g3⟩ := loop2 (P 2 f - P 1 f).toNat (3999 - (P 2 f - P 1 f).toNat) (P 1 f) h1 _ (by omega) (Int.le_refl _) e2 (by rw [List.length_append]; omega)
  have k1 := loop1 (P 2 f - P 1 f).toNat (3999 - (P 2 f - P 1 f).toNat) (P 1 f) 0 h L (by omega) (Int.le_refl _) (by omega) (by omega) xm
  rw [show 3999 - (P 2 f - P 1 f).toNat + (P 2 f - P 1 f).toNat + 1 = qz_NF from by unfold qz_NF; omega] at k1 g1
  rw [Int.zero_add, e1, bz_bc, bz_m67_8 e2.1, bz_m72_m1 e2.1, bz_ck (by omega), bz_ck (by omega), bz_bn, (e2.2.1.2 f f0 f1).1, g1] at k1
  refine ⟨h2, ?_, by simpa only [List.append_assoc] using g2, e3.tr g3⟩
  unfold fn_Md_runs
  simp only [bz_bn]
  rw [bz_m67_8 xm.1, bz_m72_m1 xm.1, bz_ck (by omega), bz_ck (by omega), c1, k1]
theorem bz_en_ib (wf : bz_wf P) {i : Int} (i0 : 0 ≤ i) (i1 : i < 64) (hr : bz_row P i) (h77 : ∀ (h : qz_H), bz_MM h P → h 77 i = P 5 i ∧ h 78 i = P 6 i) : bz_en P (fn_Md_instructionBytes 67 i) (bz_ib P i) := by
  intro h L xm hl
  obtain ⟨r1, r2, r3, r4, r5, r6, r7, r8, r9⟩ := hr
  have cd := bz_op_code (-P 8 i - 1).toNat (by omega)
  obtain ⟨k1, kk, k3, k4, k5, k6, k7⟩ := bz_opk (-P 8 i - 1).toNat (by omega)
  rw [show -(((-P 8 i - 1).toNat : Int) + 1) = P 8 i from by omega] at cd kk k1 k3 k4 k5 k6 k7
  rw [← r3] at k1 k3 k4 k5 k6 k7 cd
  unfold bz_ib at hl ⊢
  rw [List.length_cons] at hl
  obtain ⟨h1, e1, e2, e3⟩ := bz_en_add (c := P 5 i) (by omega) (by omega) h L xm (by rw [List.length_singleton]; omega)
  have m78 := (h77 h1 e2.2.1).2
  have uns : ((kz_dt (P 8 i) 2 = 2 ∨ kz_dt (P 8 i) 2 = 3 ∨ kz_dt (P 8 i) 2 = 4) → ∀ (hl : L.length + 1 + (bz_U (P 6 i)).length ≤ 1000), ∃ h2, fn_Md_instructionBytes_94 67 i h1 = some (0, h2) ∧ bz_XM h2 P ((L ++ [P 5 i]) ++ bz_U (P 6 i)) ∧ bz_fx h1 h2) := by
    intro hk hl
    have := r8 hk
    obtain ⟨h2, g1, g2, g3⟩ := bz_en_U (v := P 6 i) (by omega) (by omega) h1 _ e2 (by rw [List.length_append, List.length_singleton]; omega)
    refine ⟨h2, ?_, g2, g3⟩
    unfold fn_Md_instructionBytes_94 fn_Md_instructionBytes_104
    rw [bz_m67_14 e2.1, bz_m78_m1 e2.1, bz_ck (by omega), bz_ck (by omega), m78, g1, bz_bc]
  have sgn : ∀ (hl : L.length + 1 + (bz_S (P 6 i)).length ≤ 1000), ∃ h2, fn_Md_instructionBytes_51 67 i h1 = some (0, h2) ∧ bz_XM h2 P ((L ++ [P 5 i]) ++ bz_S (P 6 i)) ∧ bz_fx h1 h2 := by
    intro hl
    obtain ⟨h2, g1, g2, g3⟩ := bz_en_S r4 r5 h1 _ e2 (by rw [List.length_append, List.length_singleton]; omega)
    refine ⟨h2, ?_, g2, g3⟩
    unfold fn_Md_instructionBytes_51 fn_Md_instructionBytes_104
    rw [bz_m67_14 e2.1, bz_m78_m1 e2.1, bz_ck (by omega), bz_ck (by omega), m78, g1, bz_bc]
  have start : fn_Md_instructionBytes 67 i h = if P 5 i < 2 then fn_Md_instructionBytes_39 67 i (P 5 i) h1 else if 4 < P 5 i then fn_Md_instructionBytes_39 67 i (P 5 i) h1 else qz_bc (fn_Md_typeByte (qz_w (P 6 i)) h1) fun r4 h5 => qz_bc (fn_Md_add 67 r4 h5) fun _ h7 => fn_Md_instructionBytes_104 h7 := by
    unfold fn_Md_instructionBytes
    rw [bz_m67_13 xm.1, bz_m77_m1 xm.1, bz_ck (by omega), bz_ck (by omega), bz_bn, (h77 h xm.2.1).1, e1, bz_bc, bz_m67_14 e2.1, bz_m78_m1 e2.1, bz_ck (by omega), bz_ck (by omega), m78]
  have key : ∃ h2, fn_Md_instructionBytes 67 i h = some (0, h2) ∧ bz_XM h2 P ((L ++ [P 5 i]) ++ (if kz_dt (P 8 i) 2 = 0 then [] else if kz_dt (P 8 i) 2 = 1 then [bz_ty (P 6 i)] else if kz_dt (P 8 i) 2 = 5 ∨ kz_dt (P 8 i) 2 = 6 then bz_S (P 6 i) else bz_U (P 6 i))) ∧ bz_fx h1 h2 := by
    rw [start]
    unfold fn_Md_instructionBytes_39
    rcases kk with k | k | k | k | k | k | k
    · rw [k] at k1 k3 k4 k5 k6 k7
      rw [if_pos k]
      unfold fn_Md_instructionBytes_104
      simp (disch := omega) only [if_pos, if_neg, ite_self]
      exact ⟨h1, rfl, by rw [List.append_nil]; exact e2, bz_fx.rf _⟩
    · rw [k] at k1 k3 k4 k5 k6 k7
      have := r7 k
      rw [if_neg (show ¬ kz_dt (P 8 i) 2 = 0 by omega), if_pos k] at hl ⊢
      have rg := bz_ty_rg (P 6 i)
      obtain ⟨h2, g1, g2, g3⟩ := bz_en_add (c := bz_ty (P 6 i)) rg.1 rg.2 h1 _ e2 (by rw [List.length_append, List.length_singleton]; rw [List.length_singleton] at hl ⊢; omega)
      refine ⟨h2, ?_, g2, g3⟩
      unfold fn_Md_instructionBytes_104
      rw [if_neg (by omega), if_neg (by omega), bz_w (by omega) (by omega), bz_tyM (by omega) (by omega), bz_bc, g1, bz_bc]
    · obtain ⟨h2, g1, g2, g3⟩ := uns (by omega) (by rw [if_neg (by omega), if_neg (by omega), if_neg (by omega)] at hl; omega)
      rw [k] at k1 k3 k4 k5 k6 k7
      rw [if_neg (show ¬ kz_dt (P 8 i) 2 = 0 by omega), if_neg (show ¬ kz_dt (P 8 i) 2 = 1 by omega), if_neg (show ¬ (kz_dt (P 8 i) 2 = 5 ∨ kz_dt (P 8 i) 2 = 6) by omega)]
      refine ⟨h2, ?_, g2, g3⟩
      rw [if_neg (by omega), if_pos (by omega), if_neg (by omega), if_pos (by omega)]
      rcases k6.mp rfl with z | z
      · rw [if_pos z, g1]
      · rw [if_neg (by omega), if_pos z, g1]
    · obtain ⟨h2, g1, g2, g3⟩ := uns (by omega) (by rw [if_neg (by omega), if_neg (by omega), if_neg (by omega)] at hl; omega)
      rw [k] at k1 k3 k4 k5 k6 k7
      rw [if_neg (show ¬ kz_dt (P 8 i) 2 = 0 by omega), if_neg (show ¬ kz_dt (P 8 i) 2 = 1 by omega), if_neg (show ¬ (kz_dt (P 8 i) 2 = 5 ∨ kz_dt (P 8 i) 2 = 6) by omega)]
      refine ⟨h2, ?_, g2, g3⟩
      rw [if_neg (by omega), if_pos (by omega), if_neg (by omega), if_pos (by omega), if_neg (by omega), if_neg (by omega), if_pos (by omega), g1]
    · obtain ⟨h2, g1, g2, g3⟩ := uns (by omega) (by rw [if_neg (by omega), if_neg (by omega), if_neg (by omega)] at hl; omega)
      rw [k] at k1 k3 k4 k5 k6 k7
      rw [if_neg (show ¬ kz_dt (P 8 i) 2 = 0 by omega), if_neg (show ¬ kz_dt (P 8 i) 2 = 1 by omega), if_neg (show ¬ (kz_dt (P 8 i) 2 = 5 ∨ kz_dt (P 8 i) 2 = 6) by omega)]
      refine ⟨h2, ?_, g2, g3⟩
      rw [if_neg (by omega), if_pos (by omega), if_neg (by omega), if_pos (by omega), if_neg (by omega), if_neg (by omega), if_neg (by omega), if_neg (by omega), if_neg (by omega), g1]
    · obtain ⟨h2, g1, g2, g3⟩ := sgn (by rw [if_neg (by omega), if_neg (by omega), if_pos (by omega)] at hl; omega)
      rw [k] at k1 k3 k4 k5 k6 k7
      rw [if_neg (show ¬ kz_dt (P 8 i) 2 = 0 by omega), if_neg (show ¬ kz_dt (P 8 i) 2 = 1 by omega), if_pos (show (kz_dt (P 8 i) 2 = 5 ∨ kz_dt (P 8 i) 2 = 6) by omega)]
      refine ⟨h2, ?_, g2, g3⟩
      rw [if_neg (by omega), if_pos (by omega), if_pos (by omega), g1]
    · obtain ⟨h2, g1, g2, g3⟩ := sgn (by rw [if_neg (by omega), if_neg (by omega), if_pos (by omega)] at hl; omega)
      rw [k] at k1 k3 k4 k5 k6 k7
      rw [if_neg (show ¬ kz_dt (P 8 i) 2 = 0 by omega), if_neg (show ¬ kz_dt (P 8 i) 2 = 1 by omega), if_pos (show (kz_dt (P 8 i) 2 = 5 ∨ kz_dt (P 8 i) 2 = 6) by omega)]
      refine ⟨h2, ?_, g2, g3⟩
      rw [if_neg (by omega), if_pos (by omega), if_neg (by omega), if_neg (by omega), g1]
  obtain ⟨h2, g1, g2, g3⟩ := key
  exact ⟨h2, g1, by simpa only [List.append_assoc, List.cons_append, List.nil_append] using g2, e3.tr g3⟩
end BDM
