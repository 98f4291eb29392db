/-! Every character that is printed is one that a text may hold. -/
def bz_pc (l : List Int) : Prop := ∀ c ∈ l, 32 ≤ c ∧ c ≤ 126
theorem bz_pc_app {a b : List Int} (h1 : bz_pc a) (h2 : bz_pc b) : bz_pc (a ++ b) := fun c hc => (List.mem_append.mp hc).elim (h1 c) (h2 c)
theorem bz_pc_cons {x : Int} {b : List Int} (h1 : 32 ≤ x ∧ x ≤ 126) (h2 : bz_pc b) : bz_pc (x :: b) := fun c hc => (List.mem_cons.mp hc).elim (fun z => by rw [z]; exact h1) (h2 c)
theorem bz_pc_nil : bz_pc [] := fun c hc => by cases hc
theorem bz_pc_sb (i : Nat) (hi : i < 46) : bz_pc (kz_sb i) := by
  have z : ∀ i, i < 46 → ∀ c ∈ kz_sb i, 32 ≤ c ∧ c ≤ 126 := by decide +kernel
  exact z i hi
theorem bz_pc_wt (t : Int) : bz_pc (bz_wt t) := by
  unfold bz_wt
  split
  · exact bz_pc_sb 5 (by omega)
  · exact bz_pc_sb 6 (by omega)
theorem bz_pc_fl {g : Int → List Int} : ∀ (n : Nat) (a : Int), (∀ k, a ≤ k → k < a + n → bz_pc (g k)) → bz_pc (bz_fl g a n)
  | 0, _, _ => bz_pc_nil
  | n + 1, a, hg => bz_pc_app (hg a (by omega) (by omega)) (bz_pc_fl n (a + 1) fun k k1 k2 => hg k (by omega) (by omega))
theorem bz_pc_1 {x : Int} (h1 : 32 ≤ x ∧ x ≤ 126) : bz_pc [x] := bz_pc_cons h1 bz_pc_nil
theorem bz_pc_rs (t : Int) : bz_pc (bz_rs t) := bz_pc_app (bz_pc_sb 13 (by omega)) (bz_pc_app (bz_pc_wt t) (bz_pc_1 (by omega)))
theorem bz_tm9 (x : Int) : (x.tmod 10).natAbs ≤ 9 := by
  rw [Int.natAbs_tmod]
  show x.natAbs % 10 ≤ 9
  omega
theorem bz_pc_dg (v : Int) : ∀ k : Nat, bz_pc (bz_dg v k)
  | 0 => bz_pc_1 (by have := bz_tm9 v; omega)
  | k + 1 => bz_pc_cons (by have := bz_tm9 (v.tdiv (10 ^ (k + 1))); omega) (bz_pc_dg v k)
theorem bz_pc_num (v : Int) : bz_pc (bz_num v) := by
  unfold bz_num
  refine bz_pc_app ?_ (bz_pc_dg v _)
  split
  · exact bz_pc_1 (by omega)
  · exact bz_pc_nil
theorem bz_pc_r3 {op : List Int} (ho : bz_pc op) (P : qz_H) (f a b : Int) : bz_pc (bz_r3 op P f a b) := by
  unfold bz_r3
  split
  · exact bz_pc_app ho (bz_pc_app (bz_pc_fl _ _ fun k _ _ => bz_pc_cons (by omega) (bz_pc_wt _)) (bz_pc_1 (by omega)))
  · exact bz_pc_nil
theorem bz_pc_inl {P : qz_H} {i : Int} (hr : bz_row P i) : bz_pc (bz_inl P i) := by
  obtain ⟨r1, r2, -⟩ := hr
  unfold bz_inl
  refine bz_pc_cons (by omega) (bz_pc_app (bz_pc_sb _ (bz_op_wd r1 r2).2) ?_)
  split
  · exact bz_pc_nil
  split
  · split
    · exact bz_pc_nil
    · exact bz_pc_cons (by omega) (bz_pc_rs _)
  · exact bz_pc_cons (by omega) (bz_pc_num _)
theorem bz_pc_prt {P : qz_H} (wf : bz_wf P) : bz_pc (bz_prt P) := by
  unfold bz_prt
  refine bz_pc_app (bz_pc_sb 10 (by omega)) (bz_pc_app (bz_pc_fl _ _ fun f f0 f1 => ?_) (bz_pc_1 (by omega)))
  have w0 := wf.1
  obtain ⟨x1, x2, x3, x4, x5, x6, x7, x8, x9, x10, x11⟩ := wf.2.2 f f0 (by omega)
  unfold bz_fnl
  refine bz_pc_app (bz_pc_sb 11 (by omega)) (bz_pc_app (bz_pc_r3 (bz_pc_sb 12 (by omega)) _ _ _ _) (bz_pc_app ?_ (bz_pc_app (bz_pc_r3 (bz_pc_sb 14 (by omega)) _ _ _ _) (bz_pc_app (bz_pc_fl _ _ fun i i0 i1 => bz_pc_inl (x11 i i0 (by omega))) (bz_pc_1 (by omega))))))
  split
  · exact bz_pc_nil
  · exact bz_pc_rs _
theorem bz_prt_len {P : qz_H} (wf : bz_wf P) : (bz_prt P).length ≤ 21000 := by
  have w0 := wf.1
  have w1 := wf.2.1
  have key : ∀ (n : Nat) (a : Int), 0 ≤ a → a + n ≤ P 0 0 → (bz_fl (bz_fnl P) a n).length ≤ n * 5000 := by
    intro n
    induction n with
    | zero => intro a _ _; rw [bz_fl]; simp
    | succ n ih =>
      intro a a0 a1
      have h1 := ih (a + 1) (by omega) (by omega)
      have h2 := bz_fnl_len (wf.2.2 a a0 (by omega))
      rw [bz_fl, List.length_append]
      omega
  have := key (P 0 0).toNat 0 (by omega) (by omega)
  have l := bz_sb_len 10
  unfold bz_prt
  rw [List.length_append, List.length_append, List.length_singleton]
  omega
/-- the model's copy of what was printed -/
theorem bz_cpyM : ∀ (m n : Nat) (k : Int) (h : qz_H), bz_LM h → 0 ≤ k → (m : Int) + k = h 67 62 → h 67 62 ≤ 320 → (∀ j : Int, 0 ≤ j → j < h 67 62 → 0 ≤ h 108 j ∧ h 108 j ≤ 65535) → ∃ h', fn_Md_print_166 (n + m + 1) 67 k h = some (h 67 62, h') ∧ bz_LM h' ∧ h' 67 5 = h 67 62 ∧ (∀ i : Int, i ≠ 5 → h' 67 i = h 67 i) ∧ (∀ o i : Int, o ≠ 67 → o ≠ 71 → h' o i = h o i) ∧ ∀ j : Int, h' 71 j = if k ≤ j ∧ j < h 67 62 then h 108 j else h 71 j := by
  intro m
  induction m with
  | zero =>
    intro n k h hL k0 hm hn hr
    rw [fn_Md_print_166]
    unfold fn_Md_print_166_b
    rw [if_pos (by omega), bz_ck (by omega), bz_bn, bz_us]
    refine ⟨_, rfl, bz_LM_up (a := 67) (b := 67) (c := 5) (e := 5) (by decide +kernel) (by omega) (by omega) (by omega) (by omega) hL, bz_us _ _ _ _, fun i hi => bz_ui hi, fun o i h1 h2 => bz_uo h1, fun j => ?_⟩
    rw [bz_uo (by omega), if_neg (by omega)]
  | succ m ih =>
    intro n k h hL k0 hm hn hr
    have hk := hr k k0 (by omega)
    have hL1 : bz_LM (qz_up h 71 k (h 108 k)) := bz_LM_up (a := 71) (b := 71) (c := 0) (e := 320) (by decide +kernel) (by omega) (by omega) (by omega) (by omega) hL
    have e62 : qz_up h 71 k (h 108 k) 67 62 = h 67 62 := bz_uo (by omega)
    obtain ⟨h', g1, g2, g3, g4, g5, g6⟩ := ih n (k + 1) (qz_up h 71 k (h 108 k)) hL1 (by omega) (by omega) (by omega) (fun j j0 j1 => by rw [bz_uo (by omega)]; exact hr j j0 (by omega))
    rw [e62] at g1 g3
    refine ⟨h', ?_, g2, g3, fun i hi => (g4 i hi).trans (bz_uo (by omega)), fun o i h1 h2 => (g5 o i h1 h2).trans (bz_uo h2), fun j => ?_⟩
    · rw [show n + (m + 1) + 1 = (n + m + 1) + 1 from by omega, fn_Md_print_166]
      unfold fn_Md_print_166_b
      rw [if_neg (by omega), bz_m67_63 hL, bz_m67_6 hL, bz_m108_m1 hL, bz_m71_m1 hL, bz_ck (by omega), bz_ck (by omega), bz_ck (by omega), bz_ck (by omega), bz_bn, bz_bn, bz_nc hk.1 hk.2, bz_w (by omega) (by omega), g1]
    · rw [g6 j, e62]
      by_cases q : k + 1 ≤ j ∧ j < h 67 62
      · rw [if_pos q, if_pos (by omega), bz_uo (by omega)]
      · rw [if_neg q]
        by_cases q2 : j = k
        · rw [if_pos (by omega), q2, bz_us]
        · rw [if_neg (by omega), bz_ui q2]
/-- print: what the law sees -/
theorem bz_print {hc hm P : qz_H} {T S M : Int} (hL : bz_LC hc) (hLM : bz_LM hm) (hT : T = 2 ∧ S = 4 ∨ T = 4 ∧ S = 2) (h4 : hc 1 4 = T) (h5 : hc 1 5 = S) (hM : M = 6 ∨ M = 18) (h6 : hc 1 6 = M) (h109 : hc 109 (-1) = 1) (wf : bz_wf P) (mc : bz_MC hc M P) (mm : bz_MM hm P) :
    (∃ n hc' hm', fn_Law_print 1 109 hc = some (0, hc') ∧ hc' 109 0 = n ∧ fn_Md_print 67 hm = some (n, hm') ∧ hm' 67 3 = 0 ∧ bz_LC hc' ∧ bz_LM hm' ∧ bz_RT hc' hm' S ∧ hc' 1 4 = S ∧ hc' 1 5 = T ∧ (∀ i : Int, i ≠ 4 → i ≠ 5 → hc' 1 i = hc 1 i) ∧ (∀ o i : Int, (6 ≤ o ∧ o ≤ 65 ∨ 67 ≤ o ∧ o ≤ 108 ∨ o = 109 ∧ i = -1 ∨ o ≤ -1) → hc' o i = hc o i) ∧ (∀ o i : Int, o ≠ 67 → o ≠ 71 → o ≠ 108 → hm' o i = hm o i) ∧ (∀ i : Int, i ≠ 3 → i ≠ 5 → i ≠ 62 → hm' 67 i = hm 67 i)) ∨
    (∃ n hc' hm', fn_Law_print 1 109 hc = some (1, hc') ∧ fn_Md_print 67 hm = some (n, hm') ∧ hm' 67 3 = 1 ∧ bz_LC hc' ∧ bz_LM hm' ∧ (∀ o i : Int, (o = 1 ∨ o = T ∨ o = T + 1 ∨ 6 ≤ o ∧ o ≤ 65 ∨ 67 ≤ o ∨ o ≤ -1) → hc' o i = hc o i) ∧ (∀ o i : Int, o ≠ 67 → o ≠ 108 → hm' o i = hm o i) ∧ (∀ i : Int, i ≠ 3 → i ≠ 62 → hm' 67 i = hm 67 i)) := by
  have hS : S = 2 ∨ S = 4 := by omega
  have wC := bz_wrC (T := S) hS hM wf hL mc
  have wM := bz_wrM wf hLM mm
  have len := bz_prt_len wf
  have pcs := bz_pc_prt wf
  generalize hl : bz_prt P = l at wC wM len pcs
  have e0 : qz_up (qz_up hc 66 0 S) S 1 0 S 1 = 0 := bz_us _ _ _ _
  have hL0 : bz_LC (qz_up (qz_up hc 66 0 S) S 1 0) := by
    have hL1 : bz_LC (qz_up hc 66 0 S) := bz_LC_up (a := 66) (b := 66) (c := 0) (e := 0) (by decide +kernel) (by omega) (by omega) (by omega) (by omega) (by omega) hL
    rcases hS with rfl | rfl
    · exact bz_LC_up (a := 2) (b := 2) (c := 1) (e := 1) (by decide +kernel) (by omega) (by omega) (by omega) (by omega) (by omega) hL1
    · exact bz_LC_up (a := 4) (b := 4) (c := 1) (e := 1) (by decide +kernel) (by omega) (by omega) (by omega) (by omega) (by omega) hL1
  have hL2 := bz_aps_L hS l _ (by omega) hL0
  have hf : ∀ o i : Int, o ≠ S → o ≠ S + 1 → o ≠ 66 → bz_aps (qz_up (qz_up hc 66 0 S) S 1 0) S l o i = hc o i := by
    intro o i o1 o2 o3
    rw [bz_aps_o l o1 o2, bz_uo o1, bz_uo o3]
  have hn : bz_aps (qz_up (qz_up hc 66 0 S) S 1 0) S l S 1 = l.length := by rw [bz_aps_n, e0]; omega
  have hch : ∀ k : Int, 0 ≤ k → k < l.length → k < 320 → bz_aps (qz_up (qz_up hc 66 0 S) S 1 0) S l (S + 1) k = l.getD k.toNat 0 := by
    intro k k0 k1 k2
    have z := bz_gs_c (o := S) (i := 1) (a := S + 1) (by omega) l (qz_up (qz_up hc 66 0 S) S 1 0) k (by omega)
    rw [e0, if_pos (by omega)] at z
    rw [show (k - 0).toNat = k.toNat from by omega] at z
    exact z
  have m0 : qz_up hm 67 62 0 67 62 = 0 := bz_us _ _ _ _
  have hLM0 : bz_LM (qz_up hm 67 62 0) := bz_LM_up (a := 67) (b := 67) (c := 62) (e := 62) (by decide +kernel) (by omega) (by omega) (by omega) (by omega) hLM
  have hLM2 := bz_mps_L l (qz_up hm 67 62 0) (by omega) hLM0
  have mn : bz_mps (qz_up hm 67 62 0) l 67 62 = l.length := by rw [bz_mps_n, m0]; omega
  have mch : ∀ k : Int, 0 ≤ k → k < l.length → k < 320 → bz_mps (qz_up hm 67 62 0) l 108 k = l.getD k.toNat 0 := by
    intro k k0 k1 k2
    have z := bz_gs_c (o := 67) (i := 62) (a := 108) (by omega) l (qz_up hm 67 62 0) k (by omega)
    rw [m0, if_pos (by omega)] at z
    rw [show (k - 0).toNat = k.toNat from by omega] at z
    exact z
  have mf : ∀ o i : Int, o ≠ 67 → o ≠ 108 → bz_mps (qz_up hm 67 62 0) l o i = hm o i := fun o i o1 o2 => by rw [bz_mps_o l (Or.inl o1) o2, bz_uo o1]
  have mf7 : ∀ i : Int, i ≠ 62 → bz_mps (qz_up hm 67 62 0) l 67 i = hm 67 i := fun i i1 => by rw [bz_mps_o l (Or.inr i1) (by omega), bz_ui i1]
  have lch : ∀ k : Int, 0 ≤ k → k < l.length → 32 ≤ l.getD k.toNat 0 ∧ l.getD k.toNat 0 ≤ 126 := by
    intro k k0 k1
    have hk : k.toNat < l.length := by omega
    have e : l.getD k.toNat 0 = l[k.toNat] := by rw [List.getD_eq_getElem?_getD, List.getElem?_eq_getElem hk]; rfl
    rw [e]
    exact pcs _ (List.getElem_mem hk)
  generalize hA : bz_aps (qz_up (qz_up hc 66 0 S) S 1 0) S l = A at wC hL2 hf hn hch
  generalize hB : bz_mps (qz_up hm 67 62 0) l = B at wM hLM2 mn mch mf mf7
  have a3 : A 1 3 = 66 := (hf 1 3 (by omega) (by omega) (by omega)).trans (bz_c1_3 hL)
  have a4 : A 1 4 = T := (hf 1 4 (by omega) (by omega) (by omega)).trans h4
  have a5 : A 1 5 = S := (hf 1 5 (by omega) (by omega) (by omega)).trans h5
  by_cases hlen : (l.length : Int) ≤ 320
  · left
    -- the class
    have cT : fn_SA_printT 1 hc = none := by
      unfold fn_SA_printT
      rw [bz_c1_3 hL, h6, h5, wC, bz_ck (by omega), bz_bc, a5, bz_ck (by omega), hn, if_pos hlen, bz_bn, bz_ck (by omega), bz_bn, bz_ck (by omega), bz_bn]
      unfold qz_ck
      split <;> rfl
    have cN : fn_SA_print 1 hc = some ((l.length : Int), qz_up (qz_up A 1 4 S) 1 5 T) := by
      unfold fn_SA_print
      rw [bz_c1_3 hL, h6, h5, wC, bz_ck (by omega), bz_bc, a5, bz_ck (by omega), hn, if_pos hlen, bz_bn, bz_ck (by omega), bz_bn, bz_ck (by omega), bz_bn, a4, bz_ui (by omega), bz_us, bz_ck (by omega), bz_uo (by omega), bz_uo (by omega), hn]
    have cL : fn_Law_print 1 109 hc = some (0, qz_up (qz_up (qz_up A 1 4 S) 1 5 T) 109 0 (l.length : Int)) := by
      unfold fn_Law_print
      rw [cT]
      show fn_Law_printN 1 109 hc = _
      unfold fn_Law_printN
      rw [bz_ck (by omega), cN, bz_bc, bz_ck (by omega), bz_uo (by omega), bz_uo (by omega), hf 109 (-1) (by omega) (by omega) (by omega), h109, bz_ck (by omega), bz_bn]
    -- the model
    have hLM3 : bz_LM (qz_up B 67 3 0) := bz_th_LM hLM2 0
    have b62 : qz_up B 67 3 0 67 62 = l.length := by rw [bz_ui (by omega)]; exact mn
    obtain ⟨h', g1, g2, g3, g4, g5, g6⟩ := bz_cpyM l.length (3999 - l.length) 0 (qz_up B 67 3 0) hLM3 (by omega) (by omega) (by omega) (fun j j0 j1 => by
      rw [bz_uo (by omega), mch j j0 (by omega) (by omega)]
      have := lch j j0 (by omega)
      omega)
    rw [show 3999 - l.length + l.length + 1 = qz_NF from by unfold qz_NF; omega, b62] at g1
    have mM : fn_Md_print 67 hm = some ((l.length : Int), h') := by
      rw [wM]
      unfold bz_pend
      rw [mn, if_pos hlen, g1]
    refine ⟨l.length, _, h', cL, bz_us _ _ _ _, mM, (g4 3 (by omega)).trans (bz_us _ _ _ _), ?_, g2, ?_, ?_, ?_, ?_, ?_, ?_, ?_⟩
    · refine bz_LC_far (by omega) ?_
      exact bz_LC_up (a := 1) (b := 1) (c := 4) (e := 8) (by decide +kernel) (by omega) (by omega) (by omega) (by omega) (by omega) (bz_LC_up (a := 1) (b := 1) (c := 4) (e := 8) (by decide +kernel) (by omega) (by omega) (by omega) (by omega) (by omega) hL2)
    · have q1 : ∀ o i : Int, o ≠ 1 → o ≠ 109 → qz_up (qz_up (qz_up A 1 4 S) 1 5 T) 109 0 (l.length : Int) o i = A o i := fun o i o1 o2 => by rw [bz_uo o2, bz_uo o1, bz_uo o1]
      refine ⟨by rw [q1 S 1 (by omega) (by omega), hn]; omega, by rw [q1 S 1 (by omega) (by omega), hn]; omega, by rw [q1 S 1 (by omega) (by omega), hn, g3, b62], fun k k0 k1 => ?_⟩
      rw [q1 S 1 (by omega) (by omega), hn] at k1
      rw [q1 (S + 1) k (by omega) (by omega), hch k k0 k1 (by omega), g6 k, b62, if_pos (by omega), bz_uo (by omega), mch k k0 k1 (by omega)]
      exact ⟨rfl, Or.inr (lch k k0 k1)⟩
    · rw [bz_uo (by omega), bz_ui (by omega), bz_us]
    · rw [bz_uo (by omega), bz_us]
    · intro i i1 i2
      rw [bz_uo (by omega), bz_ui i2, bz_ui i1, hf 1 i (by omega) (by omega) (by omega)]
    · intro o i ho
      have q : qz_up (qz_up (qz_up A 1 4 S) 1 5 T) 109 0 (l.length : Int) o i = A o i := by
        rcases ho with ho | ho | ho | ho
        · rw [bz_uo (by omega), bz_uo (by omega), bz_uo (by omega)]
        · rw [bz_uo (by omega), bz_uo (by omega), bz_uo (by omega)]
        · rw [bz_ui (by omega), bz_uo (by omega), bz_uo (by omega)]
        · rw [bz_uo (by omega), bz_uo (by omega), bz_uo (by omega)]
      rw [q, hf o i (by omega) (by omega) (by omega)]
    · intro o i o1 o2 o3
      rw [g5 o i o1 o2, bz_uo o1, mf o i o1 o3]
    · intro i i1 i2 i3
      rw [g4 i i2, bz_ui i1, mf7 i i3]
  · right
    have cT : fn_SA_printT 1 hc = some (2, qz_th A) := by
      unfold fn_SA_printT
      rw [bz_c1_3 hL, h6, h5, wC, bz_ck (by omega), bz_bc, a5, bz_ck (by omega), hn, if_neg hlen]
    have cL : fn_Law_print 1 109 hc = some (1, qz_th A) := by
      unfold fn_Law_print
      rw [cT]
      rfl
    have mM : fn_Md_print 67 hm = some (0, qz_up B 67 3 1) := by
      rw [wM]
      unfold bz_pend fn_Md_raise
      rw [mn, if_neg hlen, bz_ck (by omega), bz_bn, bz_bc]
    refine ⟨0, qz_th A, _, cL, mM, bz_us _ _ _ _, ?_, bz_th_LM hLM2 1, ?_, ?_, ?_⟩
    · unfold qz_th
      refine ⟨fun q hq => ?_, fun x j x1 x2 x3 x4 => by rw [bz_uo (by omega)]; exact hL2.2 x j x1 x2 x3 x4⟩
      have z : ∀ q ∈ bz_TC, q.1 ≠ 0 := by decide +kernel
      rw [bz_uo (z q hq)]
      exact hL2.1 q hq
    · intro o i ho
      unfold qz_th
      rw [bz_uo (by omega), hf o i (by omega) (by omega) (by omega)]
    · intro o i o1 o2
      rw [bz_uo o1, mf o i o1 o2]
    · intro i i1 i2
      rw [bz_ui i1, mf7 i i2]
