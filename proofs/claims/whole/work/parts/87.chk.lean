section CKG
variable {h0 m0 hc hm P : qz_H} {M f d t : Int}
/-- takeResult of a type, as take in the class -/
theorem bz_tkR (hM : M = 6 ∨ M = 18) (wf : bz_wf P) {b : Int} (k : bz_K h0 m0 hc hm M P f d t b) {ty : Int} (y0 : 1 ≤ ty) (y1 : ty ≤ 2) : ∃ gc t' b' hc' hm', fn_Checker_take 48 ty hc = some (gc, hc') ∧ fn_Md_takeResult 67 ty hm = some (0, hm') ∧ bz_K h0 m0 hc' hm' M P f d t' b' ∧ t' ≤ t := by
  obtain ⟨gc, t', b', hc', hm', e1, e2, e3, e4, e5, e6⟩ := bz_take hM wf k y0 (show ty ≤ 3 by omega)
  rw [show bz_sv ty = ty from if_neg (by omega)] at e2
  refine ⟨gc, t', b', hc', hm', e1, ?_, e3, e5⟩
  unfold fn_Md_takeResult fn_Md_takeResult_13
  rw [if_neg (by omega), e2, bz_bc]
  rfl
theorem bz_callc (hM : M = 6 ∨ M = 18) (wf : bz_wf P) (k : bz_K h0 m0 hc hm M P f d t 0) (ht : t < 64) {v : Int} (v0 : 0 ≤ v) (v1 : v ≤ 4294967295) : bz_CE h0 m0 M P f d t (fn_Checker_checkCall 48 v hc) (fn_Md_callOf 67 v hm) := by
  have w4 := wf.2.1
  obtain ⟨x1, x2, x3, x4, x5⟩ := k.1
  obtain ⟨y1, y2, y3, y4⟩ := k.2.1
  unfold fn_Checker_checkCall fn_Md_callOf fn_Md_bad
  rw [x3, bz_ck (by omega), bz_hasF, bz_bc, x2.1, y2.1]
  by_cases z : v < P 0 0
  · have q : (if 0 ≤ v ∧ v < P 0 0 ∧ v < 4 then (1 : Int) else 0) = 1 := if_pos (by omega)
    obtain ⟨a1, a2, a3, a4, a5, a6⟩ := bz_mod x1 hM
    obtain ⟨b1, b2, b3⟩ := bz_fun x1 hM v0 (show v ≤ 3 by omega)
    obtain ⟨p1, p2, p3, p4, p5, p6, p7, p8, p9, p10, p11⟩ := wf.2.2 v v0 z
    have mn : qz_min (P 1 v) 6 = P 1 v := by
      unfold qz_min
      by_cases w : 6 < P 1 v
      · omega
      · rw [if_neg w]
    rw [q, if_pos (by omega), x3, bz_ck (by omega), a1, bz_ck (by omega), a4, bz_w (show -2147483648 ≤ v by omega) (by omega), bz_ck (by omega), b1, bz_bn, bz_ck (by omega), (x2.2 v v0 z).1, mn, bz_w (show -2147483648 ≤ P 1 v - 1 by omega) (by omega), bz_bn]
    rw [if_pos (by rw [bz_cmp_neg]; exact z), bz_bn, bz_m67_16 y1, bz_m79_m1 y1, bz_ck (by omega), bz_ck (by omega), (y2.2 v v0 z).1, bz_w (show -2147483648 ≤ P 1 v - 1 by omega) (by omega), bz_bn]
    -- the parameters, from the last on
    have loop : ∀ (m n : Nat) (j t' b : Int) (hc hm : qz_H), (m : Int) = j + 1 → j < P 1 v → bz_K h0 m0 hc hm M P f d t' b → t' ≤ t → bz_CE h0 m0 M P f d t (fn_Checker_checkCall_41 (n + m + 1) 48 (M + 4 + 2 * v) j hc) (fn_Md_callOf_28 (n + m + 1) 67 v j hm) := by
      intro m
      induction m with
      | zero =>
        intro n j t' b hc hm hj jl k htt
        rw [fn_Checker_checkCall_41, fn_Md_callOf_28]
        unfold fn_Checker_checkCall_41_b fn_Md_callOf_28_b fn_Md_callOf_74
        obtain ⟨c1, c2, c3, c4, c5, c6, c7⟩ := k.1.2.1.2 v v0 z
        obtain ⟨e1, e2, e3, e4, e5, e6, e7⟩ := k.2.1.2.1.2 v v0 z
        rw [if_pos (by omega), if_pos (by omega), bz_ck (by omega), c3, bz_m67_18 k.2.1.1, bz_m81_m1 k.2.1.1, bz_ck (by omega), bz_ck (by omega), bz_ck (by omega), bz_ck (by omega), e3]
        obtain ⟨h3, m3, t3, g1, g2, g3, g4⟩ := bz_putC hM wf k (show t' < 64 by omega) p5 p6
        rw [g1, bz_bc]
        by_cases w : P 3 v ≤ 0
        · rw [if_pos w] at g2 ⊢
          cases g2
          exact g3.ce (by omega)
        · rw [if_neg w] at g2 ⊢
          rw [g2, bz_bc]
          exact g3.ce (by omega)
      | succ m ih =>
        intro n j t' b hc hm hj jl k htt
        obtain ⟨c1, c2, c3, c4, c5, c6, c7⟩ := k.1.2.1.2 v v0 z
        obtain ⟨e1, e2, e3, e4, e5, e6, e7⟩ := k.2.1.2.1.2 v v0 z
        obtain ⟨b1', b2', b3'⟩ := bz_fun k.1.1 hM v0 (show v ≤ 3 by omega)
        have ty := p10 j (by omega) (by omega)
        obtain ⟨gc, t2, b2, h2, m2, g1, g2, g3, g4⟩ := bz_tkR hM wf k (ty := P 7 (8 * v + j)) (by omega) (by omega)
        rw [show n + (m + 1) + 1 = (n + m + 1) + 1 from by omega, fn_Checker_checkCall_41, fn_Md_callOf_28]
        unfold fn_Checker_checkCall_41_b fn_Md_callOf_28_b
        rw [if_neg (by omega), if_neg (by omega), bz_ck (by omega), b2', b3', bz_ck (by omega), bz_ck (by omega), c6 j (by omega) (by omega), g1, bz_bc, bz_bn, bz_m67_19 k.2.1.1, bz_m82_m1 k.2.1.1, bz_w (show -2147483648 ≤ 8 * v by omega) (by omega), bz_w (show -2147483648 ≤ 8 * v + j by omega) (by omega), bz_ck (by omega), bz_ck (by omega), e6 j (by omega) (by omega), g2, bz_bc, bz_bn, bz_w (show -2147483648 ≤ j + -1 by omega) (by omega)]
        exact ih n (j + -1) t2 b2 h2 m2 (by omega) (by omega) g3 (by omega)
    have l := loop (P 1 v).toNat (3999 - (P 1 v).toNat) (P 1 v - 1) t 0 hc hm (by omega) (by omega) k (Int.le_refl _)
    rw [show 3999 - (P 1 v).toNat + (P 1 v).toNat + 1 = qz_NF from by unfold qz_NF; omega] at l
    exact l
  · have q : (if 0 ≤ v ∧ v < P 0 0 ∧ v < 4 then (1 : Int) else 0) = 0 := if_neg (by omega)
    rw [q, if_neg (fun w => w rfl), if_neg (by rw [bz_cmp_neg]; exact z), bz_ck (by omega), bz_ck (by omega), bz_ck (by omega), bz_ck (by omega), bz_bn, bz_bn, bz_bc]
    exact bz_bad2 hM wf k (by omega)
theorem bz_slot (hM : M = 6 ∨ M = 18) (wf : bz_wf P) (k : bz_K h0 m0 hc hm M P f d t 0) (f0 : 0 ≤ f) (f1 : f < P 0 0) (ht : t < 64) {x c v : Int} (hx : x = -14 ∧ c = 32 ∨ x = -15 ∧ c = 33 ∨ x = -16 ∧ c = 34) (v0 : 0 ≤ v) (v1 : v ≤ 4294967295) : bz_CE h0 m0 M P f d t (fn_Checker_checkSlot 48 x v hc) (fn_Md_local 67 f c v hm) := by
  have w4 := wf.2.1
  obtain ⟨x1, x2, x3, x4, x5⟩ := k.1
  obtain ⟨y1, y2, y3, y4⟩ := k.2.1
  obtain ⟨p1, p2, p3, p4, p5, p6, p7, p8, p9, p10, p11⟩ := wf.2.2 f f0 f1
  obtain ⟨c1, c2, c3, c4, c5, c6, c7⟩ := x2.2 f f0 f1
  obtain ⟨e1, e2, e3, e4, e5, e6, e7⟩ := y2.2 f f0 f1
  unfold fn_Checker_checkSlot fn_Md_local fn_Md_bad
  rw [x4, bz_ck (by omega), bz_hasS, bz_bc, c2, bz_m67_17 y1, bz_m80_m1 y1, bz_ck (show (80 : Int) ≠ 0 by omega), bz_ck (show 0 ≤ f ∧ f < 4 by omega), e2]
  by_cases z : v < P 2 f
  · have q : (if 0 ≤ v ∧ v < P 2 f ∧ v < 8 then (1 : Int) else 0) = 1 := if_pos (by omega)
    obtain ⟨b1, b2, b3⟩ := bz_fun x1 hM f0 (show f ≤ 3 by omega)
    have ty := p10 v v0 z
    rw [q, if_pos (by omega), x4, bz_ck (show M + 4 + 2 * f ≠ 0 by omega), b2, bz_ck (show M + 5 + 2 * f ≠ 0 by omega), b3, bz_w (show -2147483648 ≤ v by omega) (by omega), bz_ck (show 0 ≤ v ∧ v < 8 by omega), c6 v v0 z, bz_bn]
    rw [if_pos (show qz_cmp v (P 2 f) < 0 by rw [bz_cmp_neg]; exact z), bz_m67_19 y1, bz_m82_m1 y1, bz_w (show -2147483648 ≤ 8 * f by omega) (by omega), bz_w (show -2147483648 ≤ 8 * f + v by omega) (by omega), bz_ck (show (82 : Int) ≠ 0 by omega), bz_ck (show 0 ≤ 8 * f + v ∧ 8 * f + v < 32 by omega), e6 v v0 z, bz_bn]
    unfold fn_Checker_checkSlot_43 fn_Checker_checkSlot_56 fn_Md_local_67
    rcases hx with ⟨h1, h2⟩ | ⟨h1, h2⟩ | ⟨h1, h2⟩
    · subst h1; subst h2
      obtain ⟨h3, m3, t3, g1, g2, g3, g4⟩ := bz_putC hM wf k ht (p := P 7 (8 * f + v)) (by omega) (by omega)
      rw [if_neg (show ¬ P 7 (8 * f + v) ≤ 0 by omega)] at g2
      rw [if_pos (show (-14 : Int) = -14 from rfl), if_neg (show ¬ (-14 : Int) = -15 by omega), g1, bz_bc, if_neg (show ¬ ¬ (32 : Int) = 32 from fun w => w rfl), g2, bz_bc]
      exact g3.ce g4
    · subst h1; subst h2
      obtain ⟨gc, t2, b2, h3, m3, g1, g2, g3, g4⟩ := bz_tkR hM wf k (ty := P 7 (8 * f + v)) (by omega) (by omega)
      rw [if_neg (show ¬ (-15 : Int) = -14 by omega), g1, bz_bc, if_pos (show (-15 : Int) = -15 from rfl), if_pos (show ¬ (33 : Int) = 32 by omega), if_neg (show ¬ ¬ (33 : Int) = 33 from fun w => w rfl), g2, bz_bc]
      exact g3.ce (by omega)
    · subst h1; subst h2
      obtain ⟨gc, t2, b2', h3, m3, g1, g2, g3, g4, g5, g6⟩ := bz_take hM wf k (tc := P 7 (8 * f + v)) (by omega) (by omega)
      rw [show bz_sv (P 7 (8 * f + v)) = P 7 (8 * f + v) from if_neg (by omega)] at g2
      obtain ⟨h4, m4, t4, i1, i2, i3, i4⟩ := bz_putC hM wf g3 (show t2 < 64 by omega) (p := P 7 (8 * f + v)) (by omega) (by omega)
      rw [if_neg (show ¬ P 7 (8 * f + v) ≤ 0 by omega)] at i2
      unfold fn_Md_takeAndPut fn_Md_takeAndPut_15
      rw [if_neg (show ¬ (-16 : Int) = -14 by omega), g1, bz_bc, if_neg (show ¬ (-16 : Int) = -15 by omega), i1, bz_bc, if_pos (show ¬ (34 : Int) = 32 by omega), if_pos (show ¬ (34 : Int) = 33 by omega), if_neg (show ¬ P 7 (8 * f + v) ≤ 0 by omega), g2, bz_bc, bz_bn, i2, bz_bc, bz_bc]
      exact i3.ce (by omega)
  · have q : (if 0 ≤ v ∧ v < P 2 f ∧ v < 8 then (1 : Int) else 0) = 0 := if_neg (by omega)
    rw [q, if_neg (show ¬ ¬ (0 : Int) = 0 from fun w => w rfl), if_neg (show ¬ qz_cmp v (P 2 f) < 0 by rw [bz_cmp_neg]; exact z), bz_ck (by omega), bz_ck (by omega), bz_ck (by omega), bz_ck (by omega), bz_bn, bz_bn, bz_bc]
    exact bz_bad2 hM wf k (by omega)
theorem bz_selct (hM : M = 6 ∨ M = 18) (wf : bz_wf P) (k : bz_K h0 m0 hc hm M P f d t 0) (ht : t < 64) : bz_CE h0 m0 M P f d t (fn_Checker_checkSelect 48 hc) (fn_Md_select 67 hm) := by
  obtain ⟨g0, t1, b1, h1, m1, e1, e2, e3, e4⟩ := bz_tkR hM wf k (ty := 1) (by omega) (by omega)
  obtain ⟨g2, t2, b2, h2, m2, f1, f2, f3, f4, f5, f6⟩ := bz_take hM wf e3 (tc := 3) (by omega) (by omega)
  rw [show bz_sv 3 = 0 from if_pos rfl] at f2
  obtain ⟨g3, t3, b3, h3, m3, i1, i2, i3, i4, i5, i6⟩ := bz_take hM wf f3 (tc := g2) f4.1 f4.2
  unfold fn_Checker_checkSelect fn_Checker_checkSelect_29 fn_Md_select fn_Md_select_27
  rw [e1, bz_bc, f1, bz_bc, bz_bn, i1, bz_bc, bz_bn, e2, bz_bc, f2, bz_bc, bz_bn, i2, bz_bc, bz_bn]
  rcases bz_sv_rg f4.1 f4.2 with ⟨s1, s2⟩ | ⟨s1, s2⟩
  · obtain ⟨h4, m4, j1, j2, j3⟩ := bz_put1 hM wf i3 (show t3 < 64 by omega) i4.1 i4.2
    rw [s2, if_neg (fun w => w s1), if_pos rfl, j1, j2, bz_bc, bz_bc]
    exact j3.ce (by omega)
  · obtain ⟨h4, m4, j1, j2, j3⟩ := bz_put1 hM wf i3 (show t3 < 64 by omega) f4.1 f4.2
    rw [if_pos s1, if_neg (by omega), j1, j2, bz_bc, bz_bc]
    exact j3.ce (by omega)
/-- the class's switch over the instructions -/
def bz_csw (w l1 l2 : Int) (h2 : qz_H) : Option qz_R :=
  qz_swt w [
    (1, qz_bc (fn_Checker_beginFrame 48 l1 (qz_w l2) h2) fun _ h4 => fn_Checker_check_184 h4),
    (2, qz_bc (fn_Checker_beginFrame 48 l1 (qz_w l2) h2) fun _ h6 => fn_Checker_check_184 h6),
    (3, qz_bc (fn_Checker_beginFrame 48 l1 (qz_w l2) h2) fun _ h8 => fn_Checker_check_184 h8),
    (4, qz_bc (fn_Checker_endFrame 48 h2) fun _ h10 => qz_bc (fn_Checker_restartFrame 48 h10) fun _ h12 => fn_Checker_check_184 h12),
    (5, qz_bc (fn_Checker_leaveFrame 48 h2) fun _ h14 => fn_Checker_check_184 h14),
    (6, qz_bc (fn_Checker_checkBranch 48 l1 l2 h2) fun _ h16 => fn_Checker_check_184 h16),
    (7, qz_bc (fn_Checker_checkBranch 48 l1 l2 h2) fun _ h18 => fn_Checker_check_184 h18),
    (8, qz_ck ((h2 48 3 : Int) ≠ 0) <| qz_bc (fn_Checker_takeResult 48 (h2 (h2 48 3) 3) h2) fun _ h20 => qz_bc (fn_Checker_makeUnreachable 48 h20) fun _ h22 => fn_Checker_check_184 h22),
    (9, qz_bc (fn_Checker_makeUnreachable 48 h2) fun _ h24 => fn_Checker_check_184 h24),
    (10, qz_bc (fn_Checker_checkCall 48 l2 h2) fun _ h26 => fn_Checker_check_184 h26),
    (11, qz_bc (fn_Checker_take 48 3 h2) fun r27 h28 => fn_Checker_check_184 h28),
    (12, qz_bc (fn_Checker_checkSelect 48 h2) fun _ h30 => fn_Checker_check_184 h30),
    (13, qz_bc (fn_Checker_checkSlot 48 l1 l2 h2) fun _ h32 => fn_Checker_check_184 h32),
    (14, qz_bc (fn_Checker_checkSlot 48 l1 l2 h2) fun _ h34 => fn_Checker_check_184 h34),
    (15, qz_bc (fn_Checker_checkSlot 48 l1 l2 h2) fun _ h36 => fn_Checker_check_184 h36)] <|
    qz_bc (fn_Checker_checkSimple 48 l1 h2) fun _ h38 => fn_Checker_check_184 h38
theorem bz_ckC {x o w v : Int} {h : qz_H} (hL : bz_LC h) (x0 : -30 ≤ x) (x1 : x ≤ -1) (ho : kz_dt x 6 = o) (o0 : 0 ≤ o) (o1 : o < 30) (hw : kz_dt (-33) o = w) : fn_Checker_check 48 x v h = bz_csw w x v h := by
  unfold fn_Checker_check fn_Enum_ordinal
  rw [bz_ck (show x ≠ 0 by omega), hL.2 x 6 (by omega) (by omega) (by omega) (by omega), ho, bz_bc, hL.2 (-33) (-1) (by omega) (by omega) (by omega) (by omega), show kz_dt (-33) (-1) = 30 from by decide +kernel, bz_ck (show 0 ≤ o ∧ o < 30 by omega), hL.2 (-33) o (by omega) (by omega) (by omega) (by omega), hw]
  rfl
theorem bz_CE.wr {a b : Option qz_R} (h : bz_CE h0 m0 M P f d t a b) : bz_CE h0 m0 M P f d t (qz_bc a fun _ h => fn_Checker_check_184 h) (qz_bc b fun _ h => fn_Md_check_179 h) := by
  obtain ⟨hc', hm', e1, e2, e3⟩ := h
  subst e1; subst e2
  exact ⟨hc', hm', rfl, rfl, e3⟩
theorem bz_CE.wl {a b : Option qz_R} (h : bz_CE h0 m0 M P f d t a b) : bz_CE h0 m0 M P f d t a (qz_bc b fun _ h => fn_Md_check_179 h) := by
  obtain ⟨hc', hm', e1, e2, e3⟩ := h
  subst e1; subst e2
  exact ⟨hc', hm', rfl, rfl, e3⟩
end CKG
