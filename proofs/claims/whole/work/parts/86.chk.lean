section CKF
variable {h0 m0 hc hm P : qz_H} {M f d t : Int}
def bz_dl (c : Int) : Int := if 2 ≤ c ∧ c ≤ 4 then 1 else if c = 11 then -1 else 0
/-- how one instruction ends, in both -/
def bz_CE (h0 m0 : qz_H) (M : Int) (P : qz_H) (f d t : Int) (a b : Option qz_R) : Prop := ∃ hc' hm', a = some (0, hc') ∧ b = some (0, hm') ∧ ((∃ t', bz_K h0 m0 hc' hm' M P f d t' 0 ∧ t' ≤ t + 1) ∨ bz_Iv h0 m0 hc' hm' M P f)
/-- from where both stand alike, the flag whatever it is -/
theorem bz_K.ce {b : Int} {t' : Int} (k : bz_K h0 m0 hc hm M P f d t' b) (ht : t' ≤ t + 1) : bz_CE h0 m0 M P f d t (some (0, hc)) (some (0, hm)) := by
  by_cases z : b = 0
  · subst z
    exact ⟨hc, hm, rfl, rfl, Or.inl ⟨t', k, ht⟩⟩
  · have b1 : b = 1 := by have := k.2.2.2.1.1; omega
    subst b1
    exact ⟨hc, hm, rfl, rfl, Or.inr ⟨k.1, k.2.1, k.2.2.1.2.2.2.2.1, k.2.2.1.2.2.2.2.2⟩⟩
theorem bz_bad2 (hM : M = 6 ∨ M = 18) (wf : bz_wf P) {b t' : Int} (k : bz_K h0 m0 hc hm M P f d t' b) (ht : t' ≤ t + 1) : bz_CE h0 m0 M P f d t (some (0, qz_up hc 48 6 1)) (some (0, qz_up hm 67 57 1)) := bz_K.ce ⟨k.1.up hM wf (by omega), k.2.1.up (by omega), k.2.2.flag (Or.inr rfl)⟩ ht
/-- a put that may be none -/
theorem bz_putC (hM : M = 6 ∨ M = 18) (wf : bz_wf P) {b t' : Int} (k : bz_K h0 m0 hc hm M P f d t' b) (t1 : t' < 64) {p : Int} (p0 : 0 ≤ p) (p1 : p ≤ 2) : ∃ hc' hm' t2, fn_Checker_put 48 p hc = some (0, hc') ∧ (if p ≤ 0 then some (0, hm) else fn_Md_put 67 p hm) = some (0, hm') ∧ bz_K h0 m0 hc' hm' M P f d t2 b ∧ t2 ≤ t' + 1 := by
  by_cases z : p = 0
  · subst z
    refine ⟨hc, hm, t', ?_, if_pos (by omega), k, by omega⟩
    unfold fn_Checker_put fn_Checker_put_40
    rw [if_pos rfl]
  · obtain ⟨hc', hm', b1, b2, b3⟩ := bz_put1 hM wf k t1 (show 1 ≤ p by omega) (by omega)
    rw [show bz_sv p = p from if_neg (by omega)] at b2
    exact ⟨hc', hm', t' + 1, b1, by rw [if_neg (by omega)]; exact b2, b3, Int.le_refl _⟩
/-- the class's simple instructions: taken n times, then put -/
theorem bz_simC {x n ty p : Int} (hx : -30 ≤ x) (hx1 : x ≤ -1) (hn : kz_dt x 3 = n) (hty : kz_dt x 4 = ty) (hp : kz_dt x 5 = p) {h : qz_H} (hL : bz_LC h) : ∀ (m : Nat) (q : Nat), fn_Checker_checkSimple_2 (q + 1) 48 x (m : Int) h = if n ≤ (m : Int) then qz_bc (fn_Checker_put 48 p h) fun _ h2 => some (0, h2) else qz_bc (fn_Checker_take 48 ty h) fun _ h4 => fn_Checker_checkSimple_2 q 48 x (qz_w ((m : Int) + 1)) h4 := by
  intro m q
  rw [fn_Checker_checkSimple_2]
  unfold fn_Checker_checkSimple_2_b
  rw [hL.2 x 3 (by omega) (by omega) (by omega) (by omega), hL.2 x 4 (by omega) (by omega) (by omega) (by omega), hL.2 x 5 (by omega) (by omega) (by omega) (by omega), hn, hty, hp, bz_ck (show x ≠ 0 by omega), bz_ck (show x ≠ 0 by omega), bz_ck (show x ≠ 0 by omega)]
  rfl
theorem bz_sim (hM : M = 6 ∨ M = 18) (wf : bz_wf P) (k : bz_K h0 m0 hc hm M P f d t 0) (ht : t < 64) {x n ty p : Int} (hx : -30 ≤ x) (hx1 : x ≤ -1) (hn : kz_dt x 3 = n) (hty : kz_dt x 4 = ty) (hp : kz_dt x 5 = p) (p0 : 0 ≤ p) (p1 : p ≤ 2) (y0 : n = 0 ∨ (1 ≤ ty ∧ ty ≤ 2)) :
    (n = 0 → bz_CE h0 m0 M P f d t (qz_bc (fn_Checker_checkSimple 48 x hc) fun _ h => some (0, h)) (if p ≤ 0 then some (0, hm) else fn_Md_put 67 p hm)) ∧
    (n = 1 → bz_CE h0 m0 M P f d t (qz_bc (fn_Checker_checkSimple 48 x hc) fun _ h => some (0, h)) (qz_bc (fn_Md_takeResult 67 ty hm) fun _ h2 => if p ≤ 0 then some (0, h2) else fn_Md_put 67 p h2)) ∧
    (n = 2 → bz_CE h0 m0 M P f d t (qz_bc (fn_Checker_checkSimple 48 x hc) fun _ h => some (0, h)) (qz_bc (fn_Md_takeResult 67 ty hm) fun _ h2 => qz_bc (fn_Md_takeResult 67 ty h2) fun _ h3 => if p ≤ 0 then some (0, h3) else fn_Md_put 67 p h3)) := by
  have tr : ∀ (hc hm : qz_H) (t b : Int), bz_K h0 m0 hc hm M P f d t b → (1 ≤ ty ∧ ty ≤ 2) → ∃ gc t' b' hc' hm', fn_Checker_take 48 ty hc = some (gc, hc') ∧ fn_Md_takeResult 67 ty hm = some (0, hm') ∧ bz_K h0 m0 hc' hm' M P f d t' b' ∧ t' ≤ t := by
    intro hc hm t b k hy
    obtain ⟨gc, t', b', hc', hm', e1, e2, e3, e4, e5, e6⟩ := bz_take hM wf k (show 1 ≤ ty by omega) (show ty ≤ 3 by omega)
    rw [show bz_sv ty = ty from if_neg (by omega)] at e2
    refine ⟨gc, t', b', hc', hm', e1, ?_, e3, e5⟩
    unfold fn_Md_takeResult fn_Md_takeResult_13
    rw [if_neg (by omega), e2, bz_bc]
    rfl
  unfold fn_Checker_checkSimple
  rw [bz_bn]
  refine ⟨fun hz => ?_, fun hz => ?_, fun hz => ?_⟩
  · have e := bz_simC hx hx1 hn hty hp k.1.1 0 3999
    obtain ⟨hc', hm', t2, a1, a2, a3, a4⟩ := bz_putC hM wf k ht p0 p1
    rw [if_pos (by omega), a1, bz_bc] at e
    rw [show fn_Checker_checkSimple_2 qz_NF 48 x 0 hc = _ from e, bz_bc, a2]
    exact a3.ce a4
  · have e := bz_simC hx hx1 hn hty hp k.1.1 0 3999
    obtain ⟨gc, t', b', h1, m1, c1, c2, c3, c4⟩ := tr _ _ _ _ k (by omega)
    have e' := bz_simC hx hx1 hn hty hp c3.1.1 1 3998
    obtain ⟨hc', hm', t2, a1, a2, a3, a4⟩ := bz_putC hM wf c3 (by omega) p0 p1
    rw [if_neg (by omega), c1, bz_bc, show qz_w (((0 : Nat) : Int) + 1) = ((1 : Nat) : Int) from by decide +kernel, e', if_pos (by omega), a1, bz_bc] at e
    rw [show fn_Checker_checkSimple_2 qz_NF 48 x 0 hc = _ from e, bz_bc, c2, bz_bc, a2]
    exact a3.ce (by omega)
  · have e := bz_simC hx hx1 hn hty hp k.1.1 0 3999
    obtain ⟨gc, t', b', h1, m1, c1, c2, c3, c4⟩ := tr _ _ _ _ k (by omega)
    have e' := bz_simC hx hx1 hn hty hp c3.1.1 1 3998
    obtain ⟨gc', t'', b'', h2, m2, d1, d2, d3, d4⟩ := tr _ _ _ _ c3 (by omega)
    have e'' := bz_simC hx hx1 hn hty hp d3.1.1 2 3997
    obtain ⟨hc', hm', t2, a1, a2, a3, a4⟩ := bz_putC hM wf d3 (by omega) p0 p1
    rw [if_neg (by omega), c1, bz_bc, show qz_w (((0 : Nat) : Int) + 1) = ((1 : Nat) : Int) from by decide +kernel, e', if_neg (by omega), d1, bz_bc, show qz_w (((1 : Nat) : Int) + 1) = ((2 : Nat) : Int) from by decide +kernel, e'', if_pos (by omega), a1, bz_bc] at e
    rw [show fn_Checker_checkSimple_2 qz_NF 48 x 0 hc = _ from e, bz_bc, c2, bz_bc, d2, bz_bc, a2]
    exact a3.ce (by omega)
/-- branches -/
theorem bz_brn (hM : M = 6 ∨ M = 18) (wf : bz_wf P) (k : bz_K h0 m0 hc hm M P f d t 0) (ht : t < 64) {x c v : Int} (hx : x = -8 ∧ c = 12 ∨ x = -9 ∧ c = 13) (v0 : 0 ≤ v) (v1 : v ≤ 4294967295) : bz_CE h0 m0 M P f d t (fn_Checker_checkBranch 48 x v hc) (fn_Md_branch 67 c v hm) := by
  have core : ∀ (hc hm : qz_H) (t' b : Int), bz_K h0 m0 hc hm M P f d t' b → t' ≤ t → bz_CE h0 m0 M P f d t (fn_Checker_checkBranch_13 48 x v hc) (fn_Md_branch_11 67 c v hm) := by
    intro hc hm t' b k htt
    obtain ⟨⟨a1, a2, a3, a4, a5, a6⟩, ⟨q1, q2, q3, q4, q5⟩, s1, s2, s3, s4⟩ := id k.2.2
    unfold fn_Checker_checkBranch_13 fn_Checker_checkBranch_29 fn_Checker_checkBranch_78 fn_Md_branch_11 fn_Md_branch_67 fn_Md_bad
    have n1 : ¬ qz_cmp v 0 < 0 := by rw [bz_cmp_neg]; omega
    have n2 : qz_cmp v (hc 48 5) ≤ 0 ↔ v ≤ d := by
      rw [a3]
      unfold qz_cmp
      split
      · omega
      split <;> omega
    have n3 : qz_cmp v (hm 67 51) < 0 ↔ v ≤ d := by rw [bz_cmp_neg, a4]; omega
    rw [if_neg n1]
    by_cases z : v ≤ d
    · rw [if_pos (n2.mpr z), if_pos (n3.mpr z)]
      obtain ⟨f1, f2, f3, f4, f5, f6, f7, f8, f9, f10⟩ := s2 (d - v) (by omega) (by omega)
      have fr := bz_frm k.1.1 (show 0 ≤ d - v by omega) (show d - v ≤ 11 by omega)
      obtain ⟨t2, b2, h2, m2, e1, e2, e3, e4, e5⟩ := bz_tres hM wf k f7.1 f7.2
      have hcS : ∀ K : Int → Option qz_R, (qz_ck ((hc 48 1 : Int) ≠ 0) <| qz_ck ((0 : Int) ≤ qz_w ((hc 48 5) - (qz_w v)) ∧ qz_w ((hc 48 5) - (qz_w v)) < hc (hc 48 1) (-1)) <| qz_ck ((hc (hc 48 1) (qz_w ((hc 48 5) - (qz_w v))) : Int) ≠ 0) <| qz_bn (hc (hc (hc 48 1) (qz_w ((hc 48 5) - (qz_w v)))) 0 : Int) K) = K (hc (51 + (d - v)) 0) := by
        intro K
        rw [bz_c48_1 k.1.1, bz_c50_m1 k.1.1, a3, bz_w (show -2147483648 ≤ v by omega) (by omega), bz_w (show -2147483648 ≤ d - v by omega) (by omega), fr, bz_ck (by omega), bz_ck (by omega), bz_ck (by omega), bz_bn]
      have hmS : ∀ K : Int → Option qz_R, (qz_ck ((hm 67 52 : Int) ≠ 0) <| qz_ck ((0 : Int) ≤ qz_w ((qz_w ((hm 67 51) - 1)) - (qz_w v)) ∧ qz_w ((qz_w ((hm 67 51) - 1)) - (qz_w v)) < hm (hm 67 52) (-1)) <| qz_bn (hm (hm 67 52) (qz_w ((qz_w ((hm 67 51) - 1)) - (qz_w v))) : Int) K) = K (hc (51 + (d - v)) 0) := by
        intro K
        rw [bz_m67_52 k.2.1.1, bz_m101_m1 k.2.1.1, a4, show d + 1 - 1 = d from by omega, bz_w (show -2147483648 ≤ d by omega) (by omega), bz_w (show -2147483648 ≤ v by omega) (by omega), bz_w (show -2147483648 ≤ d - v by omega) (by omega), bz_ck (by omega), bz_ck (by omega), bz_bn, f1]
      rw [hcS, hmS, e1, bz_bc]
      rcases hx with ⟨x1, x2⟩ | ⟨x1, x2⟩
      · subst x1; subst x2
        obtain ⟨t3, h3, m3, g1, g2, g3, g4⟩ := bz_die hM wf e3
        rw [if_pos (by omega), if_pos (by omega), e2, bz_bc, g1, g2, bz_bc, bz_bc]
        exact g3.ce (by omega)
      · subst x1; subst x2
        obtain ⟨h3, m3, t3, g1, g2, g3, g4⟩ := bz_putC hM wf e3 (show t2 < 64 by omega) f7.1 f7.2
        rw [if_neg (fun w => w rfl), if_neg (fun w => w rfl), g1, bz_bc]
        unfold fn_Md_takeAndPut fn_Md_takeAndPut_15
        unfold fn_Md_takeResult fn_Md_takeResult_13 at e2
        by_cases z0 : hc (51 + (d - v)) 0 ≤ 0
        · rw [if_pos z0] at g2 e2 ⊢
          have em : hm = m2 := by
            have : some ((0 : Int), hm) = some (0, m2) := e2
            cases this
            rfl
          rw [bz_bc, em]
          cases g2
          exact g3.ce (by omega)
        · rw [if_neg z0] at g2 e2 ⊢
          cases htk : fn_Md_take 67 (hc (51 + (d - v)) 0) hm with
          | none => rw [htk] at e2; cases e2
          | some qq =>
            obtain ⟨rr, mm⟩ := qq
            rw [htk, bz_bc] at e2
            have em : mm = m2 := by
              have : some ((0 : Int), mm) = some (0, m2) := e2
              cases this
              rfl
            rw [bz_bc, bz_bn, em, g2, bz_bc, bz_bc]
            exact g3.ce (by omega)
    · rw [if_neg (fun w => z (n2.mp w)), if_neg (fun w => z (n3.mp w)), bz_ck (by omega), bz_ck (by omega), bz_ck (by omega), bz_ck (by omega), bz_bn, bz_bn, bz_bc]
      exact bz_bad2 hM wf k (by omega)
  unfold fn_Checker_checkBranch fn_Md_branch
  rcases hx with ⟨x1, x2⟩ | ⟨x1, x2⟩
  · rw [if_pos (by omega), if_pos (by omega)]
    exact core hc hm t 0 k (Int.le_refl _)
  · obtain ⟨gc, t', b', h1, m1, e1, e2, e3, e4, e5, e6⟩ := bz_take hM wf k (show (1 : Int) ≤ 1 by omega) (by omega)
    rw [if_neg (fun w => w x1), if_neg (fun w => w x2), e1, bz_bc]
    unfold fn_Md_takeResult fn_Md_takeResult_13
    rw [show bz_sv 1 = 1 from if_neg (by omega)] at e2
    rw [if_neg (by omega), e2, bz_bc, bz_bn, bz_bc]
    exact core h1 m1 t' b' e3 e5
end CKF
