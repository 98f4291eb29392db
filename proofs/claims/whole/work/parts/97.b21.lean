/-! The variables of a function, side by side. -/
section SC
variable {t : Int → Int} {N T M : Int} {hc0 hm0 hc hm hc' hm' : qz_H}
def cz_hid (p : Prop) : Prop := p
theorem cz_G.vars {c m d b q e u : Int} (g : cz_G t hc hm M c m d b q e u) : 0 ≤ hm 79 (c - 1) ∧ hm 79 (c - 1) ≤ 6 ∧ hm 79 (c - 1) ≤ hm 80 (c - 1) ∧ hm 80 (c - 1) ≤ 8 ∧ hc (M + 2 + 2 * c) 1 = hm 79 (c - 1) ∧ hc (M + 2 + 2 * c) 2 = hm 80 (c - 1) := by
  obtain ⟨gH, g5, gq⟩ := g
  have c1 : 1 ≤ c := gH.2.2.2.2.2
  obtain ⟨a1, a2, a3, a4, a5, a6, a7, a8, a9⟩ := gH.1
  obtain ⟨b1, b2, b3, b4, b5, b6, b7, b8, b9, b10, b11⟩ := (a9 (c - 1) (by omega) (by omega)).1
  rw [show M + 4 + 2 * (c - 1) = M + 2 + 2 * c by omega] at b1 b2
  exact ⟨b5, b6, b7, b8, b1, b2⟩
theorem cz_VY_un {c x a v x5 x6 o i : Int} (n1 : ¬ (o = 82 ∧ i = 8 * (c - 1) + x)) (n2 : ¬ ((o = 88 ∨ o = 89) ∧ i = x)) (n3 : ¬ ((o = 79 ∨ o = 80) ∧ i = c - 1)) : cz_VY hm c x a v x5 x6 o i = hm o i := by
  unfold cz_VY
  simp (disch := omega) only [cz_un]
theorem cz_VY_at {c x a v x5 x6 : Int} : cz_VY hm c x a v x5 x6 82 (8 * (c - 1) + x) = v ∧ cz_VY hm c x a v x5 x6 88 x = x5 ∧ cz_VY hm c x a v x5 x6 89 x = x6 ∧ cz_VY hm c x a v x5 x6 80 (c - 1) = x + 1 ∧ cz_VY hm c x a v x5 x6 79 (c - 1) = hm 79 (c - 1) + a := by
  unfold cz_VY
  refine ⟨?_, ?_, ?_, ?_, ?_⟩ <;> simp (disch := omega) only [cz_un, bz_us]
theorem cz_var {k : Nat} {kd s : Int} {L : Nat} {c m q a x5 x6 : Int} (S : cz_S t N T M hc0 hm0 k hc hm kd s L) (g : cz_G t hc hm M c m 0 0 q (-1) s) (h5 : hc 30 5 = 3) (h6 : hc 30 6 = 0) (ha : a = 0 ∧ hc 38 0 = 5 ∨ a = 1 ∧ hc 38 0 = 4) (par : a = 1 → hm 79 (c - 1) = hm 80 (c - 1)) (hp : hc 38 1 = 0 ∨ hc 38 1 = 1 ∨ hc 38 1 = 2) (np : ¬ (kd = 1 ∧ hc 38 1 ≠ 1)) (nn : hc 38 1 = 0 → ¬ cz_nt t kd s L) (nm : cz_nm t (hc 38 2) x5 x6) : cz_bad M hc0 hm0 (cz_go k hc) (fn_Md_variable 67 (c - 1) a x5 x6 hm) ∨ ∃ k' hc' hm' kd' s' L', cz_go k hc = cz_go k' hc' ∧ fn_Md_variable 67 (c - 1) a x5 x6 hm = some (1, hm') ∧ cz_S t N T M hc0 hm0 k' hc' hm' kd' s' L' ∧ s < s' ∧ cz_G t hc' hm' M c m 0 0 q (-1) s' ∧ hc' 38 1 = (if hc 38 1 = 1 then 3 else 2) ∧ (∀ o i : Int, (o = 37 ∨ o = 38 ∧ i ≠ 1 ∨ o = 30 ∧ i ≠ 9) → hc' o i = hc o i) ∧ (a = 1 → hm' 79 (c - 1) = hm' 80 (c - 1)) := by
  have e := S.en
  have hM := e.hM
  obtain ⟨c1, c4, m0, m64, r3, r4, r23, r15, r50, r51, q0, r39, r28⟩ := g.rows
  obtain ⟨v1, v2, v3, v4, v5, v6⟩ := g.vars
  have kk : hc 38 0 = 4 ∨ hc 38 0 = 5 := by omega
  have a01 : a = 0 ∨ a = 1 := by omega
  rw [cz_vrM e S.tk c1 c4 rfl (by omega) v4 v1 v2 a01]
  by_cases h0 : cz_ty t kd s L = 0
  · left
    rw [if_pos h0, cz_dcl0 e S.tk h5 h6 kk (Or.inl h0), if_neg np, if_neg (show ¬ (hc 38 1 = 0 ∧ cz_nt t kd s L) from fun h => nn h.1 h.2)]
    exact cz_badI e (Or.inl rfl) S.sm
  · have kd2 := cz_ty2 h0
    have v12 : cz_ty t kd s L = 1 ∨ cz_ty t kd s L = 2 := by have := cz_ty012 (t := t) kd s L; omega
    rw [if_neg h0, cz_dclT e S.tk h5 h6 kk h0 (by omega)]
    clear np nn
    generalize cz_ty t kd s L = v at h0 v12 ⊢
    generalize hpp : (if hc 38 1 = 1 then (3 : Int) else 2) = pp
    have e1 : cz_en t N T M hc0 hm0 (qz_up hc 38 1 pp) hm := e.uc (by omega)
    obtain ⟨D1, D2⟩ := cz_decC e1 (c := c) (x := hm 80 (c - 1)) (by rw [cz_un (by omega)]; exact r3) c1 c4 (by rw [cz_un (by omega)]; exact v6) (by omega) v4 (by rw [cz_un (by omega)]; omega) (by rw [cz_un (by omega)]; omega) (by rw [cz_un (by omega)]; exact kk) v
    have u1 : (qz_up hc 38 1 pp) (M + 2 + 2 * c) 1 = hm 79 (c - 1) := by rw [cz_un (by omega)]; exact v5
    have u0 : (qz_up hc 38 1 pp) 38 0 = hc 38 0 := cz_un (by omega)
    have u2 : (qz_up hc 38 1 pp) 38 2 = hc 38 2 := cz_un (by omega)
    rw [u1, u0, u2] at D1
    rw [u1, u0] at D2
    by_cases hf : hm 80 (c - 1) = 8 ∨ a = 1 ∧ hm 80 (c - 1) = 6
    · left
      obtain ⟨X, d1, d2⟩ := D2 (by
        rcases hf with h | h
        · omega
        · have := par h.1
          omega)
      rw [if_pos hf, d1, bz_bc, if_pos rfl]
      exact cz_badI (e1.fC (fun o i h => d2 o i (by omega))) (Or.inr rfl) (by rw [d2 _ _ (by omega), cz_un (by omega)]; exact S.sm)
    · right
      have hok : hm 80 (c - 1) < 8 ∧ ¬ (hc 38 0 = 4 ∧ hm 79 (c - 1) = 6) := by
        refine ⟨by omega, fun h => ?_⟩
        have := par (by omega)
        omega
      rw [if_neg hf, D1 hok, bz_bc, if_neg (show ¬ (1 : Int) = 0 by omega)]
      have pa : a = 1 → hm 79 (c - 1) < 6 := fun h => by have := par h; omega
      clear D1 D2 hf
      obtain ⟨X, hX, x_, x1, x2, x3, x4⟩ : ∃ X : qz_H, (if hc 38 0 = 4 then qz_up (qz_up (qz_up (qz_up (qz_up hc 38 1 pp) 33 (hm 80 (c - 1)) (hc 38 2)) (M + 3 + 2 * c) (hm 80 (c - 1)) v) (M + 2 + 2 * c) 2 (hm 80 (c - 1) + 1)) (M + 2 + 2 * c) 1 (hm 79 (c - 1) + 1) else qz_up (qz_up (qz_up (qz_up hc 38 1 pp) 33 (hm 80 (c - 1)) (hc 38 2)) (M + 3 + 2 * c) (hm 80 (c - 1)) v) (M + 2 + 2 * c) 2 (hm 80 (c - 1) + 1)) = X ∧ (∀ o i : Int, ¬ (o = 38 ∧ i = 1) → ¬ (o = 33 ∧ i = hm 80 (c - 1)) → ¬ (o = M + 3 + 2 * c ∧ i = hm 80 (c - 1)) → ¬ (o = M + 2 + 2 * c ∧ (i = 1 ∨ i = 2)) → X o i = hc o i) ∧ X 33 (hm 80 (c - 1)) = hc 38 2 ∧ X (M + 3 + 2 * c) (hm 80 (c - 1)) = v ∧ X (M + 2 + 2 * c) 2 = hm 80 (c - 1) + 1 ∧ X (M + 2 + 2 * c) 1 = hc (M + 2 + 2 * c) 1 + a ∧ X 38 1 = pp := by
        refine ⟨_, rfl, ?_⟩
        rcases ha with ⟨rfl, h⟩ | ⟨rfl, h⟩
        · rw [if_neg (by omega)]
          refine ⟨fun o i n1 n2 n3 n4 => ?_, ?_, ?_, ?_, ?_, ?_⟩
          · simp (disch := omega) only [cz_un]
          · simp (disch := omega) only [cz_un, bz_us]
          · simp (disch := omega) only [cz_un, bz_us]
          · simp (disch := omega) only [cz_un, bz_us]
          · simp (disch := omega) only [cz_un, bz_us]; omega
          · simp (disch := omega) only [cz_un, bz_us]
        · rw [if_pos h]
          refine ⟨fun o i n1 n2 n3 n4 => ?_, ?_, ?_, ?_, ?_, ?_⟩
          · simp (disch := omega) only [cz_un]
          · simp (disch := omega) only [cz_un, bz_us]
          · simp (disch := omega) only [cz_un, bz_us]
          · simp (disch := omega) only [cz_un, bz_us]
          · simp (disch := omega) only [cz_un, bz_us]; omega
          · simp (disch := omega) only [cz_un, bz_us]
      rw [hX]
      obtain ⟨y1, y2, y3, y4, y5⟩ := cz_VY_at (hm := hm) (c := c) (x := hm 80 (c - 1)) (a := a) (v := v) (x5 := x5) (x6 := x6)
      have y_ : ∀ o i : Int, ¬ (o = 82 ∧ i = 8 * (c - 1) + hm 80 (c - 1)) → ¬ ((o = 88 ∨ o = 89) ∧ i = hm 80 (c - 1)) → ¬ ((o = 79 ∨ o = 80) ∧ i = c - 1) → cz_VY hm c (hm 80 (c - 1)) a v x5 x6 o i = hm o i := fun o i n1 n2 n3 => cz_VY_un n1 n2 n3
      generalize cz_VY hm c (hm 80 (c - 1)) a v x5 x6 = Y at y1 y2 y3 y4 y5 y_ ⊢
      obtain ⟨x4, x5'⟩ := x4
      clear hX hp
      have hG : cz_hid (a = 0 ∨ a = 1 ∧ hm 79 (c - 1) < 6) := by
        rcases a01 with h | h
        · exact Or.inl h
        · exact Or.inr ⟨h, pa h⟩
      have h12 : cz_hid (v = 1 ∨ v = 2) := v12
      have hpar : cz_hid (a = 1 → hm 79 (c - 1) = hm 80 (c - 1)) := par
      have h8 := hok.1
      clear ha par kk a01 v12 pa hok hpp
      have e2 : cz_en t N T M hc0 hm0 X Y := (e.fC (fun o i h => x_ o i (by omega) (by omega) (by omega) (by omega))).fM (fun o i h => y_ o i (by omega) (by omega) (by omega))
      obtain ⟨hc2, hm2, kd', s', L', n1, n2, S2, ss, Fc, Fm⟩ := cz_adv S (by omega) e2 (x_ _ _ (by omega) (by omega) (by omega) (by omega)) (x_ _ _ (by omega) (by omega) (by omega) (by omega)) (y_ _ _ (by omega) (by omega) (by omega)) (by rw [x_ _ _ (by omega) (by omega) (by omega) (by omega)]; omega) (by rw [x_ _ _ (by omega) (by omega) (by omega) (by omega)]; omega)
      rw [n1, n2, bz_bc]
      have F_ : ∀ o i : Int, o ≠ 34 → ¬ (o = 30 ∧ i = 9) → hc2 o i = X o i := fun o i n1 n2 => Fc o i (by omega) n2
      refine ⟨_, _, _, _, _, _, rfl, rfl, S2, ss, ?_, by rw [F_ _ _ (by omega) (by omega)]; exact x5', fun o i h => by rw [F_ _ _ (by omega) (by omega)]; exact x_ o i (by omega) (by omega) (by omega) (by omega), fun h => by rw [Fm _ _ (by omega), Fm _ _ (by omega), y4, y5, hpar h, h]⟩
      refine cz_Gvar (x := hm 80 (c - 1)) (v := v) (a := a) g hM rfl h8 hG h12 (fun o i n1 n2 n3 n4 => by rw [F_ _ _ (by omega) (by omega)]; exact x_ o i (by omega) n2 n3 n4) (fun o i n1 n2 n3 n4 => by rw [Fm _ _ (by omega)]; exact y_ o i n2 n3 n4) (by rw [F_ _ _ (by omega) (by omega)]; exact x4) (by rw [F_ _ _ (by omega) (by omega)]; exact x3) (by rw [F_ _ _ (by omega) (by omega)]; exact x2) (by rw [F_ _ _ (by omega) (by omega), x1, Fm _ _ (by omega), Fm _ _ (by omega), y2, y3]; exact nm) (by rw [Fm _ _ (by omega)]; exact y5) (by rw [Fm _ _ (by omega)]; exact y4) (by rw [Fm _ _ (by omega)]; exact y1) (by omega)
end SC
