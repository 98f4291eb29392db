/-! Both readers, from the first character to the last. -/
section SC
variable {t : Int → Int} {N T M : Int} {hc0 hm0 hc hm hc' hm' : qz_H}
/-- what is read becomes the module's data -/
def cz_P (c M : Int) (hC hF : qz_H) : qz_H := fun o i => if o = 0 then c else if o = 1 then hF 79 i else if o = 2 then hF 80 i else if o = 3 then hF 81 i else if o = 4 then hF 83 i else if o = 5 then hF 84 i else if o = 6 then hF 85 i else if o = 7 then hF 82 i else hC (M + 2) i
theorem cz_ndP {c M f : Int} {hC hF : qz_H} : ∀ n : Nat, bz_nd (cz_P c M hC hF) f n = cz_nd hF (hF 83 f) n
  | 0 => rfl
  | n + 1 => by
    show bz_nd (cz_P c M hC hF) f n + bz_dl (hF 84 (hF 83 f + (n : Int))) = cz_nd hF (hF 83 f) n + bz_dl (hF 84 (hF 83 f + (n : Int)))
    rw [cz_ndP n]
theorem cz_done (fi : cz_fi t N T M hc0 hm0 hc hm) : (∃ P hc' hm', fn_Reader_findFunctions 30 hc = some (0, hc') ∧ fn_Md_resolve 67 hm = some (1, hm') ∧ bz_wf P ∧ (∀ f : Int, 0 ≤ f → f < P 0 0 → bz_nst P f) ∧ bz_LC hc' ∧ bz_LM hm' ∧ bz_MC hc' M P ∧ bz_MN hm' P ∧ hm' 67 23 = P 4 (P 0 0) ∧ 0 ≤ P 4 (P 0 0) ∧ P 4 (P 0 0) ≤ 64 ∧ (∀ f : Int, 0 ≤ f → f < P 0 0 → P 4 (f + 1) ≤ P 4 (P 0 0)) ∧ bz_CR M hc0 hc' ∧ bz_MR hm0 hm') ∨ ∃ hc' hm', fn_Reader_findFunctions 30 hc = some (1, hc') ∧ fn_Md_resolve 67 hm = some (0, hm') ∧ bz_LC hc' ∧ bz_LM hm' ∧ hc' 30 9 = hm' 67 34 ∧ hm' 67 38 = 1 ∧ bz_CR M hc0 hc' ∧ bz_MR hm0 hm' := by
  obtain ⟨c, m, q, u, e, g1, g2, g4, g6, nr, qm, h83⟩ := fi
  have hM := e.hM
  have m0 := g1.2.2.2.2.2.2.1
  have m64 := g1.2.2.2.2.2.2.2.1
  have c0 : 0 ≤ c := g1.2.2.1
  have c4 : c ≤ 4 := g1.2.2.2.1
  have r92 : ∀ j : Int, 0 ≤ j → j < q → 0 ≤ hm 92 j ∧ hm 92 j < m ∧ hc (M + 2) (hm 92 j) = -11 := by
    intro j j0 j1
    obtain ⟨_, _, _, b4⟩ := g4.2.2.2 j j0 j1
    rcases b4 with b | b
    · exact ⟨b.1, b.2.1, b.2.2.1⟩
    · exact absurd b (nr j j0 j1)
  obtain ⟨l1, hC, f1, F1, F2, F3, F4⟩ := cz_ff e g1 g2 g4 nr
  have eC : cz_en t N T M hc0 hm0 hC hm := e.fC (fun o i x => F1 o i (by omega) (by omega))
  rcases cz_rs e g1 g2 g4 nr (by omega) with ⟨hF, r1, R1, R2, R3⟩ | ⟨hF, j, r1, j0, j1, ⟨R1, R2, R3⟩, jn⟩
  · -- all found
    left
    have l0 : l1 = 0 := by
      rcases F4 with ⟨h, _⟩ | ⟨_, i0, b0, b1, b2, b3, _⟩
      · exact h
      · exfalso
        have := R3 i0 b0 b1
        have := cz_fnd.uniq g2 b3 this.2
        omega
    rw [l0] at f1
    have eF : cz_en t N T M hc0 hm0 hC hF := eC.fM (fun o i x => R1 o i (by omega))
    have f_ : ∀ o i : Int, o ≠ 85 → hF o i = hm o i := fun o i x => R1 o i (by omega)
    have k_ : ∀ o i : Int, o ≠ M + 3 → o ≠ 30 → hC o i = hc o i := fun o i x1 x2 => F1 o i (by omega) (by omega)
    -- the rows
    have rows : ∀ i : Int, 0 ≤ i → i < m → hC (M + 3) i = hF 85 i ∧ bz_row (cz_P c M hC hF) i := by
      intro i i0 i1
      obtain ⟨p1, p2, p3, p4⟩ := g4.2.2.1 i i0 i1
      have o2 : hC (M + 2) i = hc (M + 2) i := k_ _ _ (by omega) (by omega)
      have o4 : hF 84 i = hm 84 i := f_ _ _ (by omega)
      have mk : cz_vl (hc (M + 2) i) (hF 85 i) → bz_row (cz_P c M hC hF) i := by
        rintro ⟨v1, v2, v3, v4, v5, v6⟩
        show -30 ≤ hC (M + 2) i ∧ hC (M + 2) i ≤ -1 ∧ hF 84 i = kz_dt (hC (M + 2) i) 1 ∧ -9223372036854775808 ≤ hF 85 i ∧ hF 85 i ≤ 9223372036854775807 ∧ (kz_dt (hC (M + 2) i) 2 = 0 → hF 85 i = 0) ∧ (kz_dt (hC (M + 2) i) 2 = 1 → 0 ≤ hF 85 i ∧ hF 85 i ≤ 2) ∧ ((kz_dt (hC (M + 2) i) 2 = 2 ∨ kz_dt (hC (M + 2) i) 2 = 3 ∨ kz_dt (hC (M + 2) i) 2 = 4) → 0 ≤ hF 85 i ∧ hF 85 i ≤ 4294967295) ∧ (kz_dt (hC (M + 2) i) 2 = 5 → -2147483648 ≤ hF 85 i ∧ hF 85 i ≤ 2147483647)
        rw [o2, o4]
        exact ⟨p1, p2, p3, v1, v2, v3, v4, v5, v6⟩
      by_cases hj : ∃ j : Int, 0 ≤ j ∧ j < q ∧ hm 92 j = i
      · obtain ⟨j, j0, j1, j2⟩ := hj
        have a := F3 j j0 j1 (by omega)
        have b := R3 j j0 j1
        rw [j2] at a b
        have ab := cz_fnd.uniq g2 a b.2
        refine ⟨ab, mk ?_⟩
        have x3 : hF 85 i < c := by
          rcases b.2 with h | h
          · omega
          · exact h.2.1
        have x11 : hc (M + 2) i = -11 := by rw [← j2]; exact (r92 j j0 j1).2.2
        have k3 : kz_dt (hc (M + 2) i) 2 = 3 := by rw [x11]; decide +kernel
        exact ⟨by omega, by omega, fun h => by omega, fun h => by omega, fun _ => by omega, fun h => by omega⟩
      · have nj : ∀ j : Int, 0 ≤ j → j < q → hm 92 j ≠ i := fun j j0 j1 h => hj ⟨j, j0, j1, h⟩
        have a := F2 i i0 i1 nj
        have b := R2 i nj
        rcases p4 with ⟨v1, v2⟩ | ⟨_, j, j0, j1, j2, _⟩
        · rw [a, b, v1]
          refine ⟨rfl, mk ?_⟩
          rw [b]; exact v2
        · exact absurd j2 (nj j j0 j1)
    have e83 : ∀ i : Int, hF 83 i = hm 83 i := fun i => f_ _ _ (by omega)
    have S83 : ∀ f : Int, 0 ≤ f → f < c → 0 ≤ hm 83 f ∧ hm 83 f ≤ hm 83 (f + 1) ∧ hm 83 (f + 1) ≤ m ∧ hc (M + 4 + 2 * f) 5 = hm 83 (f + 1) - hm 83 f := by
      intro f f0 f1'
      obtain ⟨_, _, _, _, _, _, _, _, a9⟩ := g1
      obtain ⟨_, b12, b13, b14, b15⟩ := a9 f f0 f1'
      by_cases hl : f + 1 < c
      · have := b14 hl
        have := (a9 (f + 1) (by omega) hl).2.2.1
        exact ⟨b12, by omega, by omega, by omega⟩
      · have hl' : f + 1 = c := by omega
        rw [hl', h83]
        exact ⟨b12, b13, by omega, b15 hl'⟩
    refine ⟨cz_P c M hC hF, hC, hF, f1, r1, ⟨c0, c4, fun f f0 f1' => ?_⟩, fun f f0 f1' n hn => ?_, eF.tc.1, eF.tm.1, ⟨?_, fun f f0 f1' => ?_⟩, ⟨?_, fun f f0 f1' => ?_⟩, ?_, ?_, ?_, fun f f0 f1' => ?_, eF.cr, eF.mr⟩
    · obtain ⟨_, _, _, _, _, _, _, _, a9⟩ := g1
      have f1'' : f < c := f1'
      obtain ⟨⟨b1, b2, b3, b4, b5, b6, b7, b8, b9, b10, b11⟩, _⟩ := a9 f f0 f1''
      obtain ⟨s1, s2, s3, _⟩ := S83 f f0 f1''
      show 0 ≤ hF 79 f ∧ hF 79 f ≤ 6 ∧ hF 79 f ≤ hF 80 f ∧ hF 80 f ≤ 8 ∧ 0 ≤ hF 81 f ∧ hF 81 f ≤ 2 ∧ 0 ≤ hF 83 f ∧ hF 83 f ≤ hF 83 (f + 1) ∧ hF 83 (f + 1) ≤ 64 ∧ (∀ k : Int, 0 ≤ k → k < hF 80 f → hF 82 (8 * f + k) = 1 ∨ hF 82 (8 * f + k) = 2) ∧ ∀ i : Int, hF 83 f ≤ i → i < hF 83 (f + 1) → bz_row (cz_P c M hC hF) i
      rw [f_ 79 _ (by omega), f_ 80 _ (by omega), f_ 81 _ (by omega), e83, e83]
      refine ⟨b5, b6, b7, b8, b9, b10, s1, s2, by omega, fun k k0 k1 => ?_, fun i i0 i1 => (rows i (by omega) (by omega)).2⟩
      rw [f_ 82 _ (by omega)]
      exact (b11 k k0 k1).2
    · have f1'' : f < c := f1'
      obtain ⟨s1, s2, s3, _⟩ := S83 f f0 f1''
      have hn' : (n : Int) < hF 83 (f + 1) - hF 83 f := hn
      rw [e83, e83] at hn'
      rw [cz_ndP]
      show (2 ≤ hF 84 (hF 83 f + (n : Int)) ∧ hF 84 (hF 83 f + (n : Int)) ≤ 4 → cz_nd hF (hF 83 f) n ≤ 9) ∧ (hF 84 (hF 83 f + (n : Int)) = 5 ∨ hF 84 (hF 83 f + (n : Int)) = 11 → 1 ≤ cz_nd hF (hF 83 f) n)
      rw [e83, f_ 84 _ (by omega), cz_nd_same (hm := hm) (fun i _ => f_ 84 _ (by omega))]
      refine g6.1 f f0 f1'' n ?_
      by_cases hl : f + 1 < c
      · rw [if_pos hl]; omega
      · rw [if_neg hl]; omega
    · show hC M 3 = c
      rw [k_ _ _ (by omega) (by omega)]; exact g1.1
    · obtain ⟨_, _, _, _, _, _, _, _, a9⟩ := g1
      have f1'' : f < c := f1'
      obtain ⟨⟨b1, b2, b3, b4, b5, b6, b7, b8, b9, b10, b11⟩, _⟩ := a9 f f0 f1''
      obtain ⟨s1, s2, s3, s4⟩ := S83 f f0 f1''
      show hC (M + 4 + 2 * f) 1 = hF 79 f ∧ hC (M + 4 + 2 * f) 2 = hF 80 f ∧ hC (M + 4 + 2 * f) 3 = hF 81 f ∧ hC (M + 4 + 2 * f) 4 = hF 83 f ∧ hC (M + 4 + 2 * f) 5 = hF 83 (f + 1) - hF 83 f ∧ (∀ k : Int, 0 ≤ k → k < hF 80 f → hC (M + 5 + 2 * f) k = hF 82 (8 * f + k)) ∧ ∀ i : Int, hF 83 f ≤ i → i < hF 83 (f + 1) → hC (M + 2) i = hC (M + 2) i ∧ hC (M + 3) i = hF 85 i
      rw [f_ 79 _ (by omega), f_ 80 _ (by omega), f_ 81 _ (by omega), e83, e83, k_ _ _ (by omega) (by omega), k_ _ _ (by omega) (by omega), k_ _ _ (by omega) (by omega), k_ _ _ (by omega) (by omega), k_ _ _ (by omega) (by omega)]
      refine ⟨b1, b2, b3, b4, s4, fun k k0 k1 => ?_, fun i i0 i1 => ⟨rfl, (rows i (by omega) (by omega)).1⟩⟩
      rw [f_ 82 _ (by omega), k_ _ _ (by omega) (by omega)]
      exact (b11 k k0 k1).1
    · show hF 67 15 = c
      rw [f_ _ _ (by omega)]; exact g1.2.1
    · show hF 79 f = hF 79 f ∧ hF 80 f = hF 80 f ∧ hF 81 f = hF 81 f ∧ hF 83 f = hF 83 f ∧ hF 83 (f + 1) = hF 83 (f + 1) ∧ (∀ k : Int, 0 ≤ k → k < hF 80 f → hF 82 (8 * f + k) = hF 82 (8 * f + k)) ∧ ∀ i : Int, hF 83 f ≤ i → i < hF 83 (f + 1) → hF 84 i = hF 84 i ∧ hF 85 i = hF 85 i
      exact ⟨rfl, rfl, rfl, rfl, rfl, fun _ _ _ => rfl, fun _ _ _ => ⟨rfl, rfl⟩⟩
    · show hF 67 23 = hF 83 c
      rw [f_ _ _ (by omega), e83, h83]; exact g1.2.2.2.2.2.1
    · show 0 ≤ hF 83 c
      rw [e83, h83]; exact m0
    · show hF 83 c ≤ 64
      rw [e83, h83]; exact m64
    · show hF 83 (f + 1) ≤ hF 83 c
      rw [e83, e83, h83]
      exact (S83 f f0 f1').2.2.1
  · -- one is not found
    right
    have l1' : l1 = 1 ∧ ∃ i0 : Int, 0 ≤ i0 ∧ i0 < q ∧ hm 92 i0 < m ∧ cz_fnd t hm c i0 (-1) ∧ hC 30 9 = hm 90 i0 ∧ ∀ j : Int, 0 ≤ j → j < q → hm 92 j < m → cz_fnd t hm c j (-1) → hm 90 i0 ≤ hm 90 j := by
      rcases F4 with ⟨_, h⟩ | h
      · exact absurd jn (h j j0 j1 (r92 j j0 j1).2.1)
      · exact h
    obtain ⟨l1e, i0, b0, b1, b2, b3, b4, b5⟩ := l1'
    rw [l1e] at f1
    have eF : cz_en t N T M hc0 hm0 hC hF := eC.fM (fun o i x => R1 o i (by omega))
    have eG : cz_en t N T M hc0 hm0 hC (qz_up hF 67 34 (hm 90 j)) := eF.um (by omega)
    have ij : i0 = j := by
      have := b5 j j0 j1 (r92 j j0 j1).2.1 jn
      by_cases h1 : i0 < j
      · have := R3 i0 b0 h1
        have := cz_fnd.uniq g2 b3 this.2
        omega
      · by_cases h2 : j < i0
        · have := (g4.2.2.2 j j0 j1).2.2.1 i0 h2 b1
          omega
        · omega
    refine ⟨hC, _, f1, r1, eG.tc.1, (eG.tm.up (by omega)).1, ?_, bz_us _ _ _ _, eG.cr, ⟨fun a b h1 h2 => ?_, fun i hi => ?_⟩⟩
    · rw [cz_un (by omega), bz_us, b4, ij]
    · rw [cz_un (by omega)]; exact eG.mr.1 a b h1 h2
    · rw [cz_un (by omega)]; exact eG.mr.2 i hi
end SC
