/-! The model takes its new module over. -/
section ADO
theorem bz_ad113 : ∀ (m n : Nat) (k : Int) (h : qz_H), bz_LM h → 0 ≤ k → (m : Int) + k = h 67 23 → h 67 23 ≤ 64 → ∃ h', fn_Md_adopt_113 (n + m + 1) 67 k h = some (0, h') ∧ bz_LM h' ∧ (∀ o i : Int, o ≠ 77 → o ≠ 78 → h' o i = h o i) ∧ ∀ j : Int, k ≤ j → j < h 67 23 → h' 77 j = h 84 j ∧ h' 78 j = h 85 j := by
  have key : ∀ (m n : Nat) (k : Int) (h : qz_H), bz_LM h → 0 ≤ k → (m : Int) + k = h 67 23 → h 67 23 ≤ 64 → ∃ h', fn_Md_adopt_113 (n + m + 1) 67 k h = some (0, h') ∧ bz_LM h' ∧ (∀ o i : Int, o ≠ 77 → o ≠ 78 → h' o i = h o i) ∧ (∀ j : Int, j < k → h' 77 j = h 77 j ∧ h' 78 j = h 78 j) ∧ ∀ j : Int, k ≤ j → j < h 67 23 → h' 77 j = h 84 j ∧ h' 78 j = h 85 j := by
    intro m
    induction m with
    | zero =>
      intro n k h hL k0 hm hn
      refine ⟨h, ?_, hL, fun _ _ _ _ => rfl, fun _ _ => ⟨rfl, rfl⟩, fun j j0 j1 => by omega⟩
      rw [fn_Md_adopt_113]
      unfold fn_Md_adopt_113_b
      rw [if_pos (by omega)]
    | succ m ih =>
      intro n k h hL k0 hm hn
      have l1 : bz_LM (qz_up h 77 k (h 84 k)) := bz_LM_up (a := 77) (b := 77) (c := 0) (e := 64) (by decide +kernel) (by omega) (by omega) (by omega) (by omega) hL
      have l2 : bz_LM (qz_up (qz_up h 77 k (h 84 k)) 78 k (h 85 k)) := bz_LM_up (a := 78) (b := 78) (c := 0) (e := 64) (by decide +kernel) (by omega) (by omega) (by omega) (by omega) l1
      have e23 : qz_up (qz_up h 77 k (h 84 k)) 78 k (h 85 k) 67 23 = h 67 23 := by rw [bz_uo (by omega), bz_uo (by omega)]
      obtain ⟨h', g1, g2, g3, g4, g5⟩ := ih n (k + 1) _ l2 (by omega) (by omega) (by omega)
      refine ⟨h', ?_, g2, fun o i o1 o2 => (g3 o i o1 o2).trans (by rw [bz_uo o2, bz_uo o1]), fun j hj => ?_, fun j j0 j1 => ?_⟩
      · rw [show n + (m + 1) + 1 = (n + m + 1) + 1 from by omega, fn_Md_adopt_113]
        unfold fn_Md_adopt_113_b
        rw [if_neg (by omega), bz_m67_21 hL, bz_m67_13 hL, bz_m84_m1 hL, bz_m77_m1 hL, bz_ck (by omega), bz_ck (by omega), bz_ck (by omega), bz_ck (by omega), bz_bn, bz_m67_22 l1, bz_m67_14 l1, bz_m85_m1 l1, bz_m78_m1 l1, bz_ck (by omega), bz_ck (by omega), bz_ck (by omega), bz_ck (by omega), bz_bn, bz_bn, bz_uo (show (85 : Int) ≠ 77 by omega), bz_w (by omega) (by omega), g1]
      · obtain ⟨a, b⟩ := g4 j (by omega)
        rw [a, b, bz_uo (show (77 : Int) ≠ 78 by omega), bz_ui (by omega), bz_ui (by omega), bz_uo (by omega)]
        exact ⟨rfl, rfl⟩
      · by_cases q : j = k
        · obtain ⟨a, b⟩ := g4 j (by omega)
          rw [a, b, q, bz_uo (show (77 : Int) ≠ 78 by omega), bz_us, bz_us]
          exact ⟨rfl, rfl⟩
        · obtain ⟨a, b⟩ := g5 j (by omega) (by omega)
          rw [a, b]
          refine ⟨by rw [bz_uo (by omega), bz_uo (by omega)], by rw [bz_uo (by omega), bz_uo (by omega)]⟩
  intro m n k h hL k0 hm hn
  obtain ⟨h', g1, g2, g3, g4, g5⟩ := key m n k h hL k0 hm hn
  exact ⟨h', g1, g2, g3, g5⟩
theorem bz_ad85 : ∀ (m n : Nat) (k : Int) (h : qz_H), bz_LM h → 0 ≤ k → (m : Int) + k = h 67 15 + 1 → h 67 15 ≤ 4 → ∃ h', fn_Md_adopt_85 (n + m + 1) 67 k h = fn_Md_adopt_113 qz_NF 67 0 h' ∧ bz_LM h' ∧ (∀ o i : Int, o ≠ 76 → h' o i = h o i) ∧ (∀ j : Int, j < k → h' 76 j = h 76 j) ∧ ∀ j : Int, k ≤ j → j ≤ h 67 15 → h' 76 j = h 83 j := by
  intro m
  induction m with
  | zero =>
    intro n k h hL k0 hm hn
    refine ⟨h, ?_, hL, fun _ _ _ => rfl, fun _ _ => rfl, fun j j0 j1 => by omega⟩
    rw [fn_Md_adopt_85]
    unfold fn_Md_adopt_85_b
    rw [if_pos (by omega), bz_bn]
  | succ m ih =>
    intro n k h hL k0 hm hn
    have l1 : bz_LM (qz_up h 76 k (h 83 k)) := bz_LM_up (a := 76) (b := 76) (c := 0) (e := 64) (by decide +kernel) (by omega) (by omega) (by omega) (by omega) hL
    have e15 : qz_up h 76 k (h 83 k) 67 15 = h 67 15 := bz_uo (by omega)
    obtain ⟨h', g1, g2, g3, g4, g5⟩ := ih n (k + 1) _ l1 (by omega) (by omega) (by omega)
    refine ⟨h', ?_, g2, fun o i o1 => (g3 o i o1).trans (bz_uo o1), fun j hj => ?_, fun j j0 j1 => ?_⟩
    · rw [show n + (m + 1) + 1 = (n + m + 1) + 1 from by omega, fn_Md_adopt_85]
      unfold fn_Md_adopt_85_b
      rw [if_neg (by omega), bz_m67_20 hL, bz_m67_12 hL, bz_m83_m1 hL, bz_m76_m1 hL, bz_ck (by omega), bz_ck (by omega), bz_ck (by omega), bz_ck (by omega), bz_bn, bz_bn, bz_w (by omega) (by omega), g1]
    · rw [g4 j (by omega), bz_ui (by omega)]
    · by_cases q : j = k
      · rw [g4 j (by omega), q, bz_us]
      · rw [g5 j (by omega) (by omega), bz_uo (by omega)]
theorem bz_ad59 : ∀ (m n : Nat) (k : Int) (h : qz_H), bz_LM h → 0 ≤ k → (m : Int) + k = 32 → ∃ h', fn_Md_adopt_59 (n + m + 1) 67 k h = fn_Md_adopt_85 qz_NF 67 0 h' ∧ bz_LM h' ∧ (∀ o i : Int, o ≠ 75 → h' o i = h o i) ∧ (∀ j : Int, j < k → h' 75 j = h 75 j) ∧ ∀ j : Int, k ≤ j → j < 32 → h' 75 j = h 82 j := by
  intro m
  induction m with
  | zero =>
    intro n k h hL k0 hm
    refine ⟨h, ?_, hL, fun _ _ _ => rfl, fun _ _ => rfl, fun j j0 j1 => by omega⟩
    rw [fn_Md_adopt_59]
    unfold fn_Md_adopt_59_b
    rw [if_pos (by omega), bz_bn]
  | succ m ih =>
    intro n k h hL k0 hm
    have l1 : bz_LM (qz_up h 75 k (h 82 k)) := bz_LM_up (a := 75) (b := 75) (c := 0) (e := 64) (by decide +kernel) (by omega) (by omega) (by omega) (by omega) hL
    obtain ⟨h', g1, g2, g3, g4, g5⟩ := ih n (k + 1) _ l1 (by omega) (by omega)
    refine ⟨h', ?_, g2, fun o i o1 => (g3 o i o1).trans (bz_uo o1), fun j hj => ?_, fun j j0 j1 => ?_⟩
    · rw [show n + (m + 1) + 1 = (n + m + 1) + 1 from by omega, fn_Md_adopt_59]
      unfold fn_Md_adopt_59_b
      rw [if_neg (by omega), bz_m67_19 hL, bz_m67_11 hL, bz_m82_m1 hL, bz_m75_m1 hL, bz_ck (by omega), bz_ck (by omega), bz_ck (by omega), bz_ck (by omega), bz_bn, bz_bn, bz_w (by omega) (by omega), g1]
    · rw [g4 j (by omega), bz_ui (by omega)]
    · by_cases q : j = k
      · rw [g4 j (by omega), q, bz_us]
      · rw [g5 j (by omega) (by omega), bz_uo (by omega)]
theorem bz_ad10 : ∀ (m n : Nat) (k : Int) (h : qz_H), bz_LM h → 0 ≤ k → (m : Int) + k = 4 → ∃ h', fn_Md_adopt_10 (n + m + 1) 67 k h = fn_Md_adopt_59 qz_NF 67 0 h' ∧ bz_LM h' ∧ (∀ o i : Int, o ≠ 72 → o ≠ 73 → o ≠ 74 → h' o i = h o i) ∧ (∀ j : Int, j < k → h' 72 j = h 72 j ∧ h' 73 j = h 73 j ∧ h' 74 j = h 74 j) ∧ ∀ j : Int, k ≤ j → j < 4 → h' 72 j = h 79 j ∧ h' 73 j = h 80 j ∧ h' 74 j = h 81 j := by
  intro m
  induction m with
  | zero =>
    intro n k h hL k0 hm
    refine ⟨h, ?_, hL, fun _ _ _ _ _ => rfl, fun _ _ => ⟨rfl, rfl, rfl⟩, fun j j0 j1 => by omega⟩
    rw [fn_Md_adopt_10]
    unfold fn_Md_adopt_10_b
    rw [if_pos (by omega), bz_bn]
  | succ m ih =>
    intro n k h hL k0 hm
    have l1 : bz_LM (qz_up h 72 k (h 79 k)) := bz_LM_up (a := 72) (b := 74) (c := 0) (e := 64) (by decide +kernel) (by omega) (by omega) (by omega) (by omega) hL
    have l2 : bz_LM (qz_up (qz_up h 72 k (h 79 k)) 73 k (h 80 k)) := bz_LM_up (a := 72) (b := 74) (c := 0) (e := 64) (by decide +kernel) (by omega) (by omega) (by omega) (by omega) l1
    have l3 : bz_LM (qz_up (qz_up (qz_up h 72 k (h 79 k)) 73 k (h 80 k)) 74 k (h 81 k)) := bz_LM_up (a := 72) (b := 74) (c := 0) (e := 64) (by decide +kernel) (by omega) (by omega) (by omega) (by omega) l2
    obtain ⟨h', g1, g2, g3, g4, g5⟩ := ih n (k + 1) _ l3 (by omega) (by omega)
    refine ⟨h', ?_, g2, fun o i o1 o2 o3 => (g3 o i o1 o2 o3).trans (by rw [bz_uo o3, bz_uo o2, bz_uo o1]), fun j hj => ?_, fun j j0 j1 => ?_⟩
    · rw [show n + (m + 1) + 1 = (n + m + 1) + 1 from by omega, fn_Md_adopt_10]
      unfold fn_Md_adopt_10_b
      rw [if_neg (by omega), bz_m67_16 hL, bz_m67_8 hL, bz_m79_m1 hL, bz_m72_m1 hL, bz_ck (by omega), bz_ck (by omega), bz_ck (by omega), bz_ck (by omega), bz_bn, bz_m67_17 l1, bz_m67_9 l1, bz_m80_m1 l1, bz_m73_m1 l1, bz_ck (by omega), bz_ck (by omega), bz_ck (by omega), bz_ck (by omega), bz_bn, bz_uo (show (80 : Int) ≠ 72 by omega), bz_m67_18 l2, bz_m67_10 l2, bz_m81_m1 l2, bz_m74_m1 l2, bz_ck (by omega), bz_ck (by omega), bz_ck (by omega), bz_ck (by omega), bz_bn, bz_bn, bz_uo (show (81 : Int) ≠ 73 by omega), bz_uo (show (81 : Int) ≠ 72 by omega), bz_w (by omega) (by omega), g1]
    · obtain ⟨a, b, c⟩ := g4 j (by omega)
      rw [a, b, c]
      simp (disch := omega) only [bz_uo, bz_ui]
      exact ⟨trivial, trivial, trivial⟩
    · by_cases q : j = k
      · obtain ⟨a, b, c⟩ := g4 j (by omega)
        rw [a, b, c, q]
        simp (disch := omega) only [bz_uo, bz_us]
        exact ⟨trivial, trivial, trivial⟩
      · obtain ⟨a, b, c⟩ := g5 j (by omega) (by omega)
        rw [a, b, c]
        simp (disch := omega) only [bz_uo]
        exact ⟨trivial, trivial, trivial⟩
theorem bz_adopt {P h : qz_H} (wf : bz_wf P) (hL : bz_LM h) (mn : bz_MN h P) (hy : h 67 23 = P 4 (P 0 0)) (hy1 : 0 ≤ P 4 (P 0 0)) (hy2 : P 4 (P 0 0) ≤ 64) (mono : ∀ f : Int, 0 ≤ f → f < P 0 0 → P 4 (f + 1) ≤ P 4 (P 0 0)) : ∃ h', fn_Md_adopt 67 h = some (0, h') ∧ bz_LM h' ∧ bz_MM h' P ∧ h' 67 7 = P 0 0 ∧ (∀ i : Int, i ≠ 7 → h' 67 i = h 67 i) ∧ ∀ o i : Int, o ≠ 67 → ¬ (72 ≤ o ∧ o ≤ 78) → h' o i = h o i := by
  have w0 := wf.1
  have w4 := wf.2.1
  have l0 : bz_LM (qz_up h 67 7 (P 0 0)) := bz_LM_up (a := 67) (b := 67) (c := 7) (e := 7) (by decide +kernel) (by omega) (by omega) (by omega) (by omega) hL
  obtain ⟨a, a1, a2, a3, a4, a5⟩ := bz_ad10 4 3995 0 _ l0 (by omega) rfl
  obtain ⟨b, b1, b2, b3, b4, b5⟩ := bz_ad59 32 3967 0 a a2 (by omega) rfl
  have z15 : b 67 15 = P 0 0 := by rw [b3 67 15 (by omega), a3 67 15 (by omega) (by omega) (by omega), bz_ui (by omega)]; exact mn.1
  obtain ⟨c, c1, c2, c3, c4, c5⟩ := bz_ad85 ((P 0 0).toNat + 1) (3998 - (P 0 0).toNat) 0 b b2 (by omega) (by omega) (by omega)
  have z23 : c 67 23 = P 4 (P 0 0) := by rw [c3 67 23 (by omega), b3 67 23 (by omega), a3 67 23 (by omega) (by omega) (by omega), bz_ui (by omega)]; exact hy
  obtain ⟨d, d1, d2, d3, d4⟩ := bz_ad113 (P 4 (P 0 0)).toNat (3999 - (P 4 (P 0 0)).toNat) 0 c c2 (by omega) (by omega) (by omega)
  rw [show 3995 + 4 + 1 = qz_NF from rfl] at a1
  rw [show 3967 + 32 + 1 = qz_NF from rfl] at b1
  rw [show 3998 - (P 0 0).toNat + ((P 0 0).toNat + 1) + 1 = qz_NF from by unfold qz_NF; omega] at c1
  rw [show 3999 - (P 4 (P 0 0)).toNat + (P 4 (P 0 0)).toNat + 1 = qz_NF from by unfold qz_NF; omega] at d1
  have f67 : ∀ i : Int, i ≠ 7 → d 67 i = h 67 i := fun i hi => by rw [d3 67 i (by omega) (by omega), c3 67 i (by omega), b3 67 i (by omega), a3 67 i (by omega) (by omega) (by omega), bz_ui hi]
  refine ⟨d, ?_, d2, ⟨?_, fun f f0 f1 => ?_⟩, ?_, f67, fun o i o1 o2 => by rw [d3 o i (by omega) (by omega), c3 o i (by omega), b3 o i (by omega), a3 o i (by omega) (by omega) (by omega), bz_uo o1]⟩
  · unfold fn_Md_adopt
    rw [bz_ck (by omega), bz_bn, bz_bn, mn.1, a1, b1, c1, d1]
  · rw [d3 67 7 (by omega) (by omega), c3 67 7 (by omega), b3 67 7 (by omega), a3 67 7 (by omega) (by omega) (by omega), bz_us]
  · obtain ⟨x1, x2, x3, x4, x5, x6, x7, x8, x9, x10, x11⟩ := wf.2.2 f f0 f1
    obtain ⟨m1, m2, m3, m4, m5, m6, m7⟩ := mn.2 f f0 f1
    obtain ⟨p1, p2, p3⟩ := a5 f f0 (by omega)
    have q1 : ∀ o : Int, 79 ≤ o → o ≤ 85 → ∀ j : Int, a o j = h o j := fun o o1 o2 j => by rw [a3 o j (by omega) (by omega) (by omega), bz_uo (by omega)]
    have q2 : ∀ o : Int, 79 ≤ o → o ≤ 85 → ∀ j : Int, b o j = h o j := fun o o1 o2 j => by rw [b3 o j (by omega), q1 o o1 o2]
    have q3 : ∀ o : Int, 79 ≤ o → o ≤ 85 → ∀ j : Int, c o j = h o j := fun o o1 o2 j => by rw [c3 o j (by omega), q2 o o1 o2]
    have q0 : ∀ o : Int, 79 ≤ o → o ≤ 85 → ∀ j : Int, qz_up h 67 7 (P 0 0) o j = h o j := fun o o1 o2 j => bz_uo (by omega)
    rw [q0 79 (by omega) (by omega)] at p1
    rw [q0 80 (by omega) (by omega)] at p2
    rw [q0 81 (by omega) (by omega)] at p3
    have up1 : ∀ o : Int, 72 ≤ o → o ≤ 74 → d o f = a o f := fun o o1 o2 => by rw [d3 o f (by omega) (by omega), c3 o f (by omega), b3 o f (by omega)]
    refine ⟨by rw [up1 72 (by omega) (by omega), p1, m1], by rw [up1 73 (by omega) (by omega), p2, m2], by rw [up1 74 (by omega) (by omega), p3, m3], ?_, ?_, fun k k0 k1 => ?_, fun i i0 i1 => ?_⟩
    · rw [d3 76 f (by omega) (by omega), c5 f f0 (by omega), q2 83 (by omega) (by omega), m4]
    · rw [d3 76 (f + 1) (by omega) (by omega), c5 (f + 1) (by omega) (by omega), q2 83 (by omega) (by omega), m5]
    · rw [d3 75 _ (by omega) (by omega), c3 75 _ (by omega), b5 (8 * f + k) (by omega) (by omega), q1 82 (by omega) (by omega), m6 k k0 k1]
    · have := mono f f0 f1
      obtain ⟨r1, r2⟩ := d4 i (by omega) (by omega)
      rw [r1, r2, q3 84 (by omega) (by omega), q3 85 (by omega) (by omega)]
      exact m7 i i0 i1
  · rw [d3 67 7 (by omega) (by omega), c3 67 7 (by omega), b3 67 7 (by omega), a3 67 7 (by omega) (by omega) (by omega), bz_us]
end ADO
