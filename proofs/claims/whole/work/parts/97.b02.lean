/-! What the readers have read so far: functions, names, rows, calls, what is open. -/
def cz_vl (x v : Int) : Prop := -9223372036854775808 ≤ v ∧ v ≤ 9223372036854775807 ∧ (kz_dt x 2 = 0 → v = 0) ∧ (kz_dt x 2 = 1 → 0 ≤ v ∧ v ≤ 2) ∧ ((kz_dt x 2 = 2 ∨ kz_dt x 2 = 3 ∨ kz_dt x 2 = 4) → 0 ≤ v ∧ v ≤ 4294967295) ∧ (kz_dt x 2 = 5 → -2147483648 ≤ v ∧ v ≤ 2147483647)
def cz_Gf (hc hm : qz_H) (M f : Int) : Prop := hc (M + 4 + 2 * f) 1 = hm 79 f ∧ hc (M + 4 + 2 * f) 2 = hm 80 f ∧ hc (M + 4 + 2 * f) 3 = hm 81 f ∧ hc (M + 4 + 2 * f) 4 = hm 83 f ∧ 0 ≤ hm 79 f ∧ hm 79 f ≤ 6 ∧ hm 79 f ≤ hm 80 f ∧ hm 80 f ≤ 8 ∧ 0 ≤ hm 81 f ∧ hm 81 f ≤ 2 ∧ ∀ k : Int, 0 ≤ k → k < hm 80 f → hc (M + 5 + 2 * f) k = hm 82 (8 * f + k) ∧ (hm 82 (8 * f + k) = 1 ∨ hm 82 (8 * f + k) = 2)
def cz_Gz (hc hm : qz_H) (M c m f : Int) : Prop := 0 ≤ hm 83 f ∧ hm 83 f ≤ m ∧ (f + 1 < c → hm 83 f ≤ hm 83 (f + 1) ∧ hc (M + 4 + 2 * f) 5 = hm 83 (f + 1) - hm 83 f) ∧ (f + 1 = c → hc (M + 4 + 2 * f) 5 = m - hm 83 f)
def cz_G1 (hc hm : qz_H) (M c m : Int) : Prop := hc M 3 = c ∧ hm 67 15 = c ∧ 0 ≤ c ∧ c ≤ 4 ∧ hc M 4 = m ∧ hm 67 23 = m ∧ 0 ≤ m ∧ m ≤ 64 ∧ ∀ f : Int, 0 ≤ f → f < c → cz_Gf hc hm M f ∧ cz_Gz hc hm M c m f
def cz_G2 (t : Int → Int) (hc hm : qz_H) (c : Int) : Prop := (∀ f : Int, 0 ≤ f → f < c → cz_nm t (hc 32 f) (hm 86 f) (hm 87 f)) ∧ ∀ f g : Int, 0 ≤ f → f < g → g < c → hm 87 f ≠ 0 → hm 87 g ≠ 0 → cz_W t (hm 86 f) (hm 87 f).toNat ≠ cz_W t (hm 86 g) (hm 87 g).toNat
def cz_G3 (t : Int → Int) (hc hm : qz_H) (c : Int) : Prop := ∀ k : Int, 0 ≤ k → k < hm 80 (c - 1) → cz_nm t (hc 33 k) (hm 88 k) (hm 89 k)
def cz_G4 (t : Int → Int) (hc hm : qz_H) (M m q u : Int) : Prop := hm 67 28 = q ∧ 0 ≤ q ∧ (∀ k : Int, 0 ≤ k → k < m → -30 ≤ hc (M + 2) k ∧ hc (M + 2) k ≤ -1 ∧ hm 84 k = kz_dt (hc (M + 2) k) 1 ∧ ((hc (M + 3) k = hm 85 k ∧ cz_vl (hc (M + 2) k) (hm 85 k)) ∨ (hc (M + 2) k = -11 ∧ ∃ j : Int, 0 ≤ j ∧ j < q ∧ hm 92 j = k ∧ hc (M + 3) k = -1 - hm 90 j))) ∧ ∀ j : Int, 0 ≤ j → j < q → (∃ L : Nat, hm 91 j = (L : Int) ∧ cz_wd t (hm 90 j) L) ∧ hm 90 j < u ∧ (∀ i : Int, j < i → i < q → hm 90 j < hm 90 i) ∧ ((0 ≤ hm 92 j ∧ hm 92 j < m ∧ hc (M + 2) (hm 92 j) = -11 ∧ hc (M + 3) (hm 92 j) = -1 - hm 90 j) ∨ hm 92 j = -1)
def cz_isp (x : Int) : Prop := -30 ≤ x ∧ x ≤ -1 ∧ ¬ (2 ≤ kz_dt x 1 ∧ kz_dt x 1 ≤ 5) ∧ kz_dt x 1 ≠ 11
def cz_lb (t : Int → Int) (hc hm : qz_H) (i : Int) : Prop := hm 94 i = 0 ∧ ((hc (38 + i) 0 = 8 ∧ ¬ (hm 93 i = 4 ∧ hm 95 i = 0)) ∨ (hc (38 + i) 0 = 9 ∧ hm 93 i = 4 ∧ hm 95 i = 0)) ∧ cz_nm t (hc (38 + i) 2) (hm 96 i) (hm 97 i)
def cz_lf (hc hm : qz_H) (q i : Int) : Prop := hm 94 i = 1 ∧ hc (38 + i) 0 = 7 ∧ cz_isp (hc (38 + i) 3) ∧ hm 93 i = kz_dt (hc (38 + i) 3) 1 ∧ ((hm 99 i = -1 ∧ hc (38 + i) 4 = hm 98 i ∧ cz_vl (hc (38 + i) 3) (hm 98 i)) ∨ (hc (38 + i) 3 = -11 ∧ 0 ≤ hm 99 i ∧ hm 99 i < q ∧ hm 92 (hm 99 i) = -1 ∧ hc (38 + i) 4 = -1 - hm 90 (hm 99 i)))
def cz_G5 (t : Int → Int) (hc hm : qz_H) (d b q e : Int) : Prop := hm 67 39 = d ∧ 0 ≤ b ∧ b ≤ d ∧ d ≤ 10 ∧ hc 36 0 = 2 ∧ hc 37 0 = 3 ∧ hc 35 0 = 0 ∧ hc 35 1 = 3 ∧ (∀ i : Int, 0 ≤ i → i < b → cz_lb t hc hm i) ∧ (∀ i : Int, b ≤ i → i < d → cz_lf hc hm q i) ∧ (∀ i : Int, 0 ≤ i → i ≤ b → i < d → hc (37 + i) 1 = 4) ∧ (∀ i j : Int, b ≤ i → i < j → j < d → 0 ≤ hm 99 i → hm 99 i ≠ hm 99 j) ∧ (∀ j : Int, 0 ≤ j → j < q → hm 92 j = -1 → j = e ∨ ∃ i : Int, b ≤ i ∧ i < d ∧ hm 99 i = j) ∧ (e = -1 ∨ 0 ≤ e ∧ e < q ∧ hm 92 e = -1 ∧ ∀ i : Int, b ≤ i → i < d → hm 99 i ≠ e)
def cz_nd (hm : qz_H) (s : Int) : Nat → Int
  | 0 => 0
  | n + 1 => cz_nd hm s n + bz_dl (hm 84 (s + (n : Int)))
def cz_G6 (hm : qz_H) (c m b : Int) : Prop := (∀ f : Int, 0 ≤ f → f < c → ∀ n : Nat, hm 83 f + (n : Int) < (if f + 1 < c then hm 83 (f + 1) else m) → (2 ≤ hm 84 (hm 83 f + (n : Int)) ∧ hm 84 (hm 83 f + (n : Int)) ≤ 4 → cz_nd hm (hm 83 f) n ≤ 9) ∧ (hm 84 (hm 83 f + (n : Int)) = 5 ∨ hm 84 (hm 83 f + (n : Int)) = 11 → 1 ≤ cz_nd hm (hm 83 f) n)) ∧ (1 ≤ c → cz_nd hm (hm 83 (c - 1)) (m - hm 83 (c - 1)).toNat = b)
section SC
variable {t : Int → Int} {hc hm hc' hm' : qz_H} {M c m d b q e u : Int}
theorem cz_nd_same {s : Int} : ∀ {n : Nat}, (∀ i : Nat, i < n → hm' 84 (s + (i : Int)) = hm 84 (s + (i : Int))) → cz_nd hm' s n = cz_nd hm s n
  | 0, _ => rfl
  | n + 1, h => by
    rw [cz_nd, cz_nd, h n (by omega), cz_nd_same (n := n) fun i hi => h i (by omega)]
theorem cz_G1.same (g : cz_G1 hc hm M c m) (hM : M = 6 ∨ M = 18) (fc : ∀ o i : Int, (o = M ∨ M + 4 ≤ o ∧ o ≤ M + 11) → hc' o i = hc o i) (fm : ∀ o i : Int, 79 ≤ o → o ≤ 83 → hm' o i = hm o i) (f1 : hm' 67 15 = hm 67 15) (f2 : hm' 67 23 = hm 67 23) : cz_G1 hc' hm' M c m := by
  obtain ⟨g1, g2, g3, g4, g5, g6, g7, g8, g9⟩ := g
  refine ⟨by rw [fc _ _ (by omega)]; exact g1, by rw [f1]; exact g2, g3, g4, by rw [fc _ _ (by omega)]; exact g5, by rw [f2]; exact g6, g7, g8, fun f f0 fc1 => ?_⟩
  obtain ⟨x, y⟩ := g9 f f0 fc1
  unfold cz_Gf at x ⊢
  unfold cz_Gz at y ⊢
  rw [fc _ _ (by omega), fc _ _ (by omega), fc _ _ (by omega), fc _ _ (by omega), fc _ _ (by omega), fm _ _ (by omega) (by omega), fm _ _ (by omega) (by omega), fm _ _ (by omega) (by omega), fm _ _ (by omega) (by omega), fm _ _ (by omega) (by omega)]
  refine ⟨⟨x.1, x.2.1, x.2.2.1, x.2.2.2.1, x.2.2.2.2.1, x.2.2.2.2.2.1, x.2.2.2.2.2.2.1, x.2.2.2.2.2.2.2.1, x.2.2.2.2.2.2.2.2.1, x.2.2.2.2.2.2.2.2.2.1, fun k k0 k1 => ?_⟩, y⟩
  rw [fc _ _ (by omega), fm _ _ (by omega) (by omega)]
  exact x.2.2.2.2.2.2.2.2.2.2 k k0 k1
/-- a row more -/
theorem cz_G1.row (g : cz_G1 hc hm M c m) (hM : M = 6 ∨ M = 18) (c1 : 1 ≤ c) (m64 : m < 64) (fc : ∀ o i : Int, (o = M ∨ M + 4 ≤ o ∧ o ≤ M + 11) → ¬ (o = M ∧ i = 4) → ¬ (o = M + 2 + 2 * c ∧ i = 5) → hc' o i = hc o i) (x4 : hc' M 4 = m + 1) (x5 : hc' (M + 2 + 2 * c) 5 = hc (M + 2 + 2 * c) 5 + 1) (fm : ∀ o i : Int, 79 ≤ o → o ≤ 83 → hm' o i = hm o i) (f1 : hm' 67 15 = hm 67 15) (f2 : hm' 67 23 = m + 1) : cz_G1 hc' hm' M c (m + 1) := by
  obtain ⟨g1, g2, g3, g4, g5, g6, g7, g8, g9⟩ := g
  refine ⟨by rw [fc _ _ (by omega) (by omega) (by omega)]; exact g1, by rw [f1]; exact g2, g3, g4, x4, f2, by omega, by omega, fun f f0 fc1 => ?_⟩
  obtain ⟨x, y⟩ := g9 f f0 fc1
  unfold cz_Gf at x ⊢
  unfold cz_Gz at y ⊢
  rw [fc _ _ (by omega) (by omega) (by omega), fc _ _ (by omega) (by omega) (by omega), fc _ _ (by omega) (by omega) (by omega), fc _ _ (by omega) (by omega) (by omega), fm _ _ (by omega) (by omega), fm _ _ (by omega) (by omega), fm _ _ (by omega) (by omega), fm _ _ (by omega) (by omega), fm _ _ (by omega) (by omega)]
  refine ⟨⟨x.1, x.2.1, x.2.2.1, x.2.2.2.1, x.2.2.2.2.1, x.2.2.2.2.2.1, x.2.2.2.2.2.2.1, x.2.2.2.2.2.2.2.1, x.2.2.2.2.2.2.2.2.1, x.2.2.2.2.2.2.2.2.2.1, fun k k0 k1 => ?_⟩, y.1, by have := y.2.1; omega, fun h => ?_, fun h => ?_⟩
  · rw [fc _ _ (by omega) (by omega) (by omega), fm _ _ (by omega) (by omega)]
    exact x.2.2.2.2.2.2.2.2.2.2 k k0 k1
  · rw [fc _ _ (by omega) (by omega) (by omega)]
    exact y.2.2.1 h
  · have := y.2.2.2 h
    rw [show M + 4 + 2 * f = M + 2 + 2 * c by omega] at this ⊢
    rw [x5]; omega
theorem cz_G2.same (g : cz_G2 t hc hm c) (fc : ∀ i : Int, hc' 32 i = hc 32 i) (fm : ∀ o i : Int, 86 ≤ o → o ≤ 87 → hm' o i = hm o i) : cz_G2 t hc' hm' c := by
  refine ⟨fun f f0 f1 => ?_, fun f g f0 f1 f2 => ?_⟩
  · rw [fc, fm _ _ (by omega) (by omega), fm _ _ (by omega) (by omega)]; exact g.1 f f0 f1
  · rw [fm _ _ (by omega) (by omega), fm _ _ (by omega) (by omega), fm _ _ (by omega) (by omega), fm _ _ (by omega) (by omega)]; rename_i gg; exact gg.2 f g f0 f1 f2
theorem cz_G3.same (g : cz_G3 t hc hm c) (fc : ∀ i : Int, hc' 33 i = hc 33 i) (fm : ∀ o i : Int, (o = 80 ∨ o = 88 ∨ o = 89) → hm' o i = hm o i) : cz_G3 t hc' hm' c := by
  intro k k0 k1
  rw [fm _ _ (by omega)] at k1
  rw [fc, fm _ _ (by omega), fm _ _ (by omega)]
  exact g k k0 k1
theorem cz_G4.same (g : cz_G4 t hc hm M m q u) (fc : ∀ o i : Int, (o = M + 2 ∨ o = M + 3) → hc' o i = hc o i) (fm : ∀ o i : Int, (o = 84 ∨ o = 85 ∨ o = 90 ∨ o = 91 ∨ o = 92) → hm' o i = hm o i) (f1 : hm' 67 28 = hm 67 28) {u' : Int} (hu : u ≤ u') : cz_G4 t hc' hm' M m q u' := by
  obtain ⟨g1, g2, g3, g4⟩ := g
  refine ⟨by rw [f1]; exact g1, g2, fun k k0 k1 => ?_, fun j j0 j1 => ?_⟩
  · rw [fc _ _ (by omega), fc _ _ (by omega), fm _ _ (by omega), fm _ _ (by omega)]
    obtain ⟨a1, a2, a3, a4⟩ := g3 k k0 k1
    refine ⟨a1, a2, a3, ?_⟩
    rcases a4 with a4 | ⟨a4, j, j0, j1, j2, j3⟩
    · exact Or.inl a4
    · exact Or.inr ⟨a4, j, j0, j1, by rw [fm _ _ (by omega)]; exact j2, by rw [fm _ _ (by omega)]; exact j3⟩
  · rw [fm _ _ (by omega), fm _ _ (by omega), fm _ _ (by omega), fc _ _ (by omega), fc _ _ (by omega)]
    obtain ⟨a1, a2, a3, a4⟩ := g4 j j0 j1
    refine ⟨a1, by omega, fun i i0 i1 => by rw [fm _ _ (by omega)]; exact a3 i i0 i1, a4⟩
/-- a call by a name at s -/
theorem cz_G4.call (g : cz_G4 t hc hm M m q u) {s : Int} {L : Nat} (hw : cz_wd t s L) (us : u ≤ s) (fc : ∀ o i : Int, (o = M + 2 ∨ o = M + 3) → hc' o i = hc o i) (fm : ∀ o i : Int, (o = 84 ∨ o = 85 ∨ o = 90 ∨ o = 91 ∨ o = 92) → ¬ ((o = 90 ∨ o = 91 ∨ o = 92) ∧ i = q) → hm' o i = hm o i) (x0 : hm' 90 q = s) (x1 : hm' 91 q = (L : Int)) (x2 : hm' 92 q = -1) (f1 : hm' 67 28 = q + 1) : cz_G4 t hc' hm' M m (q + 1) (s + 1) := by
  obtain ⟨g1, g2, g3, g4⟩ := g
  refine ⟨f1, by omega, fun k k0 k1 => ?_, fun j j0 j1 => ?_⟩
  · rw [fc _ _ (by omega), fc _ _ (by omega), fm _ _ (by omega) (by omega), fm _ _ (by omega) (by omega)]
    obtain ⟨a1, a2, a3, a4⟩ := g3 k k0 k1
    refine ⟨a1, a2, a3, ?_⟩
    rcases a4 with a4 | ⟨a4, j, j0, j1, j2, j3⟩
    · exact Or.inl a4
    · exact Or.inr ⟨a4, j, j0, by omega, by rw [fm _ _ (by omega) (by omega)]; exact j2, by rw [fm _ _ (by omega) (by omega)]; exact j3⟩
  · by_cases h : j = q
    · subst h
      rw [x0, x1, x2]
      exact ⟨⟨L, rfl, hw⟩, by omega, fun i i0 i1 => by omega, Or.inr rfl⟩
    · rw [fm 91 j (by omega) (by omega), fm 90 j (by omega) (by omega), fm 92 j (by omega) (by omega), fc _ _ (by omega), fc _ _ (by omega)]
      obtain ⟨a1, a2, a3, a4⟩ := g4 j j0 (by omega)
      refine ⟨a1, by omega, fun i i0 i1 => ?_, a4⟩
      by_cases h2 : i = q
      · rw [h2, x0]; omega
      · rw [fm 90 i (by omega) (by omega)]; exact a3 i i0 (by omega)
theorem cz_G4.rowV (g : cz_G4 t hc hm M m q u) (m0 : 0 ≤ m) (fc : ∀ o i : Int, (o = M + 2 ∨ o = M + 3) → i ≠ m → hc' o i = hc o i) (fm : ∀ o i : Int, (o = 84 ∨ o = 85 ∨ o = 90 ∨ o = 91 ∨ o = 92) → ¬ ((o = 84 ∨ o = 85) ∧ i = m) → hm' o i = hm o i) (f1 : hm' 67 28 = hm 67 28) (x1 : -30 ≤ hc' (M + 2) m ∧ hc' (M + 2) m ≤ -1) (x2 : hm' 84 m = kz_dt (hc' (M + 2) m) 1) (x3 : hc' (M + 3) m = hm' 85 m) (x4 : cz_vl (hc' (M + 2) m) (hm' 85 m)) {u' : Int} (hu : u ≤ u') : cz_G4 t hc' hm' M (m + 1) q u' := by
  obtain ⟨g1, g2, g3, g4⟩ := g
  refine ⟨by rw [f1]; exact g1, g2, fun k k0 k1 => ?_, fun j j0 j1 => ?_⟩
  · by_cases h : k = m
    · subst h
      exact ⟨x1.1, x1.2, x2, Or.inl ⟨x3, x4⟩⟩
    · rw [fc _ _ (by omega) h, fc _ _ (by omega) h, fm _ _ (by omega) (by omega), fm _ _ (by omega) (by omega)]
      obtain ⟨a1, a2, a3, a4⟩ := g3 k k0 (by omega)
      refine ⟨a1, a2, a3, ?_⟩
      rcases a4 with a4 | ⟨a4, j, j0, j1, j2, j3⟩
      · exact Or.inl a4
      · exact Or.inr ⟨a4, j, j0, j1, by rw [fm _ _ (by omega) (by omega)]; exact j2, by rw [fm _ _ (by omega) (by omega)]; exact j3⟩
  · obtain ⟨a1, a2, a3, a4⟩ := g4 j j0 j1
    rw [fm 91 j (by omega) (by omega), fm 90 j (by omega) (by omega), fm 92 j (by omega) (by omega)]
    refine ⟨a1, by omega, fun i i0 i1 => by rw [fm 90 i (by omega) (by omega)]; exact a3 i i0 i1, ?_⟩
    rcases a4 with a4 | a4
    · left
      rw [fc _ _ (by omega) (by omega), fc _ _ (by omega) (by omega)]
      exact ⟨a4.1, by omega, a4.2.2⟩
    · exact Or.inr a4
theorem cz_G4.rowC (g : cz_G4 t hc hm M m q u) (m0 : 0 ≤ m) {j : Int} (j0 : 0 ≤ j) (jq : j < q) (hj : hm 92 j = -1) (fc : ∀ o i : Int, (o = M + 2 ∨ o = M + 3) → i ≠ m → hc' o i = hc o i) (fm : ∀ o i : Int, (o = 84 ∨ o = 85 ∨ o = 90 ∨ o = 91 ∨ o = 92) → ¬ ((o = 84 ∨ o = 85) ∧ i = m) → ¬ (o = 92 ∧ i = j) → hm' o i = hm o i) (f1 : hm' 67 28 = hm 67 28) (x1 : hc' (M + 2) m = -11) (x2 : hm' 84 m = 16) (x3 : hc' (M + 3) m = -1 - hm 90 j) (x4 : hm' 92 j = m) {u' : Int} (hu : u ≤ u') : cz_G4 t hc' hm' M (m + 1) q u' := by
  obtain ⟨g1, g2, g3, g4⟩ := g
  refine ⟨by rw [f1]; exact g1, g2, fun k k0 k1 => ?_, fun i i0 i1 => ?_⟩
  · by_cases h : k = m
    · subst h
      refine ⟨by omega, by omega, by rw [x1, x2]; decide +kernel, Or.inr ⟨x1, j, j0, jq, x4, ?_⟩⟩
      rw [fm 90 j (by omega) (by omega) (by omega)]; exact x3
    · rw [fc _ _ (by omega) h, fc _ _ (by omega) h, fm _ _ (by omega) (by omega) (by omega), fm _ _ (by omega) (by omega) (by omega)]
      obtain ⟨a1, a2, a3, a4⟩ := g3 k k0 (by omega)
      refine ⟨a1, a2, a3, ?_⟩
      rcases a4 with a4 | ⟨a4, i, i0, i1, i2, i3⟩
      · exact Or.inl a4
      · have ij : i ≠ j := by
          intro z
          rw [z] at i2
          omega
        exact Or.inr ⟨a4, i, i0, i1, by rw [fm _ _ (by omega) (by omega) (by omega)]; exact i2, by rw [fm _ _ (by omega) (by omega) (by omega)]; exact i3⟩
  · obtain ⟨a1, a2, a3, a4⟩ := g4 i i0 i1
    rw [fm 91 i (by omega) (by omega) (by omega), fm 90 i (by omega) (by omega) (by omega)]
    refine ⟨a1, by omega, fun l l0 l1 => by rw [fm 90 l (by omega) (by omega) (by omega)]; exact a3 l l0 l1, ?_⟩
    by_cases h : i = j
    · subst h
      left
      rw [x4]
      exact ⟨m0, by omega, x1, x3⟩
    · rw [fm 92 i (by omega) (by omega) (by omega)]
      rcases a4 with a4 | a4
      · left
        rw [fc _ _ (by omega) (by omega), fc _ _ (by omega) (by omega)]
        exact ⟨a4.1, by omega, a4.2.2⟩
      · exact Or.inr a4
end SC
