/-! The class's search for the functions that are called. -/
section SC
variable {t : Int → Int} {N T M : Int} {hc0 hm0 hc hm hc' hm' : qz_H}
theorem cz_hide {p : Prop} (h : p) : cz_hid p := h
def cz_cI (t : Int → Int) (hc hm : qz_H) (M c q l1 l2 : Int) (h : qz_H) : Prop := (∀ o i : Int, ¬ (o = M + 3 ∧ 0 ≤ i ∧ i < l2) → ¬ (o = 30 ∧ i = 9) → h o i = hc o i) ∧ (∀ k : Int, 0 ≤ k → k < l2 → (∀ j : Int, 0 ≤ j → j < q → hm 92 j ≠ k) → h (M + 3) k = hc (M + 3) k) ∧ (∀ j : Int, 0 ≤ j → j < q → hm 92 j < l2 → cz_fnd t hm c j (h (M + 3) (hm 92 j))) ∧ (l1 = 0 ∧ (∀ j : Int, 0 ≤ j → j < q → hm 92 j < l2 → ¬ cz_fnd t hm c j (-1)) ∨ l1 = 1 ∧ ∃ j0 : Int, 0 ≤ j0 ∧ j0 < q ∧ hm 92 j0 < l2 ∧ cz_fnd t hm c j0 (-1) ∧ h 30 9 = hm 90 j0 ∧ ∀ j : Int, 0 ≤ j → j < q → hm 92 j < l2 → cz_fnd t hm c j (-1) → hm 90 j0 ≤ hm 90 j)
theorem cz_ff4 (e : cz_en t N T M hc0 hm0 hc hm) {c m q u : Int} (g1 : cz_G1 hc hm M c m) (g2 : cz_G2 t hc hm c) (g4 : cz_G4 t hc hm M m q u) (nr : ∀ j : Int, 0 ≤ j → j < q → hm 92 j ≠ -1) : ∀ (r n : Nat) (l1 : Int) (h : qz_H), (r : Int) ≤ m → cz_cI t hc hm M c q l1 (m - (r : Int)) h → ∃ l1' h', fn_Reader_findFunctions_4 (n + r + 1) 30 l1 (m - (r : Int)) h = some (l1', h') ∧ cz_cI t hc hm M c q l1' m h'
  | 0, n, l1, h, hr, hI => by
    rw [show m - ((0 : Nat) : Int) = m by omega] at hI ⊢
    refine ⟨l1, h, ?_, hI⟩
    have hM := e.hM
    have m4 : h M 4 = m := by rw [hI.1 _ _ (by omega) (by omega)]; exact g1.2.2.2.2.1
    have mm : h 30 4 = M := by rw [hI.1 _ _ (by omega) (by omega)]; exact e.m4
    show fn_Reader_findFunctions_4_b (fn_Reader_findFunctions_4 (n + 0)) 30 l1 m h = _
    unfold fn_Reader_findFunctions_4_b fn_Reader_findFunctions_117
    rw [mm, bz_ck (by omega), m4, if_pos (by omega)]
  | r + 1, n, l1, h, hr, hI => by
    have hM := e.hM
    rw [show ((r + 1 : Nat) : Int) = (r : Int) + 1 by omega] at hI ⊢
    rw [show n + (r + 1) + 1 = (n + r + 1) + 1 by omega]
    obtain ⟨k, hk⟩ : ∃ k : Int, k = m - ((r : Int) + 1) := ⟨_, rfl⟩
    have cc : k + 1 = m - (r : Int) := by omega
    rw [← hk] at hI ⊢
    have m64 : m ≤ 64 := g1.2.2.2.2.2.2.2.1
    have c4 : c ≤ 4 := g1.2.2.2.1
    have c0 : 0 ≤ c := g1.2.2.1
    have k0 : 0 ≤ k := by omega
    have km : k < m := by omega
    obtain ⟨I1, I2, I3, I4'⟩ := hI
    have I4 := cz_hide I4'
    clear I4'
    have eh : cz_en t N T M hc0 hm0 h hm := e.fC (fun o i x => I1 o i (by omega) (by omega))
    obtain ⟨u0, u1, u2, u3, u4, u5⟩ := bz_mod eh.tc.1 hM
    have m4 : h M 4 = m := by rw [I1 _ _ (by omega) (by omega)]; exact g1.2.2.2.2.1
    have m3 : h M 3 = c := by rw [I1 _ _ (by omega) (by omega)]; exact g1.1
    have op : h (M + 2) k = hc (M + 2) k := I1 _ _ (by omega) (by omega)
    have opd : h (M + 3) k = hc (M + 3) k := I1 _ _ (by omega) (by omega)
    obtain ⟨p1, p2, p3, p4'⟩ := g4.2.2.1 k k0 km
    have p4 := cz_hide p4'
    clear p4'
    have z111 : ∀ (l : Int) (h' : qz_H), fn_Reader_findFunctions_111 (fn_Reader_findFunctions_4 (n + r + 1)) 30 l k h' = fn_Reader_findFunctions_4 (n + r + 1) 30 l (m - (r : Int)) h' := by
      intro l h'
      unfold fn_Reader_findFunctions_111
      rw [bz_w (by omega) (by omega), bz_bn, cc]
    have posn : ∀ j : Int, 0 ≤ j → j < q → 0 ≤ hm 90 j ∧ hm 90 j ≤ 320 := by
      intro j j0 j1
      obtain ⟨⟨L, _, hw⟩, _⟩ := g4.2.2.2 j j0 j1
      have wN := e.w.2.1
      have := cz_wd_N e.w hw
      have := hw.1
      omega
    have rowc : ∀ j : Int, 0 ≤ j → j < q → hm 92 j = k → hc (M + 2) k = -11 ∧ hc (M + 3) k = -1 - hm 90 j := by
      intro j j0 j1 hj
      obtain ⟨_, _, _, b4⟩ := g4.2.2.2 j j0 j1
      rcases b4 with b | b
      · rw [hj] at b; exact ⟨b.2.2.1, b.2.2.2⟩
      · exact absurd b (nr j j0 j1)
    -- a row that is no call by name
    have skip : (∀ j : Int, 0 ≤ j → j < q → hm 92 j ≠ k) → cz_cI t hc hm M c q l1 (m - (r : Int)) h := by
      intro hn
      rw [← cc]
      refine ⟨fun o i n1 n2 => I1 o i (by omega) n2, fun k' k1 k2 k3 => ?_, fun j j0 j1 j2 => ?_, ?_⟩
      · by_cases h' : k' = k
        · rw [h']; exact opd
        · exact I2 k' k1 (by omega) k3
      · have := hn j j0 j1
        exact I3 j j0 j1 (by omega)
      · rcases I4 with ⟨a1, a2⟩ | ⟨a1, j0, b0, b1, b2, b3, b4, b5⟩
        · refine Or.inl ⟨a1, fun j j0 j1 j2 => ?_⟩
          have := hn j j0 j1
          exact a2 j j0 j1 (by omega)
        · refine Or.inr ⟨a1, j0, b0, b1, by omega, b3, b4, fun j c0 c1 c2 c3 => ?_⟩
          have := hn j c0 c1
          exact b5 j c0 c1 (by omega) c3
    show ∃ l1' h', fn_Reader_findFunctions_4_b (fn_Reader_findFunctions_4 (n + r + 1)) 30 l1 k h = some (l1', h') ∧ cz_cI t hc hm M c q l1' m h'
    unfold fn_Reader_findFunctions_4_b
    rw [eh.m4, bz_ck (by omega), m4, if_neg (by omega), if_neg (by omega), bz_ck (by omega), u1, bz_ck (by omega), u4, bz_ck (by omega), op]
    by_cases h11 : hc (M + 2) k = -11
    · rw [if_neg (show ¬ ¬ hc (M + 2) k = -11 by omega), bz_ck (by omega), u2, bz_ck (by omega), u5, bz_ck (by omega), opd]
      rcases p4 with ⟨v1, v2⟩ | ⟨_, j, j0, j1, j2, j3⟩
      · have v0 : 0 ≤ hm 85 k := by
          rw [h11] at v2
          exact (v2.2.2.2.2.1 (by decide +kernel)).1
        rw [if_pos (show 0 ≤ qz_cmp (hc (M + 3) k) 0 by unfold qz_cmp; (repeat' split) <;> omega), z111]
        refine cz_ff4 e g1 g2 g4 nr r n l1 h (by omega) (skip (fun j j0 j1 hj => ?_))
        have := (rowc j j0 j1 hj).2
        have := posn j j0 j1
        omega
      · have ps := posn j j0 j1
        obtain ⟨⟨L, L1, L2⟩, _, b3, _⟩ := g4.2.2.2 j j0 j1
        rw [if_neg (show ¬ 0 ≤ qz_cmp (hc (M + 3) k) 0 by unfold qz_cmp; (repeat' split) <;> omega), bz_ck (by omega), bz_ck (by omega), bz_ck (by omega), j3, show -1 - (-1 - hm 90 j) = hm 90 j by omega, bz_x (by omega) (by omega), bz_w (by omega) (by omega), bz_bn]
        obtain ⟨x, x1, x2⟩ := cz_fnC0 eh m3 c0 c4 L2 (fun f f0 f1 => by rw [I1 _ _ (by omega) (by omega)]; exact g2.1 f f0 f1)
        have fn : cz_fnd t hm c j x := by
          unfold cz_fnd
          rw [L1, Int.toNat_natCast]
          exact x2
        rw [x1, bz_bc, bz_bn, eh.m4, bz_ck (by omega), u2, bz_ck (by omega), u5, bz_ck (by omega), bz_bn]
        have uq : ∀ j' : Int, 0 ≤ j' → j' < q → hm 92 j' = k → j' = j := by
          intro j' a0 a1 a2
          have c1 := (rowc j' a0 a1 a2).2
          obtain ⟨_, _, b3', _⟩ := g4.2.2.2 j' a0 a1
          by_cases h1 : j' < j
          · have := b3' j h1 j1; omega
          · by_cases h2 : j < j'
            · have := b3 j' h2 a1; omega
            · omega
        -- the heap after this row
        have fr : ∀ y : Int, (∀ o i : Int, ¬ (o = M + 3 ∧ 0 ≤ i ∧ i < k + 1) → ¬ (o = 30 ∧ i = 9) → (qz_up (qz_up h (M + 3) k x) 30 9 y) o i = hc o i) ∧ (∀ k' : Int, 0 ≤ k' → k' < k + 1 → (∀ j : Int, 0 ≤ j → j < q → hm 92 j ≠ k') → (qz_up (qz_up h (M + 3) k x) 30 9 y) (M + 3) k' = hc (M + 3) k') ∧ (∀ j : Int, 0 ≤ j → j < q → hm 92 j < k + 1 → cz_fnd t hm c j ((qz_up (qz_up h (M + 3) k x) 30 9 y) (M + 3) (hm 92 j))) := by
          intro y
          refine ⟨fun o i n1 n2 => ?_, fun k' k1 k2 k3 => ?_, fun j' a0 a1 a2 => ?_⟩
          · rw [cz_un n2, cz_un (by omega)]
            exact I1 o i (by omega) n2
          · have : k' ≠ k := fun h' => k3 j j0 j1 (by omega)
            rw [cz_un (by omega), cz_un (by omega)]
            exact I2 k' k1 (by omega) k3
          · rw [cz_un (by omega)]
            by_cases h' : hm 92 j' = k
            · have := uq j' a0 a1 h'
              rw [this, j2, bz_us]; exact fn
            · rw [cz_un (by omega)]
              exact I3 j' a0 a1 (by omega)
        by_cases hx : 0 ≤ x
        · rw [if_pos hx, z111]
          refine cz_ff4 e g1 g2 g4 nr r n l1 _ (by omega) ?_
          have fr' := fr ((qz_up h (M + 3) k x) 30 9)
          rw [cz_ue] at fr'
          rw [← cc]
          refine ⟨fr'.1, fr'.2.1, fr'.2.2, ?_⟩
          have nf : ¬ cz_fnd t hm c j (-1) := fun h' => by
            have := cz_fnd.uniq g2 h' fn; omega
          rcases I4 with ⟨a1, a2⟩ | ⟨a1, i0, b0, b1, b2, b3, b4, b5⟩
          · refine Or.inl ⟨a1, fun j' a0 a1 a3 => ?_⟩
            by_cases h' : hm 92 j' = k
            · rw [uq j' a0 a1 h']; exact nf
            · exact a2 j' a0 a1 (by omega)
          · refine Or.inr ⟨a1, i0, b0, b1, by omega, b3, by rw [cz_un (by omega)]; exact b4, fun j' c0 c1 c2 c3 => ?_⟩
            by_cases h' : hm 92 j' = k
            · rw [uq j' c0 c1 h'] at c3; exact absurd c3 nf
            · exact b5 j' c0 c1 (by omega) c3
        · have xm : x = -1 := by
            rcases x2 with h' | h'
            · exact h'.1
            · omega
          have fnm : cz_fnd t hm c j (-1) := by rw [← xm]; exact fn
          rw [if_neg hx]
          unfold fn_Reader_findFunctions_106
          rw [bz_ck (by omega), bz_ck (by omega), bz_bn, bz_bn, bz_bn, bz_bn, z111, z111, cz_un (show ¬ ((30 : Int) = M + 3 ∧ (9 : Int) = k) by omega)]
          rcases I4 with ⟨a1, a2⟩ | ⟨a1, i0, b0, b1, b2, b3', b4, b5⟩
          · rw [if_neg (show ¬ ¬ l1 = 0 by omega)]
            refine cz_ff4 e g1 g2 g4 nr r n 1 _ (by omega) ?_
            rw [← cc]
            refine ⟨(fr _).1, (fr _).2.1, (fr _).2.2, Or.inr ⟨rfl, j, j0, j1, by omega, fnm, bz_us _ _ _ _, fun j' c0 c1 c2 c3 => ?_⟩⟩
            by_cases h' : hm 92 j' = k
            · rw [uq j' c0 c1 h']; exact Int.le_refl _
            · exact absurd c3 (a2 j' c0 c1 (by omega))
          · rw [if_pos (show ¬ l1 = 0 by omega), b4]
            refine cz_ff4 e g1 g2 g4 nr r n 1 _ (by omega) ?_
            rw [← cc]
            refine ⟨(fr _).1, (fr _).2.1, (fr _).2.2, Or.inr ⟨rfl, ?_⟩⟩
            unfold qz_min
            by_cases hlt : hm 90 j < hm 90 i0
            · rw [if_pos hlt]
              refine ⟨j, j0, j1, by omega, fnm, bz_us _ _ _ _, fun j' c0 c1 c2 c3 => ?_⟩
              by_cases h' : hm 92 j' = k
              · rw [uq j' c0 c1 h']; exact Int.le_refl _
              · have := b5 j' c0 c1 (by omega) c3; omega
            · rw [if_neg hlt]
              refine ⟨i0, b0, b1, by omega, b3', bz_us _ _ _ _, fun j' c0 c1 c2 c3 => ?_⟩
              by_cases h' : hm 92 j' = k
              · rw [uq j' c0 c1 h']; omega
              · exact b5 j' c0 c1 (by omega) c3
    · rw [if_pos h11, z111]
      exact cz_ff4 e g1 g2 g4 nr r n l1 h (by omega) (skip (fun j j0 j1 hj => h11 (rowc j j0 j1 hj).1))
theorem cz_ff (e : cz_en t N T M hc0 hm0 hc hm) {c m q u : Int} (g1 : cz_G1 hc hm M c m) (g2 : cz_G2 t hc hm c) (g4 : cz_G4 t hc hm M m q u) (nr : ∀ j : Int, 0 ≤ j → j < q → hm 92 j ≠ -1) : ∃ l1' h', fn_Reader_findFunctions 30 hc = some (l1', h') ∧ cz_cI t hc hm M c q l1' m h' := by
  have m0 := g1.2.2.2.2.2.2.1
  have m64 := g1.2.2.2.2.2.2.2.1
  have r92 : ∀ j : Int, 0 ≤ j → j < q → 0 ≤ hm 92 j := by
    intro j j0 j1
    obtain ⟨_, _, _, b4⟩ := g4.2.2.2 j j0 j1
    rcases b4 with b | b
    · exact b.1
    · exact absurd b (nr j j0 j1)
  obtain ⟨l1', h', h1, h2⟩ := cz_ff4 e g1 g2 g4 nr m.toNat (3999 - m.toNat) 0 hc (by omega) (by
    rw [show m - ((m.toNat : Nat) : Int) = 0 by omega]
    refine ⟨fun _ _ _ _ => rfl, fun _ _ _ _ => rfl, fun j j0 j1 j2 => ?_, Or.inl ⟨rfl, fun j j0 j1 j2 => ?_⟩⟩
    · have := r92 j j0 j1; omega
    · have := r92 j j0 j1; omega)
  rw [show m - ((m.toNat : Nat) : Int) = 0 by omega, show 3999 - m.toNat + m.toNat + 1 = qz_NF by unfold qz_NF; omega] at h1
  unfold fn_Reader_findFunctions
  rw [bz_bn, bz_bn]
  exact ⟨l1', h', h1, h2⟩
end SC
