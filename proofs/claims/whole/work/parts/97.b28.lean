/-! The functions that are called by name. -/
section SC
variable {t : Int → Int} {N T M : Int} {hc0 hm0 hc hm hc' hm' : qz_H}
/-- call j goes to function x, or to none -/
def cz_fnd (t : Int → Int) (hm : qz_H) (c j x : Int) : Prop := (x = -1 ∧ ∀ f : Int, 0 ≤ f → f < c → ¬ cz_isf t hm (hm 90 j) (hm 91 j).toNat f) ∨ (0 ≤ x ∧ x < c ∧ cz_isf t hm (hm 90 j) (hm 91 j).toNat x)
theorem cz_fnd.uniq {c j x y : Int} (g2 : cz_G2 t hc hm c) (a : cz_fnd t hm c j x) (b : cz_fnd t hm c j y) : x = y := by
  rcases a with ⟨a1, a2⟩ | ⟨a1, a2, a3⟩
  · rcases b with ⟨b1, b2⟩ | ⟨b1, b2, b3⟩
    · omega
    · exact absurd b3 (a2 y b1 b2)
  · rcases b with ⟨b1, b2⟩ | ⟨b1, b2, b3⟩
    · exact absurd a3 (b2 x a1 a2)
    · by_cases h : x = y
      · exact h
      · exfalso
        have e : cz_W t (hm 86 x) (hm 87 x).toNat = cz_W t (hm 86 y) (hm 87 y).toNat := by rw [a3.2, b3.2]
        by_cases h' : x < y
        · exact g2.2 x y a1 h' b2 a3.1 b3.1 e
        · exact g2.2 y x b1 (by omega) a2 b3.1 a3.1 e.symm
/-- the model's search for one call -/
theorem cz_rs14 (k2 : Int → Int → qz_H → Option qz_R) (e : cz_en t N T M hc0 hm0 hc hm) {c j : Int} {L : Nat} (m15 : hm 67 15 = c) (c4 : c ≤ 4) (j0 : 0 ≤ j) (j1 : j ≤ 99) (h91 : hm 91 j = (L : Int)) (hw : cz_wd t (hm 90 j) L) (nm : ∀ f : Int, 0 ≤ f → f < c → cz_nm t (hc 32 f) (hm 86 f) (hm 87 f)) (h92 : 0 ≤ hm 92 j) (h92' : hm 92 j < 64) : ∀ (r n : Nat) (a : Int), (r : Int) ≤ c → ((a = -1 ∧ ∀ f : Int, 0 ≤ f → f < c - (r : Int) → ¬ cz_isf t hm (hm 90 j) L f) ∨ (0 ≤ a ∧ a < c - (r : Int) ∧ cz_isf t hm (hm 90 j) L a)) → ∃ x, cz_fnd t hm c j x ∧ fn_Md_resolve_14 k2 (n + r + 1) 67 j a (c - (r : Int)) hm = if 0 ≤ x then k2 67 (j + 1) (qz_up hm 85 (hm 92 j) x) else some (0, qz_up (qz_up hm 67 34 (hm 90 j)) 67 38 1)
  | 0, n, a, hr, ha => by
    have Lm := e.tm.1
    rw [show c - ((0 : Nat) : Int) = c by omega] at ha ⊢
    refine ⟨a, ?_, ?_⟩
    · unfold cz_fnd
      rw [h91, Int.toNat_natCast]
      exact ha
    · show fn_Md_resolve_14_b k2 (fn_Md_resolve_14 k2 (n + 0)) 67 j a c hm = _
      unfold fn_Md_resolve_14_b
      have e1 : cz_en t N T M hc0 hm0 hc (qz_up hm 67 34 (hm 90 j)) := e.um (by omega)
      rw [m15, if_pos (by omega), bz_m67_31 Lm, bz_ck (by omega), bz_m92_m1 Lm, bz_ck (by omega), bz_m67_22 Lm, bz_ck (by omega), bz_m85_m1 Lm, bz_ck (by omega), bz_bn, bz_w (by omega) (by omega), bz_bn, bz_m67_29 Lm, bz_ck (by omega), bz_m90_m1 Lm, bz_ck (by omega), bz_ck (by omega), bz_bn, cz_fail e1.w0, bz_bc, bz_ck (by omega)]
  | r + 1, n, a, hr, ha => by
    have Lm := e.tm.1
    have cc : c - ((r : Int) + 1) + 1 = c - (r : Int) := by omega
    rw [show ((r + 1 : Nat) : Int) = (r : Int) + 1 by omega] at ha ⊢
    rw [show n + (r + 1) + 1 = (n + r + 1) + 1 by omega]
    have z67 : ∀ b : Int, fn_Md_resolve_67 k2 (fn_Md_resolve_14 k2 (n + r + 1)) 67 j (c - ((r : Int) + 1)) b hm = fn_Md_resolve_14 k2 (n + r + 1) 67 j b (c - (r : Int)) hm := by
      intro b
      unfold fn_Md_resolve_67
      rw [bz_bn, bz_w (by omega) (by omega), bz_bn, cc]
    have step0 : ¬ cz_isf t hm (hm 90 j) L (c - ((r : Int) + 1)) → ((a = -1 ∧ ∀ f : Int, 0 ≤ f → f < c - (r : Int) → ¬ cz_isf t hm (hm 90 j) L f) ∨ (0 ≤ a ∧ a < c - (r : Int) ∧ cz_isf t hm (hm 90 j) L a)) := by
      intro hn
      rcases ha with ⟨a1, a2⟩ | ⟨a1, a2, a3⟩
      · refine Or.inl ⟨a1, fun f f0 f1 => ?_⟩
        by_cases hf : f = c - ((r : Int) + 1)
        · rw [hf]; exact hn
        · exact a2 f f0 (by omega)
      · exact Or.inr ⟨a1, by omega, a3⟩
    have hnm := nm (c - ((r : Int) + 1)) (by omega) (by omega)
    show ∃ x, cz_fnd t hm c j x ∧ fn_Md_resolve_14_b k2 (fn_Md_resolve_14 k2 (n + r + 1)) 67 j a (c - ((r : Int) + 1)) hm = _
    unfold fn_Md_resolve_14_b fn_Md_resolve_66
    rw [m15, if_neg (by omega), bz_m67_25 Lm, bz_ck (by omega), bz_m87_m1 Lm, bz_ck (by omega)]
    rcases hnm.cmp e.w e.tc e.tm hw with ⟨n1, n2⟩ | ⟨n1, n2, n3, q, n4, n5, n6, n7⟩
    · rw [if_pos n2, z67]
      refine cz_rs14 k2 e m15 c4 j0 j1 h91 hw nm h92 h92' r n a (by omega) (step0 (fun h => ?_))
      rcases hnm with h' | ⟨h', L', h'', h3⟩
      · exact h.1 h'.2
      · have := h3.1; omega
    · rw [if_neg n2, bz_m67_24 Lm, bz_ck (by omega), bz_m86_m1 Lm, bz_ck (by omega), bz_ck (by omega), bz_ck (by omega), bz_m67_29 Lm, bz_ck (by omega), bz_m90_m1 Lm, bz_ck (by omega), bz_m67_30 Lm, bz_ck (by omega), bz_m91_m1 Lm, bz_ck (by omega), h91, n7, bz_bc]
      rcases n4 with h | h
      · rw [if_pos h, z67]
        refine cz_rs14 k2 e m15 c4 j0 j1 h91 hw nm h92 h92' r n a (by omega) (step0 (fun h' => ?_))
        have := n5.mpr h'.2; omega
      · rw [if_neg (by omega), z67]
        exact cz_rs14 k2 e m15 c4 j0 j1 h91 hw nm h92 h92' r n _ (by omega) (Or.inr ⟨by omega, by omega, n3, n5.mp h⟩)
/-- what the model has resolved before call l -/
def cz_rI (t : Int → Int) (hm : qz_H) (c l : Int) (h : qz_H) : Prop := (∀ o i : Int, ¬ (o = 85 ∧ 0 ≤ i) → h o i = hm o i) ∧ (∀ i : Int, (∀ j : Int, 0 ≤ j → j < l → hm 92 j ≠ i) → h 85 i = hm 85 i) ∧ ∀ j : Int, 0 ≤ j → j < l → 0 ≤ h 85 (hm 92 j) ∧ cz_fnd t hm c j (h 85 (hm 92 j))
theorem cz_rs2 (e : cz_en t N T M hc0 hm0 hc hm) {c m q u : Int} (g1 : cz_G1 hc hm M c m) (g2 : cz_G2 t hc hm c) (g4 : cz_G4 t hc hm M m q u) (nr : ∀ j : Int, 0 ≤ j → j < q → hm 92 j ≠ -1) (q99 : q ≤ 99) : ∀ (r n : Nat) (h : qz_H), (r : Int) ≤ q → cz_rI t hm c (q - (r : Int)) h → (∃ h', fn_Md_resolve_2 (n + r + 1) 67 (q - (r : Int)) h = some (1, h') ∧ cz_rI t hm c q h') ∨ ∃ h' j, fn_Md_resolve_2 (n + r + 1) 67 (q - (r : Int)) h = some (0, qz_up (qz_up h' 67 34 (hm 90 j)) 67 38 1) ∧ 0 ≤ j ∧ j < q ∧ cz_rI t hm c j h' ∧ cz_fnd t hm c j (-1)
  | 0, n, h, hr, hI => by
    left
    rw [show q - ((0 : Nat) : Int) = q by omega] at hI ⊢
    refine ⟨h, ?_, hI⟩
    show fn_Md_resolve_2_b (fn_Md_resolve_2 (n + 0)) 67 q h = _
    unfold fn_Md_resolve_2_b
    rw [hI.1 67 28 (by omega), g4.1, if_pos (by omega), bz_ck (by omega)]
  | r + 1, n, h, hr, hI => by
    rw [show ((r + 1 : Nat) : Int) = (r : Int) + 1 by omega] at hI ⊢
    rw [show n + (r + 1) + 1 = (n + r + 1) + 1 by omega]
    have cc : q - ((r : Int) + 1) + 1 = q - (r : Int) := by omega
    obtain ⟨p1, p2, p3, p4⟩ := g4.2.2.2 (q - ((r : Int) + 1)) (by omega) (by omega)
    obtain ⟨L, L1, L2⟩ := p1
    have row : 0 ≤ hm 92 (q - ((r : Int) + 1)) ∧ hm 92 (q - ((r : Int) + 1)) < m := by
      rcases p4 with h' | h'
      · exact ⟨h'.1, h'.2.1⟩
      · exact absurd h' (nr _ (by omega) (by omega))
    have m64 : m ≤ 64 := g1.2.2.2.2.2.2.2.1
    have c4 : c ≤ 4 := g1.2.2.2.1
    have c0 : 0 ≤ c := g1.2.2.1
    have eh : cz_en t N T M hc0 hm0 hc h := e.fM (fun o i x => hI.1 o i (by omega))
    have f_ : ∀ o i : Int, o ≠ 85 → h o i = hm o i := fun o i x => hI.1 o i (by omega)
    obtain ⟨x, x1, x2⟩ := cz_rs14 (fn_Md_resolve_2 (n + r + 1)) eh (c := c) (j := q - ((r : Int) + 1)) (L := L) (by rw [f_ _ _ (by omega)]; exact g1.2.1) c4 (by omega) (by omega) (by rw [f_ _ _ (by omega)]; exact L1) (by rw [f_ _ _ (by omega)]; exact L2) (fun f f0 f1 => by rw [f_ _ _ (by omega), f_ _ _ (by omega)]; exact g2.1 f f0 f1) (by rw [f_ _ _ (by omega)]; exact row.1) (by rw [f_ _ _ (by omega)]; omega) c.toNat (3999 - c.toNat) (-1) (by omega) (Or.inl ⟨rfl, fun f f0 f1 => by omega⟩)
    rw [show c - ((c.toNat : Nat) : Int) = 0 by omega, show 3999 - c.toNat + c.toNat + 1 = qz_NF by unfold qz_NF; omega, f_ 92 _ (by omega), f_ 90 _ (by omega), cc] at x2
    have fn : cz_fnd t hm c (q - ((r : Int) + 1)) x := by
      unfold cz_fnd cz_isf at x1 ⊢
      simp only [f_ 90 _ (show (90 : Int) ≠ 85 by omega), f_ 91 _ (show (91 : Int) ≠ 85 by omega), f_ 87 _ (show (87 : Int) ≠ 85 by omega), f_ 86 _ (show (86 : Int) ≠ 85 by omega)] at x1
      exact x1
    have D : fn_Md_resolve_2 ((n + r + 1) + 1) 67 (q - ((r : Int) + 1)) h = fn_Md_resolve_14 (fn_Md_resolve_2 (n + r + 1)) qz_NF 67 (q - ((r : Int) + 1)) (-1) 0 h := by
      show fn_Md_resolve_2_b (fn_Md_resolve_2 (n + r + 1)) 67 (q - ((r : Int) + 1)) h = _
      unfold fn_Md_resolve_2_b
      rw [f_ _ _ (by omega), g4.1, if_neg (by omega), bz_bn, bz_bn]
    rw [D, x2]
    by_cases hx : 0 ≤ x
    · rw [if_pos hx]
      have inj : ∀ j : Int, 0 ≤ j → j < q - ((r : Int) + 1) → hm 92 j ≠ hm 92 (q - ((r : Int) + 1)) := by
        intro j j0 j1 hj
        obtain ⟨_, _, b3, b4⟩ := g4.2.2.2 j j0 (by omega)
        have := b3 (q - ((r : Int) + 1)) j1 (by omega)
        rcases p4 with h' | h'
        · rcases b4 with h'' | h''
          · rw [hj] at h''
            omega
          · exact nr j j0 (by omega) h''
        · exact nr _ (by omega) (by omega) h'
      have I' : cz_rI t hm c (q - (r : Int)) (qz_up h 85 (hm 92 (q - ((r : Int) + 1))) x) := by
        refine ⟨fun o i n1 => ?_, fun i n1 => ?_, fun j j0 j1 => ?_⟩
        · rw [cz_un (by omega)]; exact hI.1 o i n1
        · have := n1 (q - ((r : Int) + 1)) (by omega) (by omega)
          rw [cz_un (by omega)]
          exact hI.2.1 i (fun j j0 j1 => n1 j j0 (by omega))
        · by_cases hj : j = q - ((r : Int) + 1)
          · rw [hj, bz_us]
            exact ⟨hx, fn⟩
          · have := inj j j0 (by omega)
            rw [cz_un (by omega)]
            exact hI.2.2 j j0 (by omega)
      exact cz_rs2 e g1 g2 g4 nr q99 r n _ (by omega) I'
    · rw [if_neg hx]
      right
      refine ⟨h, q - ((r : Int) + 1), rfl, by omega, by omega, hI, ?_⟩
      have : x = -1 := by
        rcases fn with h' | h'
        · exact h'.1
        · omega
      rw [← this]; exact fn
theorem cz_rs (e : cz_en t N T M hc0 hm0 hc hm) {c m q u : Int} (g1 : cz_G1 hc hm M c m) (g2 : cz_G2 t hc hm c) (g4 : cz_G4 t hc hm M m q u) (nr : ∀ j : Int, 0 ≤ j → j < q → hm 92 j ≠ -1) (q99 : q ≤ 99) : (∃ h', fn_Md_resolve 67 hm = some (1, h') ∧ cz_rI t hm c q h') ∨ ∃ h' j, fn_Md_resolve 67 hm = some (0, qz_up (qz_up h' 67 34 (hm 90 j)) 67 38 1) ∧ 0 ≤ j ∧ j < q ∧ cz_rI t hm c j h' ∧ cz_fnd t hm c j (-1) := by
  have q0 := g4.2.1
  have h := cz_rs2 e g1 g2 g4 nr q99 q.toNat (3999 - q.toNat) hm (by omega) ⟨fun _ _ _ => rfl, fun _ _ => rfl, fun j j0 j1 => by omega⟩
  rw [show q - ((q.toNat : Nat) : Int) = 0 by omega, show 3999 - q.toNat + q.toNat + 1 = qz_NF by unfold qz_NF; omega] at h
  unfold fn_Md_resolve
  rw [bz_bn]
  exact h
end SC
