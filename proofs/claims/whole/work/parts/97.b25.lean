/-! The names of functions. -/
section SC
variable {t : Int → Int} {N T M : Int} {hc0 hm0 hc hm hc' hm' : qz_H}
/-- function f bears the word at s -/
def cz_isf (t : Int → Int) (hm : qz_H) (s : Int) (L : Nat) (f : Int) : Prop := hm 87 f ≠ 0 ∧ cz_W t (hm 86 f) (hm 87 f).toNat = cz_W t s L
theorem cz_fnC (e : cz_en t N T M hc0 hm0 hc hm) {c s : Int} {L : Nat} (m3 : hc M 3 = c) (c4 : c ≤ 4) (hw : cz_wd t s L) (nm : ∀ f : Int, 0 ≤ f → f < c → cz_nm t (hc 32 f) (hm 86 f) (hm 87 f)) : ∀ (r n : Nat), (r : Int) ≤ c → ∃ x, fn_Reader_functionNamed_2 (n + r + 1) 30 s (c - (r : Int)) hc = some (x, hc) ∧ ((x = -1 ∧ ∀ f : Int, c - (r : Int) ≤ f → f < c → ¬ cz_isf t hm s L f) ∨ (c - (r : Int) ≤ x ∧ x < c ∧ cz_isf t hm s L x))
  | 0, n, hr => by
    refine ⟨-1, ?_, Or.inl ⟨rfl, fun f h1 h2 => by omega⟩⟩
    show fn_Reader_functionNamed_2_b (fn_Reader_functionNamed_2 (n + 0)) 30 s (c - ((0 : Nat) : Int)) hc = _
    unfold fn_Reader_functionNamed_2_b fn_Reader_functionNamed_53
    have hM := e.hM
    rw [e.m4, bz_ck (by omega), m3, if_pos (by omega)]
  | r + 1, n, hr => by
    have hM := e.hM
    obtain ⟨x, h1, h2⟩ := cz_fnC e m3 c4 hw nm r n (by omega)
    have c2 := bz_c30_2 e.tc.1
    have c2m := bz_c32_m1 e.tc.1
    have cc : c - ((r : Int) + 1) + 1 = c - (r : Int) := by omega
    rw [show n + (r + 1) + 1 = (n + r + 1) + 1 by omega]
    have z47 : fn_Reader_functionNamed_47 (fn_Reader_functionNamed_2 (n + r + 1)) 30 s (c - ((r : Int) + 1)) hc = some (x, hc) := by
      unfold fn_Reader_functionNamed_47
      rw [bz_w (by omega) (by omega), bz_bn, cc, h1]
    have main : ∀ (y : Int), cz_nm t (hc 32 (c - ((r : Int) + 1))) (hm 86 (c - ((r : Int) + 1))) (hm 87 (c - ((r : Int) + 1))) → ∃ x, fn_Reader_functionNamed_2_b (fn_Reader_functionNamed_2 (n + r + 1)) 30 s (c - ((r : Int) + 1)) hc = some (x, hc) ∧ ((x = -1 ∧ ∀ f : Int, c - ((r : Int) + 1) ≤ f → f < c → ¬ cz_isf t hm s L f) ∨ (c - ((r : Int) + 1) ≤ x ∧ x < c ∧ cz_isf t hm s L x)) := by
      intro _ hnm
      unfold fn_Reader_functionNamed_2_b
      rw [e.m4, bz_ck (by omega), m3, if_neg (by omega), if_neg (by omega), c2, bz_ck (by omega), c2m, bz_ck (by omega)]
      have step : ¬ cz_isf t hm s L (c - ((r : Int) + 1)) → ((x = -1 ∧ ∀ f : Int, c - ((r : Int) + 1) ≤ f → f < c → ¬ cz_isf t hm s L f) ∨ (c - ((r : Int) + 1) ≤ x ∧ x < c ∧ cz_isf t hm s L x)) := by
        intro hn
        rcases h2 with ⟨a1, a2⟩ | ⟨a1, a2, a3⟩
        · refine Or.inl ⟨a1, fun f f1 f2 => ?_⟩
          by_cases hf : f = c - ((r : Int) + 1)
          · rw [hf]; exact hn
          · exact a2 f (by omega) f2
        · exact Or.inr ⟨by omega, a2, a3⟩
      rcases hnm.cmp e.w e.tc e.tm hw with ⟨n1, n2⟩ | ⟨n1, n2, n3, q, n4, n5, n6, n7⟩
      · refine ⟨x, ?_, step (fun h => ?_)⟩
        · rw [if_pos n1, z47]
        · rcases hnm with h' | ⟨h', L', h'', h3⟩
          · exact h.1 h'.2
          · have := h3.1; omega
      · rw [if_neg n1, bz_ck (by omega), bz_ck (by omega), bz_c30_0 e.tc.1, bz_ck (by omega), n6, bz_bc]
        rcases n4 with h | h
        · refine ⟨x, ?_, step (fun h' => ?_)⟩
          · rw [if_pos h, z47]
          · have := n5.mpr h'.2; omega
        · exact ⟨_, by rw [if_neg (by omega)], Or.inr ⟨by omega, by omega, n3, n5.mp h⟩⟩
    have := main 0 (nm _ (by omega) (by omega))
    rw [show ((r + 1 : Nat) : Int) = (r : Int) + 1 by omega]
    exact this
theorem cz_fnC0 (e : cz_en t N T M hc0 hm0 hc hm) {c s : Int} {L : Nat} (m3 : hc M 3 = c) (c0 : 0 ≤ c) (c4 : c ≤ 4) (hw : cz_wd t s L) (nm : ∀ f : Int, 0 ≤ f → f < c → cz_nm t (hc 32 f) (hm 86 f) (hm 87 f)) : ∃ x, fn_Reader_functionNamed 30 s hc = some (x, hc) ∧ ((x = -1 ∧ ∀ f : Int, 0 ≤ f → f < c → ¬ cz_isf t hm s L f) ∨ (0 ≤ x ∧ x < c ∧ cz_isf t hm s L x)) := by
  obtain ⟨x, h1, h2⟩ := cz_fnC e m3 c4 hw nm c.toNat (3999 - c.toNat) (by omega)
  rw [show c - ((c.toNat : Nat) : Int) = 0 by omega, show 3999 - c.toNat + c.toNat + 1 = qz_NF by unfold qz_NF; omega] at h1
  rw [show c - ((c.toNat : Nat) : Int) = 0 by omega] at h2
  unfold fn_Reader_functionNamed
  rw [bz_bn]
  exact ⟨x, h1, h2⟩
theorem cz_fnM (e : cz_en t N T M hc0 hm0 hc hm) {c s : Int} {L : Nat} (c1 : 1 ≤ c) (c4 : c ≤ 4) (hw : cz_wd t s L) (m34 : hm 67 34 = s) (m35 : hm 67 35 = (L : Int)) (nm : ∀ f : Int, 0 ≤ f → f < c - 1 → cz_nm t (hc 32 f) (hm 86 f) (hm 87 f)) : ∀ (r n : Nat), (r : Int) ≤ c - 1 → ((∃ f : Int, c - 1 - (r : Int) ≤ f ∧ f < c - 1 ∧ cz_isf t hm s L f) → fn_Md_readFunction_42 (n + r + 1) 67 (c - 1) (c - 1 - (r : Int)) hm = some (0, qz_up hm 67 38 1)) ∧ ((∀ f : Int, c - 1 - (r : Int) ≤ f → f < c - 1 → ¬ cz_isf t hm s L f) → fn_Md_readFunction_42 (n + r + 1) 67 (c - 1) (c - 1 - (r : Int)) hm = fn_Md_readFunction_105 67 (c - 1) (qz_up hm 86 (c - 1) s))
  | 0, n, hr => by
    refine ⟨fun ⟨f, f1, f2, _⟩ => by omega, fun _ => ?_⟩
    show fn_Md_readFunction_42_b (fn_Md_readFunction_42 (n + 0)) 67 (c - 1) (c - 1 - ((0 : Nat) : Int)) hm = _
    unfold fn_Md_readFunction_42_b
    rw [if_pos (by omega), bz_m67_24 e.tm.1, bz_ck (by omega), bz_m86_m1 e.tm.1, bz_ck (by omega), bz_bn, m34]
  | r + 1, n, hr => by
    obtain ⟨h1, h2⟩ := cz_fnM e c1 c4 hw m34 m35 nm r n (by omega)
    have Lm := e.tm.1
    have cc : c - 1 - ((r : Int) + 1) + 1 = c - 1 - (r : Int) := by omega
    have z89 : fn_Md_readFunction_89 (fn_Md_readFunction_42 (n + r + 1)) 67 (c - 1) (c - 1 - ((r : Int) + 1)) hm = fn_Md_readFunction_42 (n + r + 1) 67 (c - 1) (c - 1 - (r : Int)) hm := by
      unfold fn_Md_readFunction_89
      rw [bz_w (by omega) (by omega), bz_bn, cc]
    rw [show n + (r + 1) + 1 = (n + r + 1) + 1 by omega, show ((r + 1 : Nat) : Int) = (r : Int) + 1 by omega]
    have hnm := nm (c - 1 - ((r : Int) + 1)) (by omega) (by omega)
    have D : (¬ cz_isf t hm s L (c - 1 - ((r : Int) + 1)) → fn_Md_readFunction_42 ((n + r + 1) + 1) 67 (c - 1) (c - 1 - ((r : Int) + 1)) hm = fn_Md_readFunction_42 (n + r + 1) 67 (c - 1) (c - 1 - (r : Int)) hm) ∧ (cz_isf t hm s L (c - 1 - ((r : Int) + 1)) → fn_Md_readFunction_42 ((n + r + 1) + 1) 67 (c - 1) (c - 1 - ((r : Int) + 1)) hm = some (0, qz_up hm 67 38 1)) := by
      show (_ → fn_Md_readFunction_42_b (fn_Md_readFunction_42 (n + r + 1)) 67 (c - 1) (c - 1 - ((r : Int) + 1)) hm = _) ∧ (_ → fn_Md_readFunction_42_b (fn_Md_readFunction_42 (n + r + 1)) 67 (c - 1) (c - 1 - ((r : Int) + 1)) hm = _)
      unfold fn_Md_readFunction_42_b
      rw [if_neg (by omega), bz_m67_25 Lm, bz_ck (by omega), bz_m87_m1 Lm, bz_ck (by omega), bz_m67_24 Lm, bz_ck (by omega), bz_m86_m1 Lm, bz_ck (by omega), bz_ck (by omega), bz_ck (by omega), m34, m35, z89]
      rcases hnm.cmp e.w e.tc e.tm hw with ⟨n1, n2⟩ | ⟨n1, n2, n3, q, n4, n5, n6, n7⟩
      · refine ⟨fun _ => by rw [if_pos n2], fun h => ?_⟩
        rcases hnm with h' | ⟨h', L', h'', h3⟩
        · exact absurd h'.2 h.1
        · have := h3.1; omega
      · rw [if_neg n2, n7, bz_bc, z89, cz_fail e.w0, bz_bc, bz_ck (by omega)]
        refine ⟨fun h => ?_, fun h => ?_⟩
        · rw [if_pos]
          rcases n4 with h' | h'
          · exact h'
          · exact absurd ⟨n3, n5.mp h'⟩ h
        · rw [if_neg]
          have := n5.mpr h.2
          omega
    constructor
    · rintro ⟨f, f1, f2, f3⟩
      by_cases hh : cz_isf t hm s L (c - 1 - ((r : Int) + 1))
      · exact D.2 hh
      · rw [D.1 hh]
        refine h1 ⟨f, ?_, f2, f3⟩
        by_cases hf : f = c - 1 - ((r : Int) + 1)
        · rw [hf] at f3; exact absurd f3 hh
        · omega
    · intro h
      rw [D.1 (h _ (by omega) (by omega))]
      exact h2 (fun f f1 f2 => h f (by omega) f2)
theorem cz_fnM0 (e : cz_en t N T M hc0 hm0 hc hm) {c s : Int} {L : Nat} (c1 : 1 ≤ c) (c4 : c ≤ 4) (hw : cz_wd t s L) (m34 : hm 67 34 = s) (m35 : hm 67 35 = (L : Int)) (nm : ∀ f : Int, 0 ≤ f → f < c - 1 → cz_nm t (hc 32 f) (hm 86 f) (hm 87 f)) : ((∃ f : Int, 0 ≤ f ∧ f < c - 1 ∧ cz_isf t hm s L f) → fn_Md_readFunction_42 qz_NF 67 (c - 1) 0 hm = some (0, qz_up hm 67 38 1)) ∧ ((∀ f : Int, 0 ≤ f → f < c - 1 → ¬ cz_isf t hm s L f) → fn_Md_readFunction_42 qz_NF 67 (c - 1) 0 hm = fn_Md_readFunction_105 67 (c - 1) (qz_up hm 86 (c - 1) s)) := by
  have h := cz_fnM e c1 c4 hw m34 m35 nm (c - 1).toNat (3999 - (c - 1).toNat) (by omega)
  rw [show c - 1 - (((c - 1).toNat : Nat) : Int) = 0 by omega, show 3999 - (c - 1).toNat + (c - 1).toNat + 1 = qz_NF by unfold qz_NF; omega] at h
  exact h
end SC
