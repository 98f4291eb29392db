theorem bz_NF : ∀ k : Nat, k ≤ 4000 → qz_NF = (4000 - k) + k := fun k h => by unfold qz_NF; omega
/-- the first loop of type, in the class -/
theorem bz_typeC (e T : Int) (hc : qz_H) (h0 : 0 ≤ hc T 1) (h1 : hc T 1 ≤ 320) : ∀ (k : Nat), k ≤ 7 → ∀ (n : Nat) (m : Int), 0 ≤ m → m + (k : Int) ≤ 50 →
    (bz_ok8 e k → fn_Text_addBytes_6 (n + k + 2) T e m (8 * (k : Int)) hc = if hc T 1 + (m + bz_cn8 e k) ≤ 320 then fn_Text_addBytes_87 qz_NF T e 56 hc else some (0, hc)) ∧ (¬ bz_ok8 e k → fn_Text_addBytes_6 (n + k + 2) T e m (8 * (k : Int)) hc = some (0, hc)) := by
  have step : ∀ (k : Nat), k ≤ 7 → ∀ (n : Nat) (m : Int), 0 ≤ m → m ≤ 100 → fn_Text_addBytes_6 (n + 1) T e m (8 * (k : Int)) hc = if bz_by e k = 0 ∨ bz_ch (bz_by e k) then fn_Text_addBytes_6 n T e (m + if bz_by e k = 0 then 0 else 1) (8 * (k : Int) - 8) hc else some (0, hc) := by
    intro k hk n m m0 m1
    have hrg := bz_by_rg e k
    rw [fn_Text_addBytes_6]
    unfold fn_Text_addBytes_6_b fn_Text_addBytes_50 fn_Text_addBytes_61 fn_Text_addBytes_48
    have e8 : qz_w (8 * (k : Int) + -8) = 8 * (k : Int) - 8 := bz_w (by omega) (by omega)
    have c1 : ¬ 8 * (k : Int) < 0 := by omega
    simp only [bz_bn, if_neg c1, e8, show qz_and (qz_w (qz_ushJ e (8 * (k : Int)))) 255 = bz_by e k from rfl]
    by_cases hz : bz_by e k = 0
    · rw [if_pos hz, if_neg (by omega), if_pos (Or.inl hz), if_pos hz, bz_w (by omega) (by omega)]
    · simp only [if_neg hz]
      rw [if_pos hz, bz_w (by omega) (by omega)]
      unfold bz_ch
      by_cases c10 : bz_by e k = 10
      · rw [if_pos c10, if_pos (by omega)]
      rw [if_neg c10]
      by_cases c32 : bz_by e k < 32
      · rw [if_pos c32, if_neg (by omega)]; rfl
      rw [if_neg c32]
      by_cases c126 : bz_by e k ≤ 126
      · rw [if_pos c126, if_pos (by omega)]
      · rw [if_neg c126, if_neg (by omega)]; rfl
  have fin : ∀ (n : Nat) (m : Int), 0 ≤ m → m ≤ 200 → fn_Text_addBytes_6 (n + 1) T e m (-8) hc = if hc T 1 + m ≤ 320 then fn_Text_addBytes_87 qz_NF T e 56 hc else some (0, hc) := by
    intro n m m0 m1
    rw [fn_Text_addBytes_6]
    unfold fn_Text_addBytes_6_b
    simp only [bz_bn]
    rw [if_pos (by omega), bz_w (by omega) (by omega)]
    rfl
  intro k
  induction k with
  | zero =>
    intro hk n m m0 m1
    rw [show n + 0 + 2 = (n + 1) + 1 from rfl, step 0 hk (n + 1) m m0 (by omega)]
    have e0 : 8 * ((0 : Nat) : Int) - 8 = -8 := by omega
    rw [e0]
    refine ⟨fun ho => ?_, fun ho => if_neg ho⟩
    rw [if_pos (show bz_by e 0 = 0 ∨ bz_ch (bz_by e 0) from ho), fin n _ (by split <;> omega) (by split <;> omega)]
    rfl
  | succ k ih =>
    intro hk n m m0 m1
    rw [show n + (k + 1) + 2 = (n + k + 2) + 1 from by omega, step (k + 1) hk (n + k + 2) m m0 (by omega)]
    have e0 : 8 * ((k + 1 : Nat) : Int) - 8 = 8 * (k : Int) := by omega
    rw [e0]
    obtain ⟨i1, i2⟩ := ih (by omega) n (m + if bz_by e (k + 1) = 0 then 0 else 1) (by split <;> omega) (by split <;> omega)
    constructor
    · intro ho
      unfold bz_ok8 at ho
      rw [if_pos ho.1, i1 ho.2]
      rw [show bz_cn8 e (k + 1) = (if bz_by e (k + 1) = 0 then 0 else 1) + bz_cn8 e k from rfl, ← Int.add_assoc m]
    · intro ho
      unfold bz_ok8 at ho
      by_cases hc1 : bz_by e (k + 1) = 0 ∨ bz_ch (bz_by e (k + 1))
      · rw [if_pos hc1, i2 fun z => ho ⟨hc1, z⟩]
      · rw [if_neg hc1]
theorem bz_typeM (e : Int) (hm : qz_H) (h0 : 0 ≤ hm 67 5) (h1 : hm 67 5 ≤ 320) : ∀ (k : Nat), k ≤ 7 → ∀ (n : Nat) (m g : Int), 0 ≤ m → m + (k : Int) ≤ 50 → (g = 0 ∨ g = 1) →
    (g = 1 → bz_ok8 e k → fn_Md_type_14 (n + k + 2) 67 e m g (8 * (k : Int)) hm = if hm 67 5 + (m + bz_cn8 e k) ≤ 320 then fn_Md_type_110 qz_NF 67 e 56 hm else some (0, hm)) ∧ ((g = 0 ∨ ¬ bz_ok8 e k) → fn_Md_type_14 (n + k + 2) 67 e m g (8 * (k : Int)) hm = some (0, hm)) := by
  have step : ∀ (k : Nat), k ≤ 7 → ∀ (n : Nat) (m g : Int), 0 ≤ m → m ≤ 100 → (g = 0 ∨ g = 1) → fn_Md_type_14 (n + 1) 67 e m g (8 * (k : Int)) hm = fn_Md_type_14 n 67 e (m + if bz_by e k = 0 then 0 else 1) (if g = 1 ∧ (bz_by e k = 0 ∨ bz_ch (bz_by e k)) then 1 else 0) (8 * (k : Int) - 8) hm := by
    intro k hk n m g m0 m1 hg
    have hrg := bz_by_rg e k
    rw [fn_Md_type_14]
    unfold fn_Md_type_14_b fn_Md_type_65 fn_Md_type_61 fn_Md_type_66 fn_Md_type_80
    have e8 : qz_w (8 * (k : Int) + -8) = 8 * (k : Int) - 8 := bz_w (by omega) (by omega)
    have c1 : ¬ 8 * (k : Int) < 0 := by omega
    simp only [bz_bn, if_neg c1, e8, show qz_and (qz_w (qz_ushJ e (8 * (k : Int)))) 255 = bz_by e k from rfl, bz_w (show -2147483648 ≤ m + 1 by omega) (by omega)]
    have key : ∀ x : Int, (if ¬ bz_by e k = 0 then fn_Md_type_14 n 67 e (m + 1) x (8 * (k : Int) - 8) hm else fn_Md_type_14 n 67 e m x (8 * (k : Int) - 8) hm) = fn_Md_type_14 n 67 e (m + if bz_by e k = 0 then 0 else 1) x (8 * (k : Int) - 8) hm := by
      intro x
      by_cases hz : bz_by e k = 0
      · rw [if_neg (by omega), if_pos hz, Int.add_zero]
      · rw [if_pos hz, if_neg hz]
    simp only [key]
    unfold bz_ch
    by_cases cg : g = 0
    · rw [if_pos cg, if_neg (show ¬ (g = 1 ∧ (bz_by e k = 0 ∨ (bz_by e k = 10 ∨ (32 ≤ bz_by e k ∧ bz_by e k ≤ 126)))) by omega)]
    rw [if_neg cg]
    by_cases hz : bz_by e k = 0
    · rw [if_pos hz, if_pos (show g = 1 ∧ (bz_by e k = 0 ∨ (bz_by e k = 10 ∨ (32 ≤ bz_by e k ∧ bz_by e k ≤ 126))) by omega)]
    rw [if_neg hz]
    by_cases c10 : bz_by e k = 10
    · rw [if_pos c10, if_pos (show g = 1 ∧ (bz_by e k = 0 ∨ (bz_by e k = 10 ∨ (32 ≤ bz_by e k ∧ bz_by e k ≤ 126))) by omega)]
    rw [if_neg c10]
    by_cases c32 : bz_by e k < 32
    · rw [if_pos c32, if_neg (show ¬ (g = 1 ∧ (bz_by e k = 0 ∨ (bz_by e k = 10 ∨ (32 ≤ bz_by e k ∧ bz_by e k ≤ 126)))) by omega)]
    rw [if_neg c32]
    by_cases c126 : 126 < bz_by e k
    · rw [if_pos c126, if_neg (show ¬ (g = 1 ∧ (bz_by e k = 0 ∨ (bz_by e k = 10 ∨ (32 ≤ bz_by e k ∧ bz_by e k ≤ 126)))) by omega)]
    · rw [if_neg c126, if_pos (show g = 1 ∧ (bz_by e k = 0 ∨ (bz_by e k = 10 ∨ (32 ≤ bz_by e k ∧ bz_by e k ≤ 126))) by omega)]
  have fin : ∀ (n : Nat) (m g : Int), 0 ≤ m → m ≤ 200 → fn_Md_type_14 (n + 1) 67 e m g (-8) hm = if g = 0 then some (0, hm) else if hm 67 5 + m ≤ 320 then fn_Md_type_110 qz_NF 67 e 56 hm else some (0, hm) := by
    intro n m g m0 m1
    rw [fn_Md_type_14]
    unfold fn_Md_type_14_b fn_Md_type_104
    simp only [bz_bn]
    rw [if_pos (by omega), bz_w (by omega) (by omega)]
    rfl
  intro k
  induction k with
  | zero =>
    intro hk n m g m0 m1 hg
    rw [show n + 0 + 2 = (n + 1) + 1 from rfl, step 0 hk (n + 1) m g m0 (by omega) hg]
    have e0 : 8 * ((0 : Nat) : Int) - 8 = -8 := by omega
    rw [e0, fin n _ _ (by split <;> omega) (by split <;> omega)]
    constructor
    · intro g1 ho
      rw [if_pos (show g = 1 ∧ (bz_by e 0 = 0 ∨ bz_ch (bz_by e 0)) from ⟨g1, ho⟩), if_neg (by omega)]
      rfl
    · intro ho
      rw [if_neg (show ¬ (g = 1 ∧ (bz_by e 0 = 0 ∨ bz_ch (bz_by e 0))) from fun z => ho.elim (fun w => by omega) (fun w => w z.2)), if_pos rfl]
  | succ k ih =>
    intro hk n m g m0 m1 hg
    rw [show n + (k + 1) + 2 = (n + k + 2) + 1 from by omega, step (k + 1) hk (n + k + 2) m g m0 (by omega) hg]
    have e0 : 8 * ((k + 1 : Nat) : Int) - 8 = 8 * (k : Int) := by omega
    rw [e0]
    obtain ⟨i1, i2⟩ := ih (by omega) n (m + if bz_by e (k + 1) = 0 then 0 else 1) (if g = 1 ∧ (bz_by e (k + 1) = 0 ∨ bz_ch (bz_by e (k + 1))) then 1 else 0) (by split <;> omega) (by split <;> omega) (by split <;> omega)
    constructor
    · intro g1 ho
      unfold bz_ok8 at ho
      rw [i1 (if_pos ⟨g1, ho.1⟩) ho.2]
      rw [show bz_cn8 e (k + 1) = (if bz_by e (k + 1) = 0 then 0 else 1) + bz_cn8 e k from rfl, ← Int.add_assoc m]
    · intro ho
      apply i2
      by_cases hq : g = 1 ∧ (bz_by e (k + 1) = 0 ∨ bz_ch (bz_by e (k + 1)))
      · refine Or.inr fun z => ?_
        rcases ho with ho | ho
        · omega
        · exact ho ⟨hq.2, z⟩
      · exact Or.inl (if_neg hq)
/-- type: both answer the same, and the texts stay the same -/
theorem bz_type {hc hm : qz_H} (hL : bz_LC hc) (hM : bz_LM hm) {T : Int} (hT : T = 2 ∨ T = 4) (h14 : hc 1 4 = T) (hR : bz_RT hc hm T) (e : Int) : ∃ r hc' hm', fn_SA_type 1 e hc = some (r, hc') ∧ fn_Md_type 67 e hm = some (r, hm') ∧ bz_LC hc' ∧ bz_LM hm' ∧ bz_RT hc' hm' T ∧ (∀ o i : Int, o ≠ T → o ≠ T + 1 → hc' o i = hc o i) ∧ (∀ o i : Int, o ≠ 67 → o ≠ 71 → hm' o i = hm o i) ∧ (∀ i : Int, i ≠ 3 → i ≠ 5 → hm' 67 i = hm 67 i) := by
  obtain ⟨r1, r2, r3, r4⟩ := id hR
  have hM3 : bz_LM (qz_up hm 67 3 0) := bz_LM_up (a := 67) (b := 67) (c := 3) (e := 5) (by decide +kernel) (by omega) (by omega) (by omega) (by omega) hM
  have hR3 : bz_RT hc (qz_up hm 67 3 0) T := ⟨r1, r2, by rw [bz_ui (by omega)]; exact r3, fun k k1 k2 => by rw [bz_uo (by omega)]; exact r4 k k1 k2⟩
  have e5 : qz_up hm 67 3 0 67 5 = hc T 1 := by rw [bz_ui (by omega)]; exact r3
  have ec : ∀ x, fn_Text_addBytes T e hc = x → (x = none → False) → (∀ r hc', x = some (r, hc') → r = 0 ∨ r = 1) → fn_SA_type 1 e hc = x := by
    intro x hx hn hr
    unfold fn_SA_type
    rw [h14, bz_ck (by omega), hx]
    cases x with
    | none => exact absurd rfl hn
    | some q =>
      obtain ⟨r, hc'⟩ := q
      rw [bz_bc, bz_ck (hr r hc' rfl)]
  have em : fn_Md_type 67 e hm = fn_Md_type_14 qz_NF 67 e 0 1 56 (qz_up hm 67 3 0) := by
    unfold fn_Md_type
    rw [bz_ck (by omega)]
    rfl
  have ec2 : fn_Text_addBytes T e hc = fn_Text_addBytes_6 qz_NF T e 0 56 hc := rfl
  obtain ⟨a1, a2⟩ := bz_typeC e T hc r1 r2 7 (by omega) 3991 0 (by omega) (by omega)
  obtain ⟨b1, b2⟩ := bz_typeM e (qz_up hm 67 3 0) (by omega) (by omega) 7 (by omega) 3991 0 1 (by omega) (by omega) (Or.inr rfl)
  have efl : ∀ i : Int, i ≠ 3 → i ≠ 5 → qz_up hm 67 3 0 67 i = hm 67 i := fun i i1 _ => bz_ui i1
  have eot : ∀ o i : Int, o ≠ 67 → o ≠ 71 → qz_up hm 67 3 0 o i = hm o i := fun o i i1 _ => bz_uo i1
  by_cases ho : bz_ok8 e 7
  · have a := a1 ho
    have b := b1 rfl ho
    rw [e5] at b
    have hcg := bz_cn8_rg e 7
    by_cases hs : hc T 1 + (0 + bz_cn8 e 7) ≤ 320
    · rw [if_pos hs] at a b
      obtain ⟨hc', hm', f1, f2, f3, f4, f5, f6, f7, f8⟩ := bz_type2 e T hT 7 (by omega) 3991 hc (qz_up hm 67 3 0) hL hM3 hR3 (by omega) ho
      have f1' : fn_Text_addBytes_6 qz_NF T e 0 56 hc = some (1, hc') := a.trans f1
      have f2' : fn_Md_type_14 qz_NF 67 e 0 1 56 (qz_up hm 67 3 0) = some (1, hm') := b.trans f2
      refine ⟨1, hc', hm', ec _ (ec2.trans f1') (by intro z; cases z) (by intro r q z; cases z; exact Or.inr rfl), em.trans f2', f3, f4, f5, f6, fun o i i1 i2 => (f7 o i i1 i2).trans (eot o i i1 i2), fun i i1 i2 => (f8 i i2).trans (efl i i1 i2)⟩
    · rw [if_neg hs] at a b
      exact ⟨0, hc, _, ec _ (ec2.trans a) (by intro z; cases z) (by intro r q z; cases z; exact Or.inl rfl), em.trans b, hL, hM3, hR3, fun _ _ _ _ => rfl, eot, efl⟩
  · exact ⟨0, hc, _, ec _ (ec2.trans (a2 ho)) (by intro z; cases z) (by intro r q z; cases z; exact Or.inl rfl), em.trans (b2 (Or.inr ho)), hL, hM3, hR3, fun _ _ _ _ => rfl, eot, efl⟩
