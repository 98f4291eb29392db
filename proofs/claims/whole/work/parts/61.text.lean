/-! Texts: the class's at T, the model's at 71. -/
abbrev bz_ch (c : Int) : Prop := c = 10 ∨ (32 ≤ c ∧ c ≤ 126)
/-- the text of the class (heap hc, object T) and of the model (heap hm) are the same -/
def bz_RT (hc hm : qz_H) (T : Int) : Prop := 0 ≤ hc T 1 ∧ hc T 1 ≤ 320 ∧ hm 67 5 = hc T 1 ∧ ∀ k : Int, 0 ≤ k → k < hc T 1 → hm 71 k = hc (T + 1) k ∧ bz_ch (hc (T + 1) k)
def bz_at (h : qz_H) (T k : Int) : Int := if 0 ≤ k ∧ k < h T 1 then h (T + 1) k else 0
theorem bz_at_eq {h hm : qz_H} (hL : bz_LC h) {T : Int} (hT : T = 2 ∨ T = 4) (hR : bz_RT h hm T) (k : Int) : fn_Text_at T k h = some (bz_at h T k, h) := by
  obtain ⟨e1, e2⟩ := bz_txt hL hT
  obtain ⟨r1, r2, r3, r4⟩ := hR
  unfold fn_Text_at fn_Text_at_28 fn_Text_at_29 bz_at
  by_cases c1 : k < 0
  · rw [if_pos c1, if_neg (by omega)]; rfl
  rw [if_neg c1]
  by_cases c2 : h T 1 ≤ k
  · rw [if_pos c2, if_neg (by omega)]; rfl
  rw [if_neg c2, if_neg (by omega), e1, e2, bz_ck (by omega), bz_ck (by omega), if_pos (by omega)]
  have := (r4 k (by omega) (by omega)).2
  unfold bz_ch at this
  rw [bz_ck (by omega)]
theorem bz_ch_eq {hc hm : qz_H} (hL : bz_LM hm) {T : Int} (hR : bz_RT hc hm T) {k : Int} (hk : 0 ≤ k) : fn_Md_ch 67 k hm = some (bz_at hc T k, hm) := by
  obtain ⟨r1, r2, r3, r4⟩ := hR
  unfold fn_Md_ch fn_Md_ch_18 bz_at
  rw [r3, bz_m67_6 hL, bz_m71_m1 hL]
  by_cases c2 : hc T 1 ≤ k
  · rw [if_pos c2, if_neg (by omega)]
  rw [if_neg c2, bz_ck (by omega), bz_ck (by omega), if_pos (by omega), (r4 k hk (by omega)).1]
theorem bz_character {hc hm : qz_H} (hL : bz_LC hc) (hM : bz_LM hm) (hT : hc 1 4 = 2 ∨ hc 1 4 = 4) (hR : bz_RT hc hm (hc 1 4)) (k : Int) : fn_SA_character 1 k hc = some (bz_at hc (hc 1 4) k, hc) ∧ fn_Md_character 67 k hm = some (bz_at hc (hc 1 4) k, qz_up hm 67 3 0) := by
  have hrg : 0 ≤ bz_at hc (hc 1 4) k ∧ bz_at hc (hc 1 4) k ≤ 65535 := by
    unfold bz_at
    split
    · have := (hR.2.2.2 k (by omega) (by omega)).2
      unfold bz_ch at this
      omega
    · omega
  constructor
  · unfold fn_SA_character
    rw [bz_ck (by omega), bz_at_eq hL hT hR, bz_bc, bz_ck hrg]
  · unfold fn_Md_character fn_Md_character_26 fn_Md_character_27
    rw [bz_ck (by omega), bz_bn, bz_ui (by omega), bz_ui (by omega), bz_m67_6 hM, bz_uo (by omega), bz_uo (by omega), bz_m71_m1 hM]
    obtain ⟨r1, r2, r3, r4⟩ := hR
    unfold bz_at at hrg ⊢
    by_cases c1 : k < 0
    · rw [if_pos c1, if_neg (by omega)]; rfl
    rw [if_neg c1, r3]
    by_cases c2 : hc (hc 1 4) 1 ≤ k
    · rw [if_pos c2, if_neg (by omega)]; rfl
    rw [if_neg c2, if_pos (by omega)] at *
    rw [bz_ck (by omega), bz_ck (by omega), (r4 k (by omega) (by omega)).1, bz_ck (by omega)]
/-- the bytes of a long -/
def bz_by (e : Int) (k : Nat) : Int := qz_and (qz_w (qz_ushJ e (8 * (k : Int)))) 255
theorem bz_and255 (z : Int) : 0 ≤ qz_and z 255 ∧ qz_and z 255 ≤ 255 := by
  unfold qz_and
  have e : (Int32.ofInt z &&& Int32.ofInt 255).toInt = ((Int32.ofInt z &&& Int32.ofInt 255).toBitVec).toInt := rfl
  rw [e]
  have e2 : (Int32.ofInt z &&& Int32.ofInt 255).toBitVec = (Int32.ofInt z).toBitVec &&& 255#32 := rfl
  rw [e2]
  have h : ((Int32.ofInt z).toBitVec &&& 255#32).toNat ≤ 255 := by
    rw [BitVec.toNat_and]
    exact Nat.and_le_right
  rw [BitVec.toInt_eq_toNat_cond]
  split <;> omega
theorem bz_by_rg (e : Int) (k : Nat) : 0 ≤ bz_by e k ∧ bz_by e k ≤ 255 := bz_and255 _
theorem bz_i2c {x : Int} (h1 : 0 ≤ x) (h2 : x ≤ 65535) : qz_i2c x = x := by
  have key : ∀ n : Nat, n < 65536 → ((Int32.ofInt (n : Int)).toUInt32 % 65536).toInt32.toInt = (n : Int) := by
    intro n hn
    have e0 : ((Int32.ofInt (n : Int)).toUInt32 % 65536) = (Int32.ofInt (n : Int)).toUInt32 := by
      apply UInt32.toNat_inj.mp
      rw [UInt32.toNat_mod]
      have : (Int32.ofInt (n : Int)).toUInt32.toNat = n := by
        show (BitVec.ofInt 32 (n : Int)).toNat = n
        rw [BitVec.toNat_ofInt]
        omega
      rw [this]
      exact Nat.mod_eq_of_lt hn
    rw [e0]
    show (BitVec.ofInt 32 (n : Int)).toInt = (n : Int)
    rw [BitVec.toInt_ofInt]
    exact Int.bmod_eq_of_le (by omega) (by omega)
  have := key x.toNat (by omega)
  rw [Int.toNat_of_nonneg h1] at this
  exact this
theorem bz_nc {x : Int} (h1 : 0 ≤ x) (h2 : x ≤ 65535) : qz_nc x = x := by
  have key : ∀ n : Nat, n < 65536 → (Int32.ofInt (n : Int)).toUInt32.toUInt16.toUInt32.toInt32.toInt = (n : Int) := by
    intro n hn
    have e0 : (Int32.ofInt (n : Int)).toUInt32.toUInt16.toUInt32 = (Int32.ofInt (n : Int)).toUInt32 := by
      apply UInt32.toNat_inj.mp
      rw [UInt16.toNat_toUInt32, UInt32.toNat_toUInt16]
      have : (Int32.ofInt (n : Int)).toUInt32.toNat = n := by
        show (BitVec.ofInt 32 (n : Int)).toNat = n
        rw [BitVec.toNat_ofInt]
        omega
      rw [this]
      exact Nat.mod_eq_of_lt hn
    rw [e0]
    show (BitVec.ofInt 32 (n : Int)).toInt = (n : Int)
    rw [BitVec.toInt_ofInt]
    exact Int.bmod_eq_of_le (by omega) (by omega)
  have := key x.toNat (by omega)
  rw [Int.toNat_of_nonneg h1] at this
  exact this
