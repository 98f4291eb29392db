/-- one character more -/
def bz_ap (h : qz_H) (T c : Int) : qz_H := qz_up (if h T 1 < 320 then qz_up h (T + 1) (h T 1) c else h) T 1 (h T 1 + 1)
theorem bz_ap_o {h : qz_H} {T c a b : Int} (h1 : a ≠ T) (h2 : a ≠ T + 1) : bz_ap h T c a b = h a b := by
  unfold bz_ap
  rw [bz_uo h1]
  split
  · rw [bz_uo h2]
  · rfl
theorem bz_ap_n (h : qz_H) (T c : Int) : bz_ap h T c T 1 = h T 1 + 1 := bz_us _ _ _ _
theorem bz_ap_t {h : qz_H} {T c b : Int} (hb : b ≠ 1) : bz_ap h T c T b = h T b := by
  unfold bz_ap
  rw [bz_ui hb]
  split
  · rw [bz_uo (by omega)]
  · rfl
theorem bz_ap_c {h : qz_H} {T c k : Int} : bz_ap h T c (T + 1) k = if k = h T 1 ∧ k < 320 then c else h (T + 1) k := by
  unfold bz_ap
  rw [bz_uo (by omega)]
  by_cases hk : k = h T 1 ∧ k < 320
  · rw [if_pos (by omega), if_pos hk, hk.1, bz_us]
  · rw [if_neg hk]
    split
    · rw [bz_ui (by omega)]
    · rfl
theorem bz_ap_L {h : qz_H} {T c : Int} (hT : T = 2 ∨ T = 4) (h0 : 0 ≤ h T 1) (hL : bz_LC h) : bz_LC (bz_ap h T c) := by
  unfold bz_ap
  have hL1 : bz_LC (if h T 1 < 320 then qz_up h (T + 1) (h T 1) c else h) := by
    split
    · rcases hT with rfl | rfl
      · exact bz_LC_up (a := 3) (b := 3) (c := 0) (e := 320) (by decide +kernel) (by omega) (by omega) (by omega) (by omega) (by omega) hL
      · exact bz_LC_up (a := 5) (b := 5) (c := 0) (e := 320) (by decide +kernel) (by omega) (by omega) (by omega) (by omega) (by omega) hL
    · exact hL
  rcases hT with rfl | rfl
  · exact bz_LC_up (a := 2) (b := 2) (c := 1) (e := 1) (by decide +kernel) (by omega) (by omega) (by omega) (by omega) (by omega) hL1
  · exact bz_LC_up (a := 4) (b := 4) (c := 1) (e := 1) (by decide +kernel) (by omega) (by omega) (by omega) (by omega) (by omega) hL1
theorem bz_add_eq {h : qz_H} (hL : bz_LC h) {T : Int} (hT : T = 2 ∨ T = 4) (h0 : 0 ≤ h T 1) (h1 : h T 1 < 100000) {c : Int} (c0 : 0 ≤ c) (c1 : c ≤ 65535) : fn_Text_add T c h = some (0, bz_ap h T c) := by
  obtain ⟨e1, e2⟩ := bz_txt hL hT
  unfold fn_Text_add fn_Text_add_27 bz_ap
  rw [if_neg (by omega)]
  by_cases c2 : h T 1 < 320
  · rw [if_neg (by omega), if_pos c2, e1, e2, bz_ck (by omega), bz_ck (by omega), bz_bn, bz_ck (by omega), bz_bn, bz_nc c0 c1, bz_uo (by omega), bz_w (by omega) (by omega)]
  · rw [if_pos (by omega), if_neg c2, bz_ck (by omega), bz_bn, bz_w (by omega) (by omega)]
/-- the model's text, one character more -/
def bz_apm (h : qz_H) (c : Int) : qz_H := qz_up (qz_up h 71 (h 67 5) c) 67 5 (h 67 5 + 1)
theorem bz_apm_o {h : qz_H} {c a b : Int} (h1 : a ≠ 67) (h2 : a ≠ 71) : bz_apm h c a b = h a b := by
  unfold bz_apm
  rw [bz_uo h1, bz_uo h2]
theorem bz_apm_7 {h : qz_H} {c b : Int} (hb : b ≠ 5) : bz_apm h c 67 b = h 67 b := by
  unfold bz_apm
  rw [bz_ui hb, bz_uo (by omega)]
theorem bz_apm_L {h : qz_H} {c : Int} (h0 : 0 ≤ h 67 5) (h1 : h 67 5 ≤ 320) (hL : bz_LM h) : bz_LM (bz_apm h c) :=
  bz_LM_up (a := 67) (b := 67) (c := 5) (e := 5) (by decide +kernel) (by omega) (by omega) (by omega) (by omega) (bz_LM_up (a := 71) (b := 71) (c := 0) (e := 320) (by decide +kernel) (by omega) (by omega) (by omega) (by omega) hL)
theorem bz_RT_ap {hc hm : qz_H} {T c : Int} (hR : bz_RT hc hm T) (hn : hc T 1 < 320) (hc1 : bz_ch c) : bz_RT (bz_ap hc T c) (bz_apm hm c) T := by
  obtain ⟨r1, r2, r3, r4⟩ := hR
  refine ⟨by rw [bz_ap_n]; omega, by rw [bz_ap_n]; omega, ?_, fun k k1 k2 => ?_⟩
  · rw [bz_ap_n]
    unfold bz_apm
    rw [bz_us, r3]
  · rw [bz_ap_n] at k2
    rw [bz_ap_c]
    unfold bz_apm
    rw [bz_uo (by omega)]
    by_cases hk : k = hc T 1
    · rw [if_pos (by omega), hk, ← r3, bz_us]
      exact ⟨rfl, hc1⟩
    · rw [if_neg (by omega), bz_ui (by omega)]
      exact r4 k k1 (by omega)
def bz_ok8 (e : Int) : Nat → Prop
  | 0 => bz_by e 0 = 0 ∨ bz_ch (bz_by e 0)
  | k + 1 => (bz_by e (k + 1) = 0 ∨ bz_ch (bz_by e (k + 1))) ∧ bz_ok8 e k
def bz_cn8 (e : Int) : Nat → Int
  | 0 => if bz_by e 0 = 0 then 0 else 1
  | k + 1 => (if bz_by e (k + 1) = 0 then 0 else 1) + bz_cn8 e k
theorem bz_cn8_rg (e : Int) : ∀ k : Nat, 0 ≤ bz_cn8 e k ∧ bz_cn8 e k ≤ k + 1
  | 0 => by unfold bz_cn8; split <;> omega
  | k + 1 => by
    have := bz_cn8_rg e k
    unfold bz_cn8
    split <;> omega
/-- both second loops of type -/
theorem bz_type2 (e T : Int) (hT : T = 2 ∨ T = 4) : ∀ (k : Nat), k ≤ 7 → ∀ (n : Nat) (hc hm : qz_H), bz_LC hc → bz_LM hm → bz_RT hc hm T → hc T 1 + bz_cn8 e k ≤ 320 → bz_ok8 e k →
    ∃ hc' hm', fn_Text_addBytes_87 (n + k + 2) T e (8 * (k : Int)) hc = some (1, hc') ∧ fn_Md_type_110 (n + k + 2) 67 e (8 * (k : Int)) hm = some (1, hm') ∧ bz_LC hc' ∧ bz_LM hm' ∧ bz_RT hc' hm' T ∧ (∀ o i : Int, o ≠ T → o ≠ T + 1 → hc' o i = hc o i) ∧ (∀ o i : Int, o ≠ 67 → o ≠ 71 → hm' o i = hm o i) ∧ (∀ i : Int, i ≠ 5 → hm' 67 i = hm 67 i) := by
  have ec : ∀ (n : Nat) (hc : qz_H), fn_Text_addBytes_87 (n + 1) T e (-8) hc = some (1, hc) := by
    intro n hc
    rw [fn_Text_addBytes_87]
    unfold fn_Text_addBytes_87_b
    rw [if_pos (by omega)]
    rfl
  have em : ∀ (n : Nat) (hm : qz_H), fn_Md_type_110 (n + 1) 67 e (-8) hm = some (1, hm) := by
    intro n hm
    rw [fn_Md_type_110]
    unfold fn_Md_type_110_b
    rw [if_pos (by omega)]
    rfl
  have step : ∀ (k : Nat), k ≤ 7 → ∀ (n : Nat) (hc hm : qz_H), bz_LC hc → bz_LM hm → bz_RT hc hm T → hc T 1 + (if bz_by e k = 0 then 0 else 1) ≤ 320 → (bz_by e k = 0 ∨ bz_ch (bz_by e k)) →
      ∃ hc' hm', fn_Text_addBytes_87 (n + 1) T e (8 * (k : Int)) hc = fn_Text_addBytes_87 n T e (8 * (k : Int) - 8) hc' ∧ fn_Md_type_110 (n + 1) 67 e (8 * (k : Int)) hm = fn_Md_type_110 n 67 e (8 * (k : Int) - 8) hm' ∧ bz_LC hc' ∧ bz_LM hm' ∧ bz_RT hc' hm' T ∧ hc' T 1 = hc T 1 + (if bz_by e k = 0 then 0 else 1) ∧ (∀ o i : Int, o ≠ T → o ≠ T + 1 → hc' o i = hc o i) ∧ (∀ o i : Int, o ≠ 67 → o ≠ 71 → hm' o i = hm o i) ∧ (∀ i : Int, i ≠ 5 → hm' 67 i = hm 67 i) := by
    intro k hk n hc hm hL hM hR hn ho
    have hrg := bz_by_rg e k
    rw [fn_Text_addBytes_87, fn_Md_type_110]
    unfold fn_Text_addBytes_87_b fn_Md_type_110_b fn_Text_addBytes_115 fn_Md_type_153
    have e8 : qz_w (8 * (k : Int) + -8) = 8 * (k : Int) - 8 := bz_w (by omega) (by omega)
    have c1 : ¬ 8 * (k : Int) < 0 := by omega
    obtain ⟨r1, r2, r3, r4⟩ := id hR
    simp only [bz_bn, if_neg c1, e8, show qz_and (qz_w (qz_ushJ e (8 * (k : Int)))) 255 = bz_by e k from rfl]
    by_cases hz : bz_by e k = 0
    · simp only [if_pos hz]
      exact ⟨hc, hm, rfl, rfl, hL, hM, hR, by omega, fun _ _ _ _ => rfl, fun _ _ _ _ => rfl, fun _ _ => rfl⟩
    · rw [if_neg hz] at hn
      have hch := ho.resolve_left hz
      have e2 : qz_w (qz_up hm 71 (hm 67 5) (bz_by e k) 67 5 + 1) = hm 67 5 + 1 := by rw [bz_uo (by omega), bz_w (by omega) (by omega)]
      simp only [if_neg hz, bz_i2c (show 0 ≤ bz_by e k by omega) (by omega), bz_nc (show 0 ≤ bz_by e k by omega) (by omega), bz_add_eq hL hT r1 (by omega) (show 0 ≤ bz_by e k by omega) (by omega), bz_bc, bz_m67_6 hM, bz_m71_m1 hM]
      rw [bz_ck (by omega), bz_ck (by omega), bz_ck (by omega), e2]
      exact ⟨_, _, rfl, rfl, bz_ap_L hT r1 hL, bz_apm_L (by omega) (by omega) hM, bz_RT_ap hR (by omega) hch, bz_ap_n _ _ _, fun _ _ h1 h2 => bz_ap_o h1 h2, fun _ _ h1 h2 => bz_apm_o h1 h2, fun _ h1 => bz_apm_7 h1⟩
  intro k
  induction k with
  | zero =>
    intro hk n hc hm hL hM hR hn ho
    obtain ⟨hc', hm', f1, f2, f3, f4, f5, f6, f7, f8, f9⟩ := step 0 hk (n + 1) hc hm hL hM hR hn ho
    have e0 : 8 * ((0 : Nat) : Int) - 8 = -8 := by omega
    rw [e0, ec] at f1
    rw [e0, em] at f2
    exact ⟨hc', hm', f1, f2, f3, f4, f5, f7, f8, f9⟩
  | succ k ih =>
    intro hk n hc hm hL hM hR hn ho
    have hcg := bz_cn8_rg e k
    unfold bz_cn8 at hn
    unfold bz_ok8 at ho
    obtain ⟨hc', hm', f1, f2, f3, f4, f5, f6, f7, f8, f9⟩ := step (k + 1) hk (n + k + 2) hc hm hL hM hR (by omega) ho.1
    have e0 : 8 * ((k + 1 : Nat) : Int) - 8 = 8 * (k : Int) := by omega
    rw [e0] at f1 f2
    obtain ⟨hc2, hm2, g1, g2, g3, g4, g5, g6, g7, g8⟩ := ih (by omega) n hc' hm' f3 f4 f5 (by omega) ho.2
    exact ⟨hc2, hm2, f1.trans g1, f2.trans g2, g3, g4, g5, fun o i h1 h2 => (g6 o i h1 h2).trans (f7 o i h1 h2), fun o i h1 h2 => (g7 o i h1 h2).trans (f8 o i h1 h2), fun i h1 => (g8 i h1).trans (f9 i h1)⟩
