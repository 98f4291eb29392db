/-! What the class prints: lists of characters. -/
def bz_wt (t : Int) : List Int := if t = 1 then kz_sb 5 else kz_sb 6
def bz_r3 (op : List Int) (P : qz_H) (f a b : Int) : List Int := if a < b then op ++ (bz_fl (fun k => 32 :: bz_wt (P 7 (8 * f + k))) a (b - a).toNat ++ [41]) else []
def bz_rs (t : Int) : List Int := kz_sb 13 ++ (bz_wt t ++ [41])
def bz_wd (x : Int) : List Int := kz_sb (kz_opw.getD (-x - 1).toNat 0)
def bz_inl (P : qz_H) (i : Int) : List Int := 32 :: (bz_wd (P 8 i) ++ (if kz_dt (P 8 i) 2 = 0 then [] else if kz_dt (P 8 i) 2 = 1 then (if P 6 i = 0 then [] else 32 :: bz_rs (P 6 i)) else 32 :: bz_num (P 6 i)))
def bz_fnl (P : qz_H) (f : Int) : List Int := kz_sb 11 ++ (bz_r3 (kz_sb 12) P f 0 (P 1 f) ++ ((if P 3 f = 0 then [] else bz_rs (P 3 f)) ++ (bz_r3 (kz_sb 14) P f (P 1 f) (P 2 f) ++ (bz_fl (bz_inl P) (P 4 f) (P 4 (f + 1) - P 4 f).toNat ++ [41]))))
def bz_prt (P : qz_H) : List Int := kz_sb 10 ++ (bz_fl (bz_fnl P) 0 (P 0 0).toNat ++ [41])
abbrev bz_aps (h : qz_H) (T : Int) (l : List Int) : qz_H := bz_gs h T 1 (T + 1) l
theorem bz_ap_gp (h : qz_H) (T c : Int) : bz_ap h T c = bz_gp h T 1 (T + 1) c := rfl
theorem bz_aps_L {T : Int} (hT : T = 2 ∨ T = 4) : ∀ (l : List Int) (h : qz_H), 0 ≤ h T 1 → bz_LC h → bz_LC (bz_aps h T l)
  | [], _, _, hL => hL
  | c :: l, h, h0, hL => bz_aps_L hT l (bz_ap h T c) (by rw [bz_ap_n]; omega) (bz_ap_L hT h0 hL)
theorem bz_wt_len (t : Int) : (bz_wt t).length = 3 := by
  unfold bz_wt
  split <;> rfl
theorem bz_sb_len (i : Nat) : (kz_sb i).length ≤ 30 := by
  by_cases hi : i < 46
  · have z : ∀ i, i < 46 → (kz_sb i).length ≤ 30 := by decide +kernel
    exact z i hi
  · have e : kz_sb i = [] := by
      unfold kz_sb
      have hl : kz_stb.length = 46 := by decide +kernel
      rw [List.getD_eq_getElem?_getD, List.getElem?_eq_none (by omega)]
      rfl
    rw [e]
    exact Nat.zero_le _
theorem bz_rs_len (t : Int) : (bz_rs t).length = 12 := by
  unfold bz_rs
  rw [List.length_append, List.length_append, bz_wt_len]
  rfl
theorem bz_inl_len (P : qz_H) (i : Int) : (bz_inl P i).length ≤ 60 := by
  unfold bz_inl bz_wd
  have h1 := bz_sb_len (kz_opw.getD (-P 8 i - 1).toNat 0)
  have h2 := bz_num_len (P 6 i)
  have h3 := bz_rs_len (P 6 i)
  rw [List.length_cons, List.length_append]
  split
  · simp only [List.length_nil]; omega
  split
  · split
    · simp only [List.length_nil]; omega
    · rw [List.length_cons]; omega
  · rw [List.length_cons]; omega
theorem bz_r3_len {op : List Int} (ho : op.length ≤ 30) (P : qz_H) (f : Int) {a b : Int} (h0 : 0 ≤ a) (hb : b ≤ 8) : (bz_r3 op P f a b).length ≤ 80 := by
  unfold bz_r3
  split
  · have := bz_fl_len (g := fun k => 32 :: bz_wt (P 7 (8 * f + k))) (B := 4) (fun k => by rw [List.length_cons, bz_wt_len]; exact Nat.le_refl _) (b - a).toNat a
    rw [List.length_append, List.length_append, List.length_singleton]
    omega
  · simp
theorem bz_fnl_len {P : qz_H} {f : Int} (hf : bz_fok P f) : (bz_fnl P f).length ≤ 5000 := by
  obtain ⟨x1, x2, x3, x4, x5, x6, x7, x8, x9, x10, x11⟩ := hf
  unfold bz_fnl
  have h1 := bz_r3_len (bz_sb_len 12) P f (show (0 : Int) ≤ 0 by omega) (show P 1 f ≤ 8 by omega)
  have h2 := bz_r3_len (bz_sb_len 14) P f x1 x4
  have h3 := bz_fl_len (bz_inl_len P) (P 4 (f + 1) - P 4 f).toNat (P 4 f)
  have h4 := bz_sb_len 11
  have h5 : (if P 3 f = 0 then [] else bz_rs (P 3 f)).length ≤ 12 := by
    split
    · simp
    · rw [bz_rs_len]; exact Nat.le_refl _
  simp only [List.length_append, List.length_singleton]
  omega
/-- a string of the constants, by its bytes -/
theorem bz_str {h : qz_H} (hL : bz_LC h) {i : Nat} (hi : i < 46) : h (-35 - 2 * (i : Int)) 0 = -36 - 2 * (i : Int) ∧ h (-35 - 2 * (i : Int)) 1 = 0 ∧ h (-36 - 2 * (i : Int)) (-1) = (kz_sb i).length ∧ ∀ k : Nat, k < (kz_sb i).length → h (-36 - 2 * (i : Int)) (k : Int) = (kz_sb i).getD k 0 := by
  have e1 : ((-36 - (-36 - 2 * (i : Int))) / 2).toNat = i := by omega
  refine ⟨?_, ?_, ?_, fun k hk => ?_⟩
  · rw [hL.2 _ _ (by omega) (by omega) (by omega) (by omega)]
    unfold kz_dt
    rw [if_neg (by omega), if_neg (by omega), if_neg (by omega), if_neg (by omega), if_pos (by omega), if_neg (by omega), if_pos rfl]
    omega
  · rw [hL.2 _ _ (by omega) (by omega) (by omega) (by omega)]
    unfold kz_dt
    rw [if_neg (by omega), if_neg (by omega), if_neg (by omega), if_neg (by omega), if_pos (by omega), if_neg (by omega), if_neg (by omega)]
  · rw [hL.2 _ _ (by omega) (by omega) (by omega) (by omega)]
    unfold kz_dt
    rw [if_neg (by omega), if_neg (by omega), if_neg (by omega), if_neg (by omega), if_neg (by omega), if_pos rfl, e1]
  · rw [hL.2 _ _ (by omega) (by omega) (by omega) (by omega)]
    unfold kz_dt
    rw [if_neg (by omega), if_neg (by omega), if_neg (by omega), if_neg (by omega), if_neg (by omega), if_neg (by omega), if_neg (by omega), e1]
    rfl
theorem bz_sb_rg : ∀ i, i < 46 → ∀ k, k < (kz_sb i).length → 32 ≤ (kz_sb i).getD k 0 ∧ (kz_sb i).getD k 0 ≤ 126 := by decide +kernel
theorem bz_slen {h : qz_H} (hL : bz_LC h) {i : Nat} (hi : i < 46) : fn_String_length (-35 - 2 * (i : Int)) h = some (((kz_sb i).length : Int), h) := by
  obtain ⟨s1, s2, s3, s4⟩ := bz_str hL hi
  have hl := bz_sb_len i
  unfold fn_String_length fn_String_coder fn_String_coder_14
  rw [s1, s2, s3, if_neg (by omega), bz_ck (by omega), bz_ck (by omega), bz_bc]
  have z : ∀ n : Nat, n < 31 → qz_shr (n : Int) 0 = (n : Int) := by decide +kernel
  rw [z _ (by omega)]
theorem bz_and_id : ∀ c : Nat, c < 128 → qz_i2c (qz_and (c : Int) 255) = (c : Int) := by decide +kernel
theorem bz_cat {h : qz_H} (hL : bz_LC h) {i : Nat} (hi : i < 46) {k : Nat} (hk : k < (kz_sb i).length) : fn_String_charAt (-35 - 2 * (i : Int)) (k : Int) h = some ((kz_sb i).getD k 0, h) := by
  obtain ⟨s1, s2, s3, s4⟩ := bz_str hL hi
  have hr := bz_sb_rg i hi k hk
  have e : qz_i2c (qz_and ((kz_sb i).getD k 0) 255) = (kz_sb i).getD k 0 := by
    have := bz_and_id ((kz_sb i).getD k 0).toNat (by omega)
    rw [Int.toNat_of_nonneg (by omega)] at this
    exact this
  have e1 : fn_String_isLatin1 (-35 - 2 * (i : Int)) h = some (1, h) := by
    unfold fn_String_isLatin1 fn_String_isLatin1_17 fn_String_isLatin1_18
    rw [if_neg (by omega), s2, if_neg (by omega), bz_ck (by omega)]
  have e2 : fn_StringLatin1_charAt (-36 - 2 * (i : Int)) (k : Int) h = some ((kz_sb i).getD k 0, h) := by
    unfold fn_StringLatin1_charAt fn_String_checkIndex fn_Preconditions_checkIndex
    rw [s3, if_neg (by omega), if_pos (by omega)]
    simp only [bz_bc]
    rw [s3, s4 k hk, e, bz_ck (by omega), bz_ck (by omega), bz_ck (by omega), bz_ck (by omega)]
  unfold fn_String_charAt
  rw [e1, bz_bc, if_neg (by omega), s1, e2, bz_bc, bz_ck (by omega)]
theorem bz_addAll {T : Int} (hT : T = 2 ∨ T = 4) {i : Nat} (hi : i < 46) {h : qz_H} (hL : bz_LC h) (h0 : 0 ≤ h T 1) (h1 : h T 1 ≤ 50000) : fn_Text_addAll T (-35 - 2 * (i : Int)) h = some (0, bz_aps h T (kz_sb i)) := by
  have hl := bz_sb_len i
  have key : ∀ (m : Nat) (k n : Nat) (h : qz_H), bz_LC h → 0 ≤ h T 1 → h T 1 + m ≤ 60000 → k + m = (kz_sb i).length → fn_Text_addAll_2 (n + m + 1) T (-35 - 2 * (i : Int)) (k : Int) h = some (0, bz_aps h T ((kz_sb i).drop k)) := by
    intro m
    induction m with
    | zero =>
      intro k n h hL h0 h1 hm
      rw [fn_Text_addAll_2]
      unfold fn_Text_addAll_2_b
      rw [bz_ck (by omega), bz_slen hL hi, bz_bc, if_pos (by omega), List.drop_of_length_le (by omega)]
      rfl
    | succ m ih =>
      intro k n h hL h0 h1 hm
      have hk : k < (kz_sb i).length := by omega
      have hr := bz_sb_rg i hi k hk
      rw [show n + (m + 1) + 1 = (n + m + 1) + 1 from by omega, fn_Text_addAll_2]
      unfold fn_Text_addAll_2_b
      rw [bz_ck (by omega), bz_slen hL hi, bz_bc, if_neg (by omega), bz_ck (by omega), bz_cat hL hi hk, bz_bc, bz_add_eq hL hT h0 (by omega) (by omega) (by omega), bz_bc, bz_bn, bz_w (by omega) (by omega)]
      have e : (k : Int) + 1 = ((k + 1 : Nat) : Int) := by omega
      rw [e, ih (k + 1) n _ (bz_ap_L hT h0 hL) (by rw [bz_ap_n]; omega) (by rw [bz_ap_n]; omega) (by omega)]
      rw [List.drop_eq_getElem_cons hk]
      have e2 : (kz_sb i).getD k 0 = (kz_sb i)[k] := by rw [List.getD_eq_getElem?_getD, List.getElem?_eq_getElem hk]; rfl
      rw [e2]
      rfl
  unfold fn_Text_addAll
  rw [bz_bn]
  have := key (kz_sb i).length 0 (3999 - (kz_sb i).length) h hL h0 (by omega) (by omega)
  rw [show 3999 - (kz_sb i).length + (kz_sb i).length + 1 = qz_NF from by unfold qz_NF; omega] at this
  exact this
