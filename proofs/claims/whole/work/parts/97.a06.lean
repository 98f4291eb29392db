/-! Which word it is. -/
theorem cz_Weq {t : Int → Int} {s : Int} {L : Nat} {l : List Int} (h1 : l.length = L) (h2 : ∀ i : Nat, i < L → t (s + (i : Int)) = l.getD i 0) : cz_W t s L = l := by
  apply List.ext_getElem (by rw [cz_W_len, h1])
  intro i i1 i2
  have z := h2 i (by omega)
  rw [List.getD_eq_getElem?_getD, List.getElem?_eq_getElem i2] at z
  simp only [cz_W, List.getElem_map, List.getElem_range]
  exact z
def cz_iw : List Nat := [0, 1, 2, 3, 4, 5, 6, 7, 8, 9, 10, 11, 12, 13, 14, 15, 16, 17, 18, 19, 20, 23, 24, 25, 21, 22, 26, 27, 28, 29]
theorem cz_iwd : ∀ l : Nat, l < 30 → cz_iw.getD l 0 < 30 ∧ bz_wo.getD (cz_iw.getD l 0) 0 = l ∧ bz_hd.getD l 0 = cz_pl ((bz_wd (-((cz_iw.getD l 0 : Int) + 1))).take 8) ∧ bz_rt.getD l 0 = cz_pl (((bz_wd (-((cz_iw.getD l 0 : Int) + 1))).drop 8).take 8) ∧ (bz_wd (-((cz_iw.getD l 0 : Int) + 1))).length ≤ 16 ∧ (∀ c ∈ bz_wd (-((cz_iw.getD l 0 : Int) + 1)), 1 ≤ c ∧ c ≤ 255) := by decide +kernel
theorem cz_wow : ∀ j : Nat, j < 30 → bz_wo.getD j 0 < 30 ∧ cz_iw.getD (bz_wo.getD j 0) 0 = j := by decide +kernel
theorem cz_wdi : ∀ i : Nat, i < 30 → ∀ j : Nat, j < 30 → bz_wd (-((i : Int) + 1)) = bz_wd (-((j : Int) + 1)) → i = j := by decide +kernel
/-- the instruction x whose word stands at s -/
def cz_ow (t : Int → Int) (s : Int) (L : Nat) (x : Int) : Prop := (x = 0 ∧ ∀ j : Nat, j < 30 → cz_W t s L ≠ bz_wd (-((j : Int) + 1))) ∨ ∃ j : Nat, j < 30 ∧ x = -((j : Int) + 1) ∧ cz_W t s L = bz_wd (-((j : Int) + 1))
def cz_ix (x : Int) : Int := if x = 0 then -1 else (bz_wo.getD (-x - 1).toNat 0 : Nat)
section SC
variable {t : Int → Int} {N T : Int} {hc hm : qz_H}
theorem cz_isC (w : cz_tt t N) (a : cz_tc t N T hc) {s : Int} {L : Nat} (h : cz_wd t s L) (h1 : hc 34 1 = 2) (h2 : hc 34 2 = s) (h3 : hc 34 3 = s + (L : Int)) {i : Nat} (hi : i < 46) : fn_Scanner_is 34 (-35 - 2 * (i : Int)) hc = some (if cz_W t s L = kz_sb i then 1 else 0, hc) := by
  have hN := cz_wd_N w h
  have wN := w.2.1
  have at34 := a.2.1
  have hT := a.2.2.1
  have h0 := h.1
  unfold fn_Scanner_is fn_Scanner_is_24
  rw [if_neg (by omega), bz_ck (by omega), bz_slen a.1 hi, bz_bc, h3, h2, bz_w (by omega) (by omega), bz_bn]
  by_cases c : (kz_sb i).length = L
  · rw [if_pos (by omega)]
    have lp : ∀ (r n : Nat), r ≤ L → (∀ j : Nat, j < L - r → t (s + (j : Int)) = (kz_sb i).getD j 0) → fn_Scanner_is_28 (n + r + 1) 34 (-35 - 2 * (i : Int)) ((L - r : Nat) : Int) hc = some (if cz_W t s L = kz_sb i then 1 else 0, hc) := by
      intro r
      induction r with
      | zero =>
        intro n _ hp
        show fn_Scanner_is_28_b _ 34 _ _ hc = _
        unfold fn_Scanner_is_28_b
        rw [bz_ck (by omega), bz_slen a.1 hi, bz_bc, if_pos (by omega), bz_ck (by omega), if_pos (cz_Weq c fun j hj => hp j (by omega))]
      | succ r ih =>
        intro n hr hp
        show fn_Scanner_is_28_b (fn_Scanner_is_28 (n + r + 1)) 34 _ _ hc = _
        unfold fn_Scanner_is_28_b
        rw [bz_ck (by omega), bz_slen a.1 hi, bz_bc, if_neg (by omega), at34, bz_ck (by omega), h2, bz_w (by omega) (by omega), cz_tca w a, bz_bc, bz_ck (by omega), bz_cat a.1 hi (by omega), bz_bc]
        by_cases e : t (s + ((L - (r + 1) : Nat) : Int)) = (kz_sb i).getD (L - (r + 1)) 0
        · rw [if_pos e, bz_bn, bz_w (by omega) (by omega), show ((L - (r + 1) : Nat) : Int) + 1 = ((L - r : Nat) : Int) by omega]
          refine ih n (by omega) fun j hj => ?_
          by_cases ej : j = L - (r + 1)
          · rw [ej]; exact e
          · exact hp j (by omega)
        · rw [if_neg e, bz_ck (by omega), if_neg]
          intro z
          apply e
          rw [← z, cz_W_get t s (by omega)]
    have := lp L (3999 - L) (by omega) fun j hj => by omega
    rw [show 3999 - L + L + 1 = qz_NF by unfold qz_NF; omega, show ((L - L : Nat) : Int) = 0 by omega] at this
    exact this
  · rw [if_neg (by omega), bz_ck (by omega), if_neg]
    intro z
    apply c
    rw [← z, cz_W_len]
theorem cz_isC0 (h1 : hc 34 1 ≠ 2) (x : Int) : fn_Scanner_is 34 x hc = some (0, hc) := by
  unfold fn_Scanner_is fn_Scanner_is_24
  rw [if_pos h1, bz_ck (by omega)]
theorem cz_k31 : kz_dt (-31) (-1) = 30 ∧ ∀ j : Nat, j < 30 → kz_dt (-31) (j : Int) = -((j : Int) + 1) := by decide +kernel
theorem cz_fop (a : bz_LC hc) (mt : Nat → Prop) (hmt : ∀ j : Nat, j < 30 → (mt j → fn_Scanner_is 34 (kz_dt (-((j : Int) + 1)) 0) hc = some (1, hc)) ∧ (¬ mt j → fn_Scanner_is 34 (kz_dt (-((j : Int) + 1)) 0) hc = some (0, hc))) : ∃ x, fn_Scanner_findOp 34 hc = some (x, hc) ∧ ((x = 0 ∧ ∀ j : Nat, j < 30 → ¬ mt j) ∨ ∃ j : Nat, j < 30 ∧ x = -((j : Int) + 1) ∧ mt j) := by
  have lp : ∀ (r n : Nat), r ≤ 30 → (∀ j : Nat, j < 30 - r → ¬ mt j) → ∃ x, fn_Scanner_findOp_2 (n + r + 1) 34 ((30 - r : Nat) : Int) hc = some (x, hc) ∧ ((x = 0 ∧ ∀ j : Nat, j < 30 → ¬ mt j) ∨ ∃ j : Nat, j < 30 ∧ x = -((j : Int) + 1) ∧ mt j) := by
    intro r
    induction r with
    | zero =>
      intro n _ hp
      refine ⟨0, ?_, Or.inl ⟨rfl, hp⟩⟩
      show fn_Scanner_findOp_2_b _ 34 _ hc = _
      unfold fn_Scanner_findOp_2_b
      rw [a.2 (-31) (-1) (by omega) (by omega) (by omega) (by omega), cz_k31.1, if_pos (by omega)]
    | succ r ih =>
      intro n hr hp
      have e : fn_Scanner_findOp_2 (n + (r + 1) + 1) 34 ((30 - (r + 1) : Nat) : Int) hc = fn_Scanner_findOp_2_b (fn_Scanner_findOp_2 (n + r + 1)) 34 ((30 - (r + 1) : Nat) : Int) hc := rfl
      rw [e]
      unfold fn_Scanner_findOp_2_b
      have e1 : hc (-31) ((30 - (r + 1) : Nat) : Int) = -(((30 - (r + 1) : Nat) : Int) + 1) := by
        rw [a.2 (-31) _ (by omega) (by omega) (by omega) (by omega)]
        exact cz_k31.2 _ (by omega)
      have e2 : hc (-(((30 - (r + 1) : Nat) : Int) + 1)) 0 = kz_dt (-(((30 - (r + 1) : Nat) : Int) + 1)) 0 := a.2 _ _ (by omega) (by omega) (by omega) (by omega)
      rw [a.2 (-31) (-1) (by omega) (by omega) (by omega) (by omega), cz_k31.1, if_neg (by omega), bz_ck (by omega), e1, bz_ck (by omega), e2]
      by_cases c : mt (30 - (r + 1))
      · rw [(hmt _ (by omega)).1 c, bz_bc, if_neg (by omega), a.2 (-31) (-1) (by omega) (by omega) (by omega) (by omega), cz_k31.1, bz_ck (by omega), e1]
        exact ⟨_, rfl, Or.inr ⟨30 - (r + 1), by omega, rfl, c⟩⟩
      · rw [(hmt _ (by omega)).2 c, bz_bc, if_pos rfl, bz_bn, bz_w (by omega) (by omega), show ((30 - (r + 1) : Nat) : Int) + 1 = ((30 - r : Nat) : Int) by omega]
        refine ih n (by omega) fun j hj => ?_
        by_cases ej : j = 30 - (r + 1)
        · rw [ej]; exact c
        · exact hp j (by omega)
  have z := lp 30 3969 (by omega) fun j hj => by omega
  unfold fn_Scanner_findOp
  rw [bz_bn]
  exact z
theorem cz_sgb (w : cz_tt t N) {s : Int} {L : Nat} (h : cz_wd t s L) : ∀ c ∈ cz_W t s L, 1 ≤ c ∧ c ≤ 255 := by
  intro c hc
  unfold cz_W at hc
  obtain ⟨i, i1, i2⟩ := List.mem_map.mp hc
  have := h.2.2.1 i (List.mem_range.mp i1)
  unfold cz_sg at this
  omega
theorem cz_isM (w : cz_tt t N) {s : Int} {L : Nat} (h : cz_wd t s L) (h1 : hm 67 33 = 3) (h3 : hm 67 35 = (L : Int)) (h6 : hm 67 36 = cz_h1 t s L) (h7 : hm 67 37 = cz_h2 t s L) {l : List Int} {K : Int} {n : Nat} (kn : l.length = n ∧ n ≤ 16 ∧ K = cz_pl (l.take 8) ∧ cz_pl ((l.drop 8).take 8) = 0 ∧ ∀ c ∈ l, 1 ≤ c ∧ c ≤ 255) : fn_Md_is 67 K (n : Int) hm = some (if cz_W t s L = l then 1 else 0, hm) := by
  obtain ⟨k1, k2, k3, k4, k5⟩ := kn
  have e := cz_pl2 (cz_sgb w h) k5
  have hl := cz_W_len t s L
  unfold fn_Md_is fn_Md_is_38 fn_Md_is_39
  rw [if_neg (by omega), h3, h6, h7, bz_ck (by omega), bz_ck (by omega)]
  by_cases c : (L : Int) = (n : Int)
  · have e' := e (by omega) (by omega)
    rw [if_neg (by omega)]
    unfold cz_h1 cz_h2
    have cz : ∀ x y : Int, qz_cmp x y = 0 ↔ x = y := by
      intro x y
      unfold qz_cmp
      split <;> (try split) <;> omega
    by_cases d1 : cz_pl ((cz_W t s L).take 8) = K
    · rw [if_neg (fun z => z ((cz _ _).mpr d1))]
      by_cases d2 : cz_pl (((cz_W t s L).drop 8).take 8) = 0
      · rw [if_neg (fun z => z ((cz _ _).mpr d2)), if_pos (e'.mp ⟨d1.trans k3, d2.trans k4.symm⟩)]
      · rw [if_pos (fun z => d2 ((cz _ _).mp z)), if_neg]
        intro z
        rw [z] at d2
        exact d2 k4
    · rw [if_pos (fun z => d1 ((cz _ _).mp z)), if_neg]
      intro z
      rw [z] at d1
      exact d1 k3.symm
  · rw [if_pos c, if_neg]
    intro z
    rw [z] at hl
    omega
theorem cz_isM0 (h1 : hm 67 33 ≠ 3) (K n : Int) : fn_Md_is 67 K n hm = some (0, hm) := by
  unfold fn_Md_is fn_Md_is_38 fn_Md_is_39
  rw [if_pos h1, bz_ck (by omega)]
end SC
