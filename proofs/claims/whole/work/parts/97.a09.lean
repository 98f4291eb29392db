/-! Names. -/
theorem cz_un {h : qz_H} {o i v a b : Int} (n : ¬ (a = o ∧ b = i)) : qz_up h o i v a b = h a b := if_neg n
section SC
variable {t : Int → Int} {N T : Int} {hc hm : qz_H}
theorem cz_sameC (w : cz_tt t N) (a : cz_tc t N T hc) {p q : Int} {L1 L2 : Nat} (h1 : cz_wd t p L1) (h2 : cz_wd t q L2) : fn_Scanner_same 34 p q hc = some (if cz_W t p L1 = cz_W t q L2 then 1 else 0, hc) := by
  have wN := w.2.1
  have n1 := cz_wd_N w h1
  have n2 := cz_wd_N w h2
  have hT := a.2.2.1
  have h10 := h1.1
  have h20 := h2.1
  have y1 : ¬ (1 : Int) = 0 := by omega
  have y0 : ¬ ¬ (0 : Int) = 0 := by omega
  have lp : ∀ (r n : Nat), r ≤ L1 → L1 - r ≤ L2 → (∀ i : Nat, i < L1 - r → t (p + (i : Int)) = t (q + (i : Int))) → fn_Scanner_same_2 (n + r + 1) 34 p q ((L1 - r : Nat) : Int) hc = some (if cz_W t p L1 = cz_W t q L2 then 1 else 0, hc) := by
    intro r
    induction r with
    | zero =>
      intro n _ hle hp
      have q1 : ¬ cz_sg (t (p + ((L1 - 0 : Nat) : Int))) := h1.2.2.2
      show fn_Scanner_same_2_b _ 34 p q _ hc = _
      unfold fn_Scanner_same_2_b fn_Scanner_same_49 fn_Scanner_same_69 fn_Scanner_same_70
      rw [if_neg (by omega), a.2.1, bz_ck (by omega), bz_w (by have := h1.1; omega) (by omega), cz_tca w a, bz_bc, bz_bn, a.2.1, bz_ck (by omega), bz_w (by have := h2.1; omega) (by omega), cz_tca w a, bz_bc, bz_bn, cz_isw, bz_bc, if_neg q1, if_pos rfl, cz_isw, bz_bc, if_neg q1, if_neg y0, cz_isw, bz_bc, bz_ck (by omega), bz_ck (by omega)]
      by_cases c : L1 = L2
      · have q2 : ¬ cz_sg (t (q + ((L1 - 0 : Nat) : Int))) := by rw [Nat.sub_zero, c]; exact h2.2.2.2
        rw [if_neg q2, if_neg y0, if_pos]
        subst c
        refine cz_Weq (by rw [cz_W_len]) fun i hi => ?_
        rw [cz_W_get t q hi]
        exact hp i (by omega)
      · have q2 : cz_sg (t (q + ((L1 - 0 : Nat) : Int))) := h2.2.2.1 (L1 - 0) (by omega)
        rw [if_pos q2, if_pos y1, if_neg]
        intro z
        have := congrArg List.length z
        rw [cz_W_len, cz_W_len] at this
        omega
    | succ r ih =>
      intro n hr hle hp
      have q1 : cz_sg (t (p + ((L1 - (r + 1) : Nat) : Int))) := h1.2.2.1 _ (by omega)
      show fn_Scanner_same_2_b (fn_Scanner_same_2 (n + r + 1)) 34 p q _ hc = _
      unfold fn_Scanner_same_2_b fn_Scanner_same_49 fn_Scanner_same_69 fn_Scanner_same_70
      rw [if_neg (by omega), a.2.1, bz_ck (by omega), bz_w (by have := h1.1; omega) (by omega), cz_tca w a, bz_bc, bz_bn, a.2.1, bz_ck (by omega), bz_w (by have := h2.1; omega) (by omega), cz_tca w a, bz_bc, bz_bn, cz_isw, bz_bc, if_pos q1, if_neg y1, cz_isw, bz_bc]
      by_cases c : L1 - (r + 1) = L2
      · have q2 : ¬ cz_sg (t (q + ((L1 - (r + 1) : Nat) : Int))) := by rw [c]; exact h2.2.2.2
        rw [if_neg q2, if_neg y0, cz_isw, bz_bc, if_pos q1, if_pos y1, bz_ck (by omega), if_neg]
        intro z
        have := congrArg List.length z
        rw [cz_W_len, cz_W_len] at this
        omega
      · have q2 : cz_sg (t (q + ((L1 - (r + 1) : Nat) : Int))) := h2.2.2.1 _ (by omega)
        rw [if_pos q2, if_pos y1]
        by_cases e : t (p + ((L1 - (r + 1) : Nat) : Int)) = t (q + ((L1 - (r + 1) : Nat) : Int))
        · rw [if_pos e, bz_bn, bz_w (by omega) (by omega), show ((L1 - (r + 1) : Nat) : Int) + 1 = ((L1 - r : Nat) : Int) by omega]
          refine ih n (by omega) (by omega) fun i hi => ?_
          by_cases ei : i = L1 - (r + 1)
          · rw [ei]; exact e
          · exact hp i (by omega)
        · rw [if_neg e, bz_ck (by omega), if_neg]
          intro z
          apply e
          rw [← cz_W_get t p (L := L1) (by omega), z, cz_W_get t q (by omega)]
  unfold fn_Scanner_same
  rw [bz_bn]
  have := lp L1 (3999 - L1) (by omega) (by omega) fun i hi => by omega
  rw [show 3999 - L1 + L1 + 1 = qz_NF by unfold qz_NF; omega, show ((L1 - L1 : Nat) : Int) = 0 by omega] at this
  exact this
theorem cz_sameM (w : cz_tt t N) (b : cz_tm t N hm) {p q : Int} {L1 L2 : Nat} (h1 : cz_wd t p L1) (h2 : cz_wd t q L2) : fn_Md_sameName 67 p (L1 : Int) q (L2 : Int) hm = some (if cz_W t p L1 = cz_W t q L2 then 1 else 0, hm) := by
  have wN := w.2.1
  have n1 := cz_wd_N w h1
  have n2 := cz_wd_N w h2
  have h10 := h1.1
  have h20 := h2.1
  unfold fn_Md_sameName fn_Md_sameName_11
  by_cases c : L1 = L2
  · subst c
    rw [if_neg (fun z => z rfl), bz_bn, bz_bn]
    have st : ∀ (n l : Nat) (x : Int), l < L1 → x ≠ 0 → fn_Md_sameName_16 (n + 1) 67 p (L1 : Int) q x (l : Int) hm = fn_Md_sameName_16 n 67 p (L1 : Int) q (if t (p + (l : Int)) = t (q + (l : Int)) then 1 else 0) ((l + 1 : Nat) : Int) hm := by
      intro n l x hl hx
      show fn_Md_sameName_16_b (fn_Md_sameName_16 n) 67 p (L1 : Int) q x (l : Int) hm = _
      unfold fn_Md_sameName_16_b fn_Md_sameName_53
      rw [if_neg (by omega), if_neg hx, bz_m67_6 b.1, bz_ck (by omega), bz_w (by omega) (by omega), bz_m71_m1 b.1, bz_ck (by omega), bz_ck (by omega), bz_w (by omega) (by omega), bz_ck (by omega), b.2.2 _ (by omega) (by omega), b.2.2 _ (by omega) (by omega), bz_bn, bz_bn, bz_bn, bz_bn, bz_w (by omega) (by omega), show (l : Int) + 1 = ((l + 1 : Nat) : Int) by omega]
      (repeat' split) <;> first | rfl | omega
    have z0 : ∀ (n l : Nat), fn_Md_sameName_16 (n + 1) 67 p (L1 : Int) q 0 (l : Int) hm = some (0, hm) := by
      intro n l
      show fn_Md_sameName_16_b _ 67 p (L1 : Int) q 0 (l : Int) hm = _
      unfold fn_Md_sameName_16_b fn_Md_sameName_61
      rw [if_pos rfl, bz_ck (by omega)]
      split <;> rfl
    have lp : ∀ (r n : Nat), r ≤ L1 → (∀ i : Nat, i < L1 - r → t (p + (i : Int)) = t (q + (i : Int))) → fn_Md_sameName_16 (n + r + 2) 67 p (L1 : Int) q 1 ((L1 - r : Nat) : Int) hm = some (if cz_W t p L1 = cz_W t q L1 then 1 else 0, hm) := by
      intro r
      induction r with
      | zero =>
        intro n _ hp
        show fn_Md_sameName_16_b _ 67 p (L1 : Int) q 1 _ hm = _
        unfold fn_Md_sameName_16_b fn_Md_sameName_61
        rw [if_pos (by omega), bz_ck (by omega), if_pos]
        refine cz_Weq (by rw [cz_W_len]) fun i hi => ?_
        rw [cz_W_get t q hi]
        exact hp i (by omega)
      | succ r ih =>
        intro n hr hp
        rw [show n + (r + 1) + 2 = (n + r + 2) + 1 by omega, st _ _ _ (by omega) (by omega), show L1 - (r + 1) + 1 = L1 - r by omega]
        by_cases e : t (p + ((L1 - (r + 1) : Nat) : Int)) = t (q + ((L1 - (r + 1) : Nat) : Int))
        · rw [if_pos e]
          refine ih n (by omega) fun i hi => ?_
          by_cases ei : i = L1 - (r + 1)
          · rw [ei]; exact e
          · exact hp i (by omega)
        · rw [if_neg e, show n + r + 2 = (n + r + 1) + 1 by omega, z0, if_neg]
          intro z
          apply e
          rw [← cz_W_get t p (L := L1) (by omega), z, cz_W_get t q (by omega)]
    have := lp L1 (3998 - L1) (by omega) fun i hi => by omega
    rw [show 3998 - L1 + L1 + 2 = qz_NF by unfold qz_NF; omega, show ((L1 - L1 : Nat) : Int) = 0 by omega] at this
    exact this
  · rw [if_pos (by omega), bz_bn, bz_bn, show qz_NF = 3999 + 1 from rfl]
    show fn_Md_sameName_16_b _ 67 p (L1 : Int) q 0 0 hm = _
    unfold fn_Md_sameName_16_b fn_Md_sameName_61
    have nz : ¬ cz_W t p L1 = cz_W t q L2 := by
      intro z
      have := congrArg List.length z
      rw [cz_W_len, cz_W_len] at this
      omega
    rw [if_pos rfl, bz_ck (by omega), if_neg nz]
    split <;> rfl
/-- a token that is a name -/
abbrev cz_nt (t : Int → Int) (k s : Int) (L : Nat) : Prop := k = 2 ∧ t s = 36 ∧ 2 ≤ L
theorem cz_tk.nmC (w : cz_tt t N) (a : cz_tc t N T hc) {k s : Int} {L : Nat} (h : cz_tk t N hc hm k s L) : fn_Scanner_isName 34 hc = some (if cz_nt t k s L then 1 else 0, hc) := by
  obtain ⟨h1, h2, h3, h4, h5, h6, h7⟩ := h
  have hT := a.2.2.1
  have wN := w.2.1
  unfold fn_Scanner_isName fn_Scanner_isName_41 fn_Scanner_isName_42
  rw [h1, a.2.1, bz_ck (by omega), bz_ck (by omega), h2, cz_tca w a, bz_bc, bz_ck (by omega), bz_ck (by omega), h2]
  by_cases c : k = 2
  · rcases h7 with h7 | ⟨_, hw, e1, _⟩ | h7
    · omega
    · have hN := cz_wd_N w hw
      rw [if_neg (by omega), e1, bz_w (by omega) (by omega)]
      (repeat' split) <;> first | rfl | omega
    · omega
  · rw [if_pos c, if_neg (fun z => c z.1)]
theorem cz_tk.nmM (w : cz_tt t N) (b : cz_tm t N hm) {k s : Int} {L : Nat} (h : cz_tk t N hc hm k s L) : fn_Md_isId 67 hm = some (if cz_nt t k s L then 1 else 0, hm) := by
  obtain ⟨h1, h2, h3, h4, h5, h6, h7⟩ := h
  have wN := w.2.1
  unfold fn_Md_isId fn_Md_isId_34 fn_Md_isId_35
  rw [h4, bz_m67_6 b.1, bz_ck (by omega), bz_ck (by omega), h3, bz_m71_m1 b.1, bz_ck (show (1 : Int) = 0 ∨ (1 : Int) = 1 by omega)]
  by_cases c : k = 2
  · rcases h7 with h7 | ⟨_, hw, e1, e2, e3, _⟩ | h7
    · omega
    · have hN := cz_wd_N w hw
      have hL := hw.2.1
      rw [if_neg (by rw [if_neg (by omega)]; omega), e3, bz_ck (by omega), b.2.2 s h5 (by omega)]
      (repeat' split) <;> first | rfl | omega
    · omega
  · rw [if_pos (by split <;> omega), if_neg (fun z => c z.1)]
end SC
