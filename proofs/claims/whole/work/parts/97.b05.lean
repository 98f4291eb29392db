/-! An operand. -/
def cz_RI (l1 l2 : Int) (h4 : qz_H) : Option qz_R :=
  if l1 = 65 then
    fn_Md_readImmediate_26 67 l1 h4
  else
    if ¬ l1 = 66 then
      if l1 = 12 then
        fn_Md_readImmediate_72 67 l1 l2 h4
      else
        if l1 = 13 then
          fn_Md_readImmediate_72 67 l1 l2 h4
        else
          if l1 = 16 then
            fn_Md_readImmediate_72 67 l1 l2 h4
          else
            if l1 < 32 then
              fn_Md_readImmediate_76 67 l1 l2 h4
            else
              if 34 < l1 then
                fn_Md_readImmediate_76 67 l1 l2 h4
              else
                fn_Md_readImmediate_72 67 l1 l2 h4
    else
      fn_Md_readImmediate_26 67 l1 h4
theorem cz_RI_eq (l1 l2 : Int) (h : qz_H) : fn_Md_readImmediate 67 l1 l2 h = qz_bc (fn_Md_next 67 (qz_up (qz_up h 67 47 0) 67 48 (-1))) fun _ h4 => cz_RI l1 l2 h4 := by
  unfold fn_Md_readImmediate
  rw [bz_ck (by omega), bz_bn, bz_ck (by omega), bz_bn]
  rfl
section SC
variable {t : Int → Int} {N T M : Int} {hc0 hm0 hc hm : qz_H}
theorem cz_RI0 (l2 : Int) (h : qz_H) {j : Nat} (hj : j < 30) (h2 : kz_dt (-((j : Int) + 1)) 2 = 0 ∨ kz_dt (-((j : Int) + 1)) 2 = 1) : cz_RI (kz_dt (-((j : Int) + 1)) 1) l2 h = some (1, h) := by
  have o := cz_o30 j hj
  unfold cz_RI fn_Md_readImmediate_76 fn_Md_readImmediate_77 fn_Md_readImmediate_91 fn_Md_readImmediate_96
  have o5 := o.2.2.2.2.2.2.2.2.1
  have o6 := o.2.2.2.2.2.2.2.2.2.1
  have o3 := o.2.2.2.2.2.1
  have o16 := o.2.2.2.2.1
  have o2 := o.2.2.2.2.2.2.1
  have o4 := o.2.2.2.2.2.2.2.1
  rw [bz_bn, if_pos rfl, bz_ck (by omega), if_neg (by omega), if_pos (by omega), if_neg (by omega), if_neg (by omega), if_neg (by omega)]
  split
  · rfl
  · rw [if_pos (by omega)]
theorem cz_opd (e : cz_en t N T M hc0 hm0 hc hm) {kd s : Int} {L : Nat} (tk : cz_tk t N hc hm kd s L) (h48 : hm 67 48 = -1) {j : Nat} (hj : j < 30) (h2 : 2 ≤ kz_dt (-((j : Int) + 1)) 2) {c d q : Int} (c1 : 1 ≤ c) (c4 : c ≤ 4) (m3 : hc M 3 = c) (f2 : hc (M + 2 + 2 * c) 2 = hm 80 (c - 1)) (v0 : 0 ≤ hm 80 (c - 1)) (v8 : hm 80 (c - 1) ≤ 8) (g3 : cz_G3 t hc hm c) (d0 : 0 ≤ d) (d10 : d ≤ 10) (h39 : hm 67 39 = d) (f36 : hc 36 0 = 2) (f37 : hc 37 0 = 3) (lv : ∀ i : Int, 0 ≤ i → i < d → (hm 94 i = 0 ∧ (hc (38 + i) 0 = 8 ∨ hc (38 + i) 0 = 9) ∧ cz_nm t (hc (38 + i) 2) (hm 96 i) (hm 97 i)) ∨ (hm 94 i ≠ 0 ∧ hc (38 + i) 0 = 7)) (h5 : hc 30 5 = d + 2 ∨ d ≤ 9 ∧ hc 30 5 = d + 3 ∧ hc (38 + d) 0 = 7) (h28 : hm 67 28 = q) (q0 : 0 ≤ q) (q99 : q ≤ 99) :
    (∃ hm1, cz_RI (kz_dt (-((j : Int) + 1)) 1) (c - 1) hm = some (0, qz_up hm1 67 38 1) ∧ (∀ o i : Int, ¬ (o = 67 ∧ (i = 47 ∨ i = 48)) → hm1 o i = hm o i) ∧ (kd ≠ 2 ∨ ∃ hc1, fn_Reader_readOperand 30 (kz_dt (-((j : Int) + 1)) 2) hc = some (0, hc1) ∧ ∀ o i : Int, ¬ (o = 34 ∧ i = 5) → ¬ (o = 30 ∧ i = 8) → hc1 o i = hc o i)) ∨
    (kd = 2 ∧ ∃ hc1 hm1 v, fn_Reader_readOperand 30 (kz_dt (-((j : Int) + 1)) 2) hc = some (1, hc1) ∧ (∀ o i : Int, ¬ (o = 34 ∧ i = 5) → ¬ (o = 30 ∧ i = 8) → hc1 o i = hc o i) ∧ hc1 30 8 = v ∧ cz_RI (kz_dt (-((j : Int) + 1)) 1) (c - 1) hm = (qz_bc (fn_Md_next 67 hm1) fun _ h => some (1, h)) ∧ ((cz_vl (-((j : Int) + 1)) v ∧ hm1 67 47 = v ∧ hm1 67 48 = -1 ∧ ∀ o i : Int, ¬ (o = 67 ∧ (i = 47 ∨ i = 48)) → hm1 o i = hm o i) ∨ (j = 10 ∧ cz_wd t s L ∧ v = -1 - s ∧ hm1 67 47 = 0 ∧ hm1 67 48 = q ∧ hm1 67 28 = q + 1 ∧ hm1 90 q = s ∧ hm1 91 q = (L : Int) ∧ hm1 92 q = -1 ∧ ∀ o i : Int, ¬ (o = 67 ∧ (i = 47 ∨ i = 48 ∨ i = 28)) → ¬ ((o = 90 ∨ o = 91 ∨ o = 92) ∧ i = q) → hm1 o i = hm o i))) := by
  have o30 := cz_o30 j hj
  obtain ⟨o1, oe, on, oi, o16, o3, o2, o4, o5, o6, or0, or6, oc0, oc255, _⟩ := o30
  have wN := e.w.2.1
  have tk' := tk
  obtain ⟨k1, k2, k3, k4, k5, k6, k7⟩ := tk'
  have hT := e.tc.2.2.1
  have c30 := bz_c30_0 e.tc.1
  have b := e.tm
  generalize hx : kz_dt (-((j : Int) + 1)) 2 = o at *
  generalize hcd : kz_dt (-((j : Int) + 1)) 1 = cd at *
  -- constants
  have konst : ∀ l1 : Int, (o = 5 ∧ l1 = 0 ∨ o = 6 ∧ l1 = 1) → cz_RI cd (c - 1) hm = (qz_bc (fn_Md_constant 67 l1 hm) fun r h => qz_ck ((r : Int) = 0 ∨ (r : Int) = 1) (some (r, h))) := by
    intro l1 h
    unfold cz_RI fn_Md_readImmediate_26 fn_Md_readImmediate_38
    rcases h with ⟨h, rfl⟩ | ⟨h, rfl⟩
    · rw [if_pos (by omega), if_pos (by omega)]
    · rw [if_neg (by omega), if_neg (by omega), if_neg (by omega)]
  by_cases hk : o = 5 ∨ o = 6
  · obtain ⟨l1, hl⟩ : ∃ l1 : Int, (o = 5 ∧ l1 = 0 ∨ o = 6 ∧ l1 = 1) := by
      rcases hk with h | h
      · exact ⟨0, Or.inl ⟨h, rfl⟩⟩
      · exact ⟨1, Or.inr ⟨h, rfl⟩⟩
    rw [konst l1 hl]
    by_cases kk : kd = 2
    · subst kk
      rcases cz_const e.w e.tc e.tm tk e.w0 hl with ⟨y, v, z, x1, x2⟩ | ⟨y, v, x1, x2, x3, x4, x5⟩
      · left
        refine ⟨qz_up hm 67 47 z, by rw [x2, bz_bc, bz_ck (by omega)], fun o i ho => cz_un (by omega), Or.inr ⟨_, x1, fun o i h1 h2 => ?_⟩⟩
        rw [cz_un (by omega), cz_un (by omega)]
      · right
        refine ⟨rfl, _, qz_up hm 67 47 v, v, x1, fun o i h1 h2 => ?_, bz_us _ _ _ _, ?_, Or.inl ⟨⟨x3, x4, ?_, ?_, ?_, ?_⟩, bz_us _ _ _ _, by rw [bz_ui (by omega)]; exact h48, fun o i ho => cz_un (by omega)⟩⟩
        · rw [cz_un (by omega), cz_un (by omega)]
        · rw [x2]
          cases hn : fn_Md_next 67 (qz_up hm 67 47 v) with
          | none => rfl
          | some p => rfl
        · rw [hx]; omega
        · rw [hx]; omega
        · rw [hx]; omega
        · rw [hx]; exact x5
    · left
      refine ⟨hm, ?_, fun _ _ _ => rfl, Or.inl kk⟩
      unfold fn_Md_constant
      rw [k4, if_neg (by split <;> omega), cz_fail e.w0, bz_bc, bz_ck (by omega), bz_bc, bz_ck (by omega)]
  · -- an index
    have o234 : o = 2 ∨ o = 3 ∨ o = 4 := by omega
    have ri : cz_RI cd (c - 1) hm = qz_bc (fn_Md_index 67 cd (c - 1) hm) fun r2 h3 => if r2 = 0 then some (0, h3) else some (1, h3) := by
      unfold cz_RI fn_Md_readImmediate_72 fn_Md_readImmediate_77 fn_Md_readImmediate_91 fn_Md_readImmediate_96
      dsimp only [qz_bn]
      rw [if_neg (show ¬ (1 : Int) = 0 by omega)]
      have cc : cd = 12 ∨ cd = 13 ∨ cd = 16 ∨ 32 ≤ cd ∧ cd ≤ 34 := by omega
      have eq : (qz_bc (fn_Md_index 67 cd (c - 1) hm) fun r2 h3 => if r2 = 0 then qz_ck ((0 : Int) = 0 ∨ (0 : Int) = 1) (some (0, h3)) else qz_ck ((1 : Int) = 0 ∨ (1 : Int) = 1) (some (1, h3))) = qz_bc (fn_Md_index 67 cd (c - 1) hm) fun r2 h3 => if r2 = 0 then some (0, h3) else some (1, h3) := by
        congr 1
      rw [eq, if_neg (by omega), if_pos (by omega)]
      (repeat' split) <;> first | rfl | omega
    rw [ri]
    unfold fn_Md_index
    rw [bz_ck (by omega), bz_bn, bz_ui (by omega), k4]
    have e1 : cz_en t N T M hc0 hm0 hc (qz_up hm 67 48 (-1)) := e.um (by omega)
    have h1e : qz_up hm 67 48 (-1) = hm := by rw [← h48, cz_ue]
    rw [h1e]
    have failI : fn_Md_index_47 67 hm = some (0, qz_up hm 67 38 1) := by
      unfold fn_Md_index_47
      rw [cz_fail e.w0, bz_bc, bz_ck (by omega)]
    by_cases kk : kd = 2
    · rcases k7 with k7 | ⟨_, hw, g1, g2, g3', g4, g5, g6⟩ | k7
      · omega
      · have hN := cz_wd_N e.w hw
        have hL := hw.2.1
        rw [if_pos (by rw [if_neg (by omega)]; omega), tk.nmM e.w e.tm, bz_bc]
        unfold fn_Reader_readOperand
        rw [if_pos (show ¬ o = 5 by omega), if_pos (show ¬ o = 6 by omega), c30, bz_ck (show (34 : Int) ≠ 0 by omega), tk.nmC e.w e.tc, bz_bc]
        by_cases nt : cz_nt t kd s L
        · rw [if_pos nt, if_pos (show ¬ (1 : Int) = 0 by omega), if_pos (show ¬ (1 : Int) = 0 by omega)]
          have i145 : ∀ r : Int, fn_Md_index_145 67 r hm = if 0 ≤ r then (qz_bc (fn_Md_next 67 (qz_up hm 67 47 r)) fun _ h => some (1, h)) else some (0, qz_up hm 67 38 1) := by
            intro r
            unfold fn_Md_index_145 fn_Md_index_162
            rw [bz_bn, cz_fail e.w0, bz_bc, bz_ck (by omega), bz_bn, bz_ck (by omega)]
            split
            · congr 1
            · rfl
          have r146 : ∀ r : Int, fn_Reader_readOperand_146 30 30 r hc = some (if 0 ≤ r then 1 else 0, qz_up hc 30 8 r) := by
            intro r
            unfold fn_Reader_readOperand_146 fn_Reader_readOperand_163
            rw [bz_ck (by omega), bz_bn, bz_us, bz_ck (by omega), bz_ck (by omega)]
            simp only [bz_cmp_neg]
            (repeat' split) <;> first | rfl | omega
          -- what both found
          have found : ∀ r : Int, -1 ≤ r → r ≤ 200 → (o = 2 ∨ o = 4) → (∃ hm1, (qz_bc (fn_Md_index_145 67 r hm) fun r2 h3 => if r2 = 0 then some (0, h3) else some (1, h3)) = some (0, qz_up hm1 67 38 1) ∧ (∀ o i : Int, ¬ (o = 67 ∧ (i = 47 ∨ i = 48)) → hm1 o i = hm o i) ∧ (kd ≠ 2 ∨ ∃ hc1, fn_Reader_readOperand_146 30 30 r hc = some (0, hc1) ∧ ∀ o i : Int, ¬ (o = 34 ∧ i = 5) → ¬ (o = 30 ∧ i = 8) → hc1 o i = hc o i)) ∨ (kd = 2 ∧ ∃ hc1 hm1 v, fn_Reader_readOperand_146 30 30 r hc = some (1, hc1) ∧ (∀ o i : Int, ¬ (o = 34 ∧ i = 5) → ¬ (o = 30 ∧ i = 8) → hc1 o i = hc o i) ∧ hc1 30 8 = v ∧ (qz_bc (fn_Md_index_145 67 r hm) fun r2 h3 => if r2 = 0 then some (0, h3) else some (1, h3)) = (qz_bc (fn_Md_next 67 hm1) fun _ h => some (1, h)) ∧ (cz_vl (-((j : Int) + 1)) v ∧ hm1 67 47 = v ∧ hm1 67 48 = -1 ∧ ∀ o i : Int, ¬ (o = 67 ∧ (i = 47 ∨ i = 48)) → hm1 o i = hm o i)) := by
            intro r r1 r2 ho
            rw [i145, r146]
            by_cases z : 0 ≤ r
            · right
              rw [if_pos z, if_pos z]
              refine ⟨kk, _, qz_up hm 67 47 r, r, rfl, fun o i h1 h2 => cz_un (by omega), bz_us _ _ _ _, ?_, ⟨by omega, by omega, by rw [hx]; omega, by rw [hx]; omega, by rw [hx]; omega, by rw [hx]; omega⟩, bz_us _ _ _ _, by rw [bz_ui (by omega)]; exact h48, fun o i ho => cz_un (by omega)⟩
              cases hn : fn_Md_next 67 (qz_up hm 67 47 r) with
              | none => rfl
              | some p => rfl
            · left
              rw [if_neg z, if_neg z, bz_bc, if_pos rfl]
              exact ⟨hm, rfl, fun _ _ _ => rfl, Or.inr ⟨_, rfl, fun o i h1 h2 => cz_un (by omega)⟩⟩
          by_cases h3 : o = 3
          · -- a call
            right
            have x28 := h28
            rw [if_neg (show ¬ ¬ o = 3 by omega), if_neg (show ¬ ¬ cd = 16 by omega), c30, bz_ck (show (34 : Int) ≠ 0 by omega), bz_ck (show (0 : Int) < 30 by omega), k2, bz_bn, bz_ck (show (1 : Int) = 0 ∨ (1 : Int) = 1 by omega), bz_x (by omega) (by omega)]
            rw [bz_m67_29 b.1, bz_ck (by omega), bz_m90_m1 b.1, bz_ck (by omega), k3, bz_bn]
            have b1 : cz_tm t N (qz_up hm 90 (hm 67 28) s) := b.up (by omega)
            rw [bz_m67_30 b1.1, bz_ck (by omega), bz_m91_m1 b1.1, bz_uo (by omega), bz_ck (by omega), bz_uo (by omega), bz_bn]
            have b2 : cz_tm t N (qz_up (qz_up hm 90 (hm 67 28) s) 91 (hm 67 28) (hm 67 35)) := b1.up (by omega)
            rw [bz_m67_31 b2.1, bz_ck (by omega), bz_m92_m1 b2.1, bz_uo (by omega), bz_uo (by omega), bz_ck (by omega), bz_bn, bz_ck (by omega), bz_bn]
            unfold fn_Md_index_162
            rw [bz_ck (by omega), bz_bn, bz_ck (by omega), bz_bn]
            rw [h28, g3']
            simp (disch := omega) only [bz_uo, bz_ui, h28]
            rw [bz_w (by omega) (by omega)]
            refine ⟨kk, _, qz_up (qz_up (qz_up (qz_up (qz_up (qz_up hm 90 q s) 91 q (L : Int)) 92 q (-1)) 67 48 q) 67 28 (q + 1)) 67 47 0, -1 - s, rfl, fun o i h1 h2 => cz_un (by omega), bz_us _ _ _ _, ?_, Or.inr ⟨by omega, hw, rfl, bz_us _ _ _ _, ?_, ?_, ?_, ?_, ?_, fun o i h1 h2 => ?_⟩⟩
            · cases hn : fn_Md_next 67 (qz_up (qz_up (qz_up (qz_up (qz_up (qz_up hm 90 q s) 91 q (L : Int)) 92 q (-1)) 67 48 q) 67 28 (q + 1)) 67 47 0) with
              | none => rfl
              | some p => rfl
            · simp (disch := omega) only [bz_uo, bz_ui, bz_us]
            · simp (disch := omega) only [bz_uo, bz_ui, bz_us]
            · simp (disch := omega) only [bz_uo, bz_ui, bz_us]
            · simp (disch := omega) only [bz_uo, bz_ui, bz_us]
            · simp (disch := omega) only [bz_uo, bz_ui, bz_us]
            · rw [cz_un (by omega), cz_un (by omega), cz_un (by omega), cz_un (by omega), cz_un (by omega), cz_un (by omega)]
          · rw [if_pos (show ¬ o = 3 by omega), if_pos (show ¬ cd = 16 by omega)]
            by_cases h4 : o = 4
            · obtain ⟨r, r1, r2, r3, r4⟩ := cz_slot e.w e.tc e.tm e.hM e.m4 m3 c1 c4 f2 v0 v8 g3 hw k2 k3 g3'
              rw [if_pos (show ¬ o = 2 by omega), if_pos (show 16 ≤ cd by omega), r1, r2, bz_bc, bz_bc]
              rcases found r r3 (by omega) (by omega) with z | ⟨z0, hc1, hm1, v, z1, z2, z3, z4, z5⟩
              · exact Or.inl z
              · exact Or.inr ⟨z0, hc1, hm1, v, z1, z2, z3, z4, Or.inl z5⟩
            · have lab : ∃ r, fn_Reader_labelNamed 30 hc = some (r, hc) ∧ fn_Md_labelOf 67 hm = some (r, hm) ∧ -1 ≤ r ∧ r ≤ 200 := by
                obtain ⟨r, r1, r2, r3, r4⟩ := cz_label e.w e.tc e.tm hw k2 k3 g3' f36 f37 d.toNat (3996 - d.toNat) (3999 - d.toNat) 0 (by omega) (by omega) (by omega) (fun i i0 i1 => lv i i0 (by omega))
                rw [Int.toNat_of_nonneg d0] at r1 r2
                refine ⟨r, ?_, ?_, r3, by omega⟩
                · unfold fn_Reader_labelNamed
                  rw [bz_bn, bz_bn]
                  rcases h5 with h5 | ⟨h5a, h5, h7⟩
                  · rw [h5, show qz_NF = (3996 - d.toNat + 1) + d.toNat + 3 by unfold qz_NF; omega]
                    have := (cz_label e.w e.tc e.tm hw k2 k3 g3' f36 f37 d.toNat (3996 - d.toNat + 1) (3999 - d.toNat) 0 (by omega) (by omega) (by omega) (fun i i0 i1 => lv i i0 (by omega)))
                    obtain ⟨r', r1', r2', _⟩ := this
                    rw [Int.toNat_of_nonneg d0] at r1' r2'
                    rw [r2'] at r2
                    have er : r' = r := by injection r2 with z; injection z
                    rw [r1', er]
                  · rw [h5, show qz_NF = (3996 - d.toNat + d.toNat + 3) + 1 by unfold qz_NF; omega]
                    show fn_Reader_labelNamed_7_b (fn_Reader_labelNamed_7 (3996 - d.toNat + d.toNat + 3)) 30 0 (d + 3) hc = _
                    unfold fn_Reader_labelNamed_7_b fn_Reader_labelNamed_59
                    have ib : fn_Level_isBlock (38 + d) hc = some (0, hc) := by
                      unfold fn_Level_isBlock fn_Level_isBlock_23
                      rw [h7, if_neg (by omega), if_pos (by omega), bz_ck (by omega)]
                    rw [if_neg (by omega), bz_c30_1 e.tc.1, bz_ck (by omega), bz_c31_m1 e.tc.1, bz_ck (by omega), bz_lev e.tc.1 (by omega) (by omega), bz_bn, bz_ck (by omega), show (35 : Int) + (d + 3) = 38 + d by omega, ib, bz_bc, if_pos rfl, bz_bn, bz_w (by omega) (by omega), show d + 3 + -1 = d + 2 by omega]
                    exact r1
                · unfold fn_Md_labelOf
                  rw [bz_bn, bz_bn, h39, bz_w (by omega) (by omega), show qz_NF = (3999 - d.toNat) + d.toNat + 1 by unfold qz_NF; omega]
                  exact r2
              obtain ⟨r, r1, r2, r3, r4⟩ := lab
              rw [if_neg (show ¬ ¬ o = 2 by omega), if_neg (show ¬ 16 ≤ cd by omega), r1, r2, bz_bc, bz_bc]
              rcases found r r3 r4 (by omega) with z | ⟨z0, hc1, hm1, v, z1, z2, z3, z4, z5⟩
              · exact Or.inl z
              · exact Or.inr ⟨z0, hc1, hm1, v, z1, z2, z3, z4, Or.inl z5⟩
        · rw [if_neg nt, if_neg (show ¬ ¬ (0 : Int) = 0 by omega), if_neg (show ¬ ¬ (0 : Int) = 0 by omega), c30, bz_ck (show (34 : Int) ≠ 0 by omega), bz_ck (show (34 : Int) ≠ 0 by omega), k2, k3]
          obtain ⟨r, y, z, d1, d2, d3⟩ := cz_dig e.w e.tc e.tm hw g1 k3 g3' (f := s) (by omega) (by omega)
          rw [d1, d2, bz_bc, bz_bc, bz_bn, show (qz_up hc 34 5 y) 30 0 = 34 from (bz_uo (by omega)).trans c30, bz_ck (show (34 : Int) ≠ 0 by omega), show (qz_up hc 34 5 y) 34 5 = y from bz_us _ _ _ _, bz_ck (show (0 : Int) < 30 by omega), bz_bn]
          unfold fn_Reader_readOperand_102 fn_Reader_readOperand_103
          have fl : fn_Md_index_47 67 (qz_up hm 67 47 z) = some (0, qz_up (qz_up hm 67 47 z) 67 38 1) := by
            unfold fn_Md_index_47
            rw [cz_fail (by rw [bz_ui (by omega)]; exact e.w0), bz_bc, bz_ck (by omega)]
          rcases d3 with rfl | ⟨rfl, rfl, v, hv⟩
          · left
            rw [if_pos rfl, if_pos rfl, fl, bz_bc, if_pos rfl, bz_ck (by omega)]
            refine ⟨qz_up hm 67 47 z, rfl, fun o i ho => cz_un (by omega), Or.inr ⟨_, rfl, fun o i h1 h2 => ?_⟩⟩
            rw [cz_un (by omega), cz_un (by omega)]
          · rw [if_neg (show ¬ (1 : Int) = 0 by omega), if_neg (show ¬ (1 : Int) = 0 by omega), show (qz_up (qz_up hc 34 5 y) 30 8 y) 30 8 = y from bz_us _ _ _ _, cz_cu hv (u := 4294967296) ⟨by omega, by omega, by omega, by omega, by omega⟩, bz_bc, show (qz_up hm 67 47 y) 67 47 = y from bz_us _ _ _ _, cz_b32 hv, bz_bc, fl]
            obtain ⟨v1, v2, v3, v4, v5⟩ := hv
            by_cases lt : v < 4294967296
            · right
              rw [if_pos lt, if_pos lt, if_pos (show ¬ (1 : Int) = 0 by omega), if_neg (show ¬ (0 : Int) ≤ -1 by omega), bz_ck (by omega)]
              refine ⟨kk, _, qz_up hm 67 47 y, y, rfl, fun o i h1 h2 => ?_, bz_us _ _ _ _, ?_, Or.inl ⟨⟨by omega, by omega, by rw [hx]; omega, by rw [hx]; omega, by rw [hx]; omega, by rw [hx]; omega⟩, bz_us _ _ _ _, by rw [bz_ui (by omega)]; exact h48, fun o i ho => cz_un (by omega)⟩⟩
              · rw [cz_un (by omega), cz_un (by omega)]
              · cases hn : fn_Md_next 67 (qz_up hm 67 47 y) with
                | none => rfl
                | some p => rfl
            · left
              rw [if_neg lt, if_neg lt, if_neg (show ¬ ¬ (0 : Int) = 0 by omega), bz_bc, if_pos rfl, if_pos (show (0 : Int) ≤ (if v = 4294967296 then 0 else 1) by split <;> omega), bz_ck (by omega)]
              refine ⟨qz_up hm 67 47 y, rfl, fun o i ho => cz_un (by omega), Or.inr ⟨_, rfl, fun o i h1 h2 => ?_⟩⟩
              rw [cz_un (by omega), cz_un (by omega)]
      · omega
    · left
      refine ⟨hm, ?_, fun _ _ _ => rfl, Or.inl kk⟩
      rw [if_neg (by split <;> omega), cz_fail e.w0, bz_bc, bz_ck (by omega), bz_bc, if_pos rfl]
end SC
