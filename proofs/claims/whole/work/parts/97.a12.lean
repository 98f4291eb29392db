/-! What a name means. -/
/-- a name's place in the class, its place and length in the model -/
def cz_nm (t : Int → Int) (p q l : Int) : Prop := (p = -1 ∧ l = 0) ∨ (p = q ∧ ∃ L : Nat, l = (L : Int) ∧ cz_wd t q L)
section SC
variable {t : Int → Int} {N T : Int} {hc hm : qz_H}
/-- a name kept, against the token: what both say -/
theorem cz_nm.cmp (w : cz_tt t N) (a : cz_tc t N T hc) (b : cz_tm t N hm) {p q l s : Int} {L : Nat} (h : cz_nm t p q l) (hw : cz_wd t s L) : (p = -1 ∧ l ≤ 0) ∨ (p ≠ -1 ∧ ¬ l ≤ 0 ∧ l ≠ 0 ∧ ∃ r : Int, (r = 0 ∨ r = 1) ∧ (r = 1 ↔ cz_W t q l.toNat = cz_W t s L) ∧ fn_Scanner_same 34 p s hc = some (r, hc) ∧ fn_Md_sameName 67 q l s (L : Int) hm = some (r, hm)) := by
  rcases h with ⟨h1, h2⟩ | ⟨h1, L', h2, h3⟩
  · left; omega
  · right
    have h0 := h3.1
    have h4 := h3.2.1
    refine ⟨by omega, by omega, by omega, if cz_W t q L' = cz_W t s L then 1 else 0, by split <;> omega, ?_, ?_, ?_⟩
    · rw [h2, Int.toNat_natCast]
      split
      · rename_i z; exact ⟨fun _ => z, fun _ => rfl⟩
      · rename_i z; exact ⟨fun y => by omega, fun y => absurd y z⟩
    · rw [h1]; exact cz_sameC w a h3 hw
    · rw [h2]; exact cz_sameM w b h3 hw
theorem cz_label (w : cz_tt t N) (a : cz_tc t N T hc) (b : cz_tm t N hm) {s : Int} {L : Nat} (hw : cz_wd t s L) (k2 : hc 34 2 = s) (k3 : hm 67 34 = s) (g3 : hm 67 35 = (L : Int)) (f36 : hc 36 0 = 2) (f37 : hc 37 0 = 3) : ∀ (d n m : Nat) (lab : Int), d ≤ 10 → 0 ≤ lab → lab + (d : Int) ≤ 100 → (∀ i : Int, 0 ≤ i → i < (d : Int) → (hm 94 i = 0 ∧ (hc (38 + i) 0 = 8 ∨ hc (38 + i) 0 = 9) ∧ cz_nm t (hc (38 + i) 2) (hm 96 i) (hm 97 i)) ∨ (hm 94 i ≠ 0 ∧ hc (38 + i) 0 = 7)) → ∃ r, fn_Reader_labelNamed_7 (n + d + 3) 30 lab ((d : Int) + 2) hc = some (r, hc) ∧ fn_Md_labelOf_9 (m + d + 1) 67 lab ((d : Int) - 1) hm = some (r, hm) ∧ -1 ≤ r ∧ r ≤ lab + (d : Int) := by
  have c30 := bz_c30_0 a.1
  have c31 := bz_c30_1 a.1
  have c31m := bz_c31_m1 a.1
  -- the class at one level
  have cl : ∀ (n : Nat) (lab l2 : Int), 0 < l2 → l2 ≤ 12 → 0 ≤ lab → lab ≤ 200 → fn_Reader_labelNamed_7 (n + 1) 30 lab l2 hc = if hc (35 + l2) 0 = 8 ∨ hc (35 + l2) 0 = 9 then (if hc (35 + l2) 2 = -1 then fn_Reader_labelNamed_7 n 30 (lab + 1) (l2 - 1) hc else qz_bc (fn_Scanner_same 34 (hc (35 + l2) 2) s hc) fun r4 h5 => if r4 = 0 then fn_Reader_labelNamed_7 n 30 (lab + 1) (l2 - 1) h5 else some (lab, h5)) else fn_Reader_labelNamed_7 n 30 lab (l2 - 1) hc := by
    intro n lab l2 h1 h2 h3 h4
    show fn_Reader_labelNamed_7_b (fn_Reader_labelNamed_7 n) 30 lab l2 hc = _
    unfold fn_Reader_labelNamed_7_b fn_Reader_labelNamed_56 fn_Reader_labelNamed_59
    have ib : fn_Level_isBlock (35 + l2) hc = some (if hc (35 + l2) 0 = 8 ∨ hc (35 + l2) 0 = 9 then 1 else 0, hc) := by
      unfold fn_Level_isBlock fn_Level_isBlock_18 fn_Level_isBlock_23
      rw [bz_ck (by omega), bz_ck (by omega)]
      (repeat' split) <;> first | rfl | omega
    rw [if_neg (by omega), c31, bz_ck (by omega), c31m, bz_ck (by omega), bz_lev a.1 (by omega) h2, bz_bn, bz_ck (by omega), ib, bz_bc]
    dsimp only [qz_bn]
    rw [bz_w (by omega) (by omega), bz_w (by omega) (by omega), bz_ck (by omega), bz_ck (by omega), c30, bz_ck (by omega), bz_ck (by omega), k2, show l2 + -1 = l2 - 1 by omega]
    by_cases c1 : hc (35 + l2) 0 = 8 ∨ hc (35 + l2) 0 = 9
    · rw [if_pos c1, if_neg (by omega), if_pos c1]
    · rw [if_neg c1, if_pos rfl, if_neg c1]
  intro d
  induction d with
  | zero =>
    intro n m lab _ l0 l1 _
    refine ⟨-1, ?_, ?_, by omega, by omega⟩
    · rw [cl (n + 0 + 2) lab _ (by omega) (by omega) l0 (by omega), show (35 : Int) + (((0 : Nat) : Int) + 2) = 37 by omega, f37, if_neg (by omega), show n + 0 + 2 = (n + 0 + 1) + 1 by omega, cl (n + 0 + 1) lab _ (by omega) (by omega) l0 (by omega), show (35 : Int) + (((0 : Nat) : Int) + 2 - 1) = 36 by omega, f36, if_neg (by omega)]
      show fn_Reader_labelNamed_7_b _ 30 lab _ hc = _
      unfold fn_Reader_labelNamed_7_b
      rw [if_pos (by omega)]
    · show fn_Md_labelOf_9_b _ 67 lab _ hm = _
      unfold fn_Md_labelOf_9_b
      rw [if_pos (by omega)]
  | succ d ih =>
    intro n m lab hd l0 l1 lv
    have ml : fn_Md_labelOf_9 (m + (d + 1) + 1) 67 lab (((d + 1 : Nat) : Int) - 1) hm = if hm 94 (d : Int) = 0 then (if hm 97 (d : Int) ≤ 0 then fn_Md_labelOf_9 (m + d + 1) 67 (lab + 1) ((d : Int) - 1) hm else qz_bc (fn_Md_sameName 67 (hm 96 (d : Int)) (hm 97 (d : Int)) s (L : Int) hm) fun r1 h2 => if r1 = 0 then fn_Md_labelOf_9 (m + d + 1) 67 (lab + 1) ((d : Int) - 1) h2 else some (lab, h2)) else fn_Md_labelOf_9 (m + d + 1) 67 lab ((d : Int) - 1) hm := by
      show fn_Md_labelOf_9_b (fn_Md_labelOf_9 (m + d + 1)) 67 lab _ hm = _
      unfold fn_Md_labelOf_9_b fn_Md_labelOf_60 fn_Md_labelOf_63
      rw [show ((d + 1 : Nat) : Int) - 1 = (d : Int) by omega, if_neg (by omega), bz_m67_41 b.1, bz_ck (by omega), bz_m94_m1 b.1, bz_ck (by omega), bz_m67_44 b.1, bz_ck (by omega), bz_m97_m1 b.1, bz_ck (by omega), bz_m67_43 b.1, bz_ck (by omega), bz_m96_m1 b.1, bz_ck (by omega), bz_ck (by omega), bz_ck (by omega), k3, g3]
      dsimp only [qz_bn]
      rw [bz_w (by omega) (by omega), bz_w (by omega) (by omega), show (d : Int) + -1 = (d : Int) - 1 by omega]
      by_cases c1 : hm 94 (d : Int) = 0
      · rw [if_neg (by omega), if_pos c1]
      · rw [if_pos c1, if_neg c1]
    have lv' := lv (d : Int) (by omega) (by omega)
    rw [ml, show n + (d + 1) + 3 = (n + d + 3) + 1 by omega, cl (n + d + 3) lab _ (by omega) (by omega) l0 (by omega), show (35 : Int) + (((d + 1 : Nat) : Int) + 2) = 38 + (d : Int) by omega, show ((d + 1 : Nat) : Int) + 2 - 1 = (d : Int) + 2 by omega]
    have lvd : ∀ i : Int, 0 ≤ i → i < (d : Int) → (hm 94 i = 0 ∧ (hc (38 + i) 0 = 8 ∨ hc (38 + i) 0 = 9) ∧ cz_nm t (hc (38 + i) 2) (hm 96 i) (hm 97 i)) ∨ (hm 94 i ≠ 0 ∧ hc (38 + i) 0 = 7) := fun i i0 i1 => lv i i0 (by omega)
    rcases lv' with ⟨v1, v2, v3⟩ | ⟨v1, v2⟩
    · rw [if_pos v2, if_pos v1]
      by_cases big : True
      · obtain ⟨r, r1, r2, r3, r4⟩ := ih n m (lab + 1) (by omega) (by omega) (by omega) lvd
        rcases v3.cmp w a b hw with ⟨x1, x2⟩ | ⟨x1, x2, _, q, q1, _, q2, q3⟩
        · rw [if_pos x1, if_pos x2]
          exact ⟨r, r1, r2, r3, by omega⟩
        · rw [if_neg x1, if_neg x2, q2, q3, bz_bc, bz_bc]
          rcases q1 with rfl | rfl
          · rw [if_pos rfl, if_pos rfl]
            exact ⟨r, r1, r2, r3, by omega⟩
          · rw [if_neg (by omega), if_neg (by omega)]
            exact ⟨lab, rfl, rfl, by omega, by omega⟩
      · exact absurd trivial big
    · rw [if_neg (by omega), if_neg v1]
      obtain ⟨r, r1, r2, r3, r4⟩ := ih n m lab (by omega) l0 (by omega) lvd
      exact ⟨r, r1, r2, r3, by omega⟩
theorem cz_lat (a : bz_LC hc) {M c : Int} (hM : M = 6 ∨ M = 18) (h3 : hc M 3 = c) (c1 : 1 ≤ c) (c4 : c ≤ 4) : fn_Module_latest M hc = some (M + 2 + 2 * c, hc) := by
  unfold fn_Module_latest
  obtain ⟨m0, m1, m2, m3, m4, m5⟩ := bz_mod a hM
  have e : qz_max 0 (qz_w (qz_min c 4 - 1)) = c - 1 := by
    unfold qz_max qz_min
    rw [if_neg (show ¬ 4 < c by omega), bz_w (by omega) (by omega)]
    split <;> omega
  have f := (bz_fun a hM (f := c - 1) (by omega) (by omega)).1
  rw [h3, m0, e, bz_ck (by omega), m3, bz_ck (by omega), f, show M + 4 + 2 * (c - 1) = M + 2 + 2 * c by omega]
theorem cz_slot (w : cz_tt t N) (a : cz_tc t N T hc) (b : cz_tm t N hm) {M c s : Int} {L : Nat} (hM : M = 6 ∨ M = 18) (m4 : hc 30 4 = M) (h3 : hc M 3 = c) (c1 : 1 ≤ c) (c4 : c ≤ 4) (f2 : hc (M + 2 + 2 * c) 2 = hm 80 (c - 1)) (v0 : 0 ≤ hm 80 (c - 1)) (v8 : hm 80 (c - 1) ≤ 8) (nm : ∀ k : Int, 0 ≤ k → k < hm 80 (c - 1) → cz_nm t (hc 33 k) (hm 88 k) (hm 89 k)) (hw : cz_wd t s L) (k2 : hc 34 2 = s) (k3 : hm 67 34 = s) (g3 : hm 67 35 = (L : Int)) : ∃ r, fn_Reader_slotNamed 30 hc = some (r, hc) ∧ fn_Md_variableOf 67 (c - 1) hm = some (r, hm) ∧ -1 ≤ r ∧ r ≤ 7 := by
  have c30 := bz_c30_0 a.1
  have c33 := bz_c30_3 a.1
  have c33m := bz_c33_m1 a.1
  unfold fn_Reader_slotNamed fn_Md_variableOf
  rw [m4, bz_ck (by omega), cz_lat a.1 hM h3 c1 c4, bz_bc, bz_ck (by omega), bz_bn, bz_bn, f2, bz_bn]
  have lp : ∀ (r n m : Nat), (r : Int) ≤ hm 80 (c - 1) → ∃ q, fn_Reader_slotNamed_13 (n + r + 1) 30 (hm 80 (c - 1)) (hm 80 (c - 1) - (r : Int)) hc = some (q, hc) ∧ fn_Md_variableOf_2 (m + r + 1) 67 (c - 1) (hm 80 (c - 1) - (r : Int)) hm = some (q, hm) ∧ -1 ≤ q ∧ q ≤ 7 := by
    intro r
    induction r with
    | zero =>
      intro n m _
      refine ⟨-1, ?_, ?_, by omega, by omega⟩
      · show fn_Reader_slotNamed_13_b _ 30 _ _ hc = _
        unfold fn_Reader_slotNamed_13_b
        rw [if_pos (by omega)]; rfl
      · show fn_Md_variableOf_2_b _ 67 _ _ hm = _
        unfold fn_Md_variableOf_2_b
        rw [bz_m67_17 b.1, bz_ck (by omega), bz_m80_m1 b.1, bz_ck (by omega), if_pos (by omega)]
    | succ r ih =>
      intro n m hr
      obtain ⟨q, q1, q2, q3, q4⟩ := ih n m (by omega)
      generalize hx : hm 80 (c - 1) - ((r + 1 : Nat) : Int) = x at *
      have hx1 : hm 80 (c - 1) - (r : Int) = x + 1 := by omega
      rw [hx1] at q1 q2
      have cs : fn_Reader_slotNamed_13 (n + (r + 1) + 1) 30 (hm 80 (c - 1)) x hc = if hc 33 x = -1 then some (q, hc) else qz_bc (fn_Scanner_same 34 (hc 33 x) s hc) fun r1 h2 => if r1 = 0 then fn_Reader_slotNamed_13 (n + r + 1) 30 (hm 80 (c - 1)) (x + 1) h2 else some (x, h2) := by
        show fn_Reader_slotNamed_13_b (fn_Reader_slotNamed_13 (n + r + 1)) 30 _ _ hc = _
        unfold fn_Reader_slotNamed_13_b fn_Reader_slotNamed_59
        dsimp only [qz_bn]
        rw [if_neg (by omega), if_neg (by omega), c33, bz_ck (by omega), c33m, bz_ck (by omega), bz_ck (by omega), bz_ck (by omega), c30, bz_ck (by omega), bz_ck (by omega), k2, bz_w (by omega) (by omega), q1]
      have ms : fn_Md_variableOf_2 (m + (r + 1) + 1) 67 (c - 1) x hm = if hm 89 x ≤ 0 then some (q, hm) else qz_bc (fn_Md_sameName 67 (hm 88 x) (hm 89 x) s (L : Int) hm) fun r1 h2 => if r1 = 0 then fn_Md_variableOf_2 (m + r + 1) 67 (c - 1) (x + 1) h2 else some (x, h2) := by
        show fn_Md_variableOf_2_b (fn_Md_variableOf_2 (m + r + 1)) 67 _ _ hm = _
        unfold fn_Md_variableOf_2_b fn_Md_variableOf_50
        dsimp only [qz_bn]
        rw [bz_m67_17 b.1, bz_ck (by omega), bz_m80_m1 b.1, bz_ck (by omega), if_neg (by omega), bz_m67_27 b.1, bz_ck (by omega), bz_m89_m1 b.1, bz_ck (by omega), bz_m67_26 b.1, bz_ck (by omega), bz_m88_m1 b.1, bz_ck (by omega), bz_ck (by omega), bz_ck (by omega), k3, g3, bz_w (by omega) (by omega), q2]
      rw [cs, ms]
      rcases (nm x (by omega) (by omega)).cmp w a b hw with ⟨x1, x2⟩ | ⟨x1, x2, _, y, y1, _, y2, y3⟩
      · rw [if_pos x1, if_pos x2]
        exact ⟨q, rfl, rfl, q3, q4⟩
      · rw [if_neg x1, if_neg x2, y2, y3, bz_bc, bz_bc]
        rcases y1 with rfl | rfl
        · rw [if_pos rfl, if_pos rfl]
          exact ⟨q, q1, q2, q3, q4⟩
        · rw [if_neg (by omega), if_neg (by omega)]
          exact ⟨x, rfl, rfl, by omega, by omega⟩
  have := lp (hm 80 (c - 1)).toNat (3999 - (hm 80 (c - 1)).toNat) (3999 - (hm 80 (c - 1)).toNat) (by omega)
  rw [show hm 80 (c - 1) - ((hm 80 (c - 1)).toNat : Int) = 0 by omega, show 3999 - (hm 80 (c - 1)).toNat + (hm 80 (c - 1)).toNat + 1 = qz_NF by unfold qz_NF; omega] at this
  exact this
end SC
