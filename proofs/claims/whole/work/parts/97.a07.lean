section SC
variable {t : Int → Int} {N T : Int} {hc hm : qz_H}
theorem cz_iwM (w : cz_tt t N) (b : bz_LM hm) {s : Int} {L : Nat} (h : cz_wd t s L) (h1 : hm 67 33 = 3) (h3 : hm 67 35 = (L : Int)) (h6 : hm 67 36 = cz_h1 t s L) (h7 : hm 67 37 = cz_h2 t s L) {x : Int} (ow : cz_ow t s L x) : fn_Md_instructionWord 67 hm = some (cz_ix x, hm) := by
  have cz : ∀ x y : Int, qz_cmp x y = 0 ↔ x = y := by
    intro x y
    unfold qz_cmp
    split <;> (try split) <;> omega
  have hl := cz_W_len t s L
  have st : ∀ (m l : Nat) (l1 : Int), l < 30 → fn_Md_instructionWord_4 (m + 1) 67 l1 (l : Int) hm = fn_Md_instructionWord_4 m 67 (if cz_W t s L = bz_wd (-((cz_iw.getD l 0 : Int) + 1)) then (l : Int) else l1) ((l + 1 : Nat) : Int) hm := by
    intro m l l1 hl30
    obtain ⟨q1, q2, q3, q4, q5, q6⟩ := cz_iwd l hl30
    show fn_Md_instructionWord_4_b (fn_Md_instructionWord_4 m) 67 l1 (l : Int) hm = _
    unfold fn_Md_instructionWord_4_b fn_Md_instructionWord_59 fn_Md_instructionWord_60
    rw [if_neg (by omega), if_neg (by omega), h3, bz_bn, bz_bn, bz_bn, bz_bn, bz_w (by omega) (by omega), show (l : Int) + 1 = ((l + 1 : Nat) : Int) by omega]
    by_cases c : L ≤ 16
    · rw [if_neg (by omega), bz_m67_0 b, bz_ck (by omega), bz_m68_m1 b, bz_ck (by omega), bz_m67_1 b, bz_ck (by omega), bz_m69_m1 b, bz_ck (by omega), bz_t68 b hl30, bz_t69 b hl30, h6, h7, q3, q4]
      have e := cz_pl2 (cz_sgb w h) q6 (by omega) q5
      unfold cz_h1 cz_h2
      by_cases d1 : cz_pl ((cz_W t s L).take 8) = cz_pl ((bz_wd (-((cz_iw.getD l 0 : Int) + 1))).take 8)
      · rw [if_neg (fun z => z ((cz _ _).mpr d1))]
        by_cases d2 : cz_pl (((cz_W t s L).drop 8).take 8) = cz_pl (((bz_wd (-((cz_iw.getD l 0 : Int) + 1))).drop 8).take 8)
        · rw [if_neg (fun z => z ((cz _ _).mpr d2)), if_pos (e.mp ⟨d1, d2⟩)]
        · rw [if_pos (fun z => d2 ((cz _ _).mp z)), if_neg]
          intro z
          exact d2 (e.mpr z).2
      · rw [if_pos (fun z => d1 ((cz _ _).mp z)), if_neg]
        intro z
        exact d1 (e.mpr z).1
    · rw [if_pos (by omega), if_neg]
      intro z
      rw [← z, hl] at q5
      omega
  have nm : ∀ (r m : Nat) (l1 : Int), r ≤ 30 → (∀ l : Nat, 30 - r ≤ l → l < 30 → cz_W t s L ≠ bz_wd (-((cz_iw.getD l 0 : Int) + 1))) → fn_Md_instructionWord_4 (m + r + 1) 67 l1 ((30 - r : Nat) : Int) hm = some (l1, hm) := by
    intro r
    induction r with
    | zero =>
      intro m l1 _ _
      show fn_Md_instructionWord_4_b _ 67 l1 _ hm = _
      unfold fn_Md_instructionWord_4_b
      rw [if_pos (by omega)]
    | succ r ih =>
      intro m l1 hr hp
      rw [show m + (r + 1) + 1 = (m + r + 1) + 1 by omega, st _ _ _ (by omega), if_neg (hp _ (by omega) (by omega)), show 30 - (r + 1) + 1 = 30 - r by omega]
      exact ih m l1 (by omega) fun l l2 l3 => hp l (by omega) l3
  have ym : ∀ (r m i : Nat) (l1 : Int), r ≤ 30 → 30 - r ≤ i → i < 30 → cz_W t s L = bz_wd (-((cz_iw.getD i 0 : Int) + 1)) → fn_Md_instructionWord_4 (m + r + 1) 67 l1 ((30 - r : Nat) : Int) hm = some ((i : Int), hm) := by
    intro r
    induction r with
    | zero => intro m i l1 _ _ _ _; omega
    | succ r ih =>
      intro m i l1 hr i1 i2 e
      rw [show m + (r + 1) + 1 = (m + r + 1) + 1 by omega, st _ _ _ (by omega), show 30 - (r + 1) + 1 = 30 - r by omega]
      by_cases c : i = 30 - (r + 1)
      · rw [if_pos (by rw [← c]; exact e), ← c]
        refine nm r m _ (by omega) fun l l2 l3 z => ?_
        have q1 := cz_iwd i i2
        have q2 := cz_iwd l l3
        have := cz_wdi _ q1.1 _ q2.1 (e.symm.trans z)
        have q3 := q1.2.1
        rw [this, q2.2.1] at q3
        omega
      · rw [if_neg]
        · exact ih m i _ (by omega) (by omega) i2 e
        · intro z
          have q1 := cz_iwd i i2
          have q2 := cz_iwd (30 - (r + 1)) (by omega)
          have := cz_wdi _ q1.1 _ q2.1 (e.symm.trans z)
          have q3 := q1.2.1
          rw [this, q2.2.1] at q3
          omega
  unfold fn_Md_instructionWord cz_ix
  rw [bz_bn, bz_bn]
  rcases ow with ⟨rfl, z⟩ | ⟨j, j1, rfl, z⟩
  · rw [if_pos rfl]
    have := nm 30 3969 (-1) (by omega) fun l _ l3 => z _ (cz_iwd l l3).1
    exact this
  · rw [if_neg (by omega)]
    have e1 : (-(-((j : Int) + 1)) - 1).toNat = j := by omega
    rw [e1]
    obtain ⟨q1, q2⟩ := cz_wow j j1
    have := ym 30 3969 (bz_wo.getD j 0) (-1) (by omega) (by omega) q1 (by rw [q2]; exact z)
    exact this
theorem cz_iwM0 (h1 : hm 67 33 ≠ 3) : fn_Md_instructionWord 67 hm = some (-1, hm) := by
  have lp : ∀ (r m : Nat), r ≤ 30 → fn_Md_instructionWord_4 (m + r + 1) 67 (-1) ((30 - r : Nat) : Int) hm = some (-1, hm) := by
    intro r
    induction r with
    | zero =>
      intro m _
      show fn_Md_instructionWord_4_b _ 67 _ _ hm = _
      unfold fn_Md_instructionWord_4_b
      rw [if_pos (by omega)]
    | succ r ih =>
      intro m hr
      show fn_Md_instructionWord_4_b (fn_Md_instructionWord_4 (m + r + 1)) 67 _ _ hm = _
      unfold fn_Md_instructionWord_4_b fn_Md_instructionWord_59 fn_Md_instructionWord_60
      rw [if_neg (by omega), if_pos h1, bz_bn, bz_bn, bz_w (by omega) (by omega), show ((30 - (r + 1) : Nat) : Int) + 1 = ((30 - r : Nat) : Int) by omega]
      exact ih m (by omega)
  unfold fn_Md_instructionWord
  rw [bz_bn, bz_bn]
  exact lp 30 3969 (by omega)
/-- where both stand: at a token of kind k, from s on, a word of L characters -/
def cz_tk (t : Int → Int) (N : Int) (hc hm : qz_H) (k s : Int) (L : Nat) : Prop := hc 34 1 = k ∧ hc 34 2 = s ∧ hm 67 34 = s ∧ hm 67 33 = (if k = 4 then 0 else k + 1) ∧ 0 ≤ s ∧ s ≤ N ∧
  ((k = 0 ∨ k = 1) ∧ s < N ∧ hc 34 3 = s + 1 ∧ hm 67 32 = s + 1 ∧ hc 34 4 = 0 ∨
   k = 2 ∧ cz_wd t s L ∧ hc 34 3 = s + (L : Int) ∧ hm 67 32 = s + (L : Int) ∧ hm 67 35 = (L : Int) ∧ hm 67 36 = cz_h1 t s L ∧ hm 67 37 = cz_h2 t s L ∧ cz_ow t s L (hc 34 4) ∨
   (k = 3 ∨ k = 4) ∧ hc 34 4 = 0)
def cz_fc (h h' : qz_H) : Prop := ∀ o i : Int, ¬ (o = 34 ∧ 1 ≤ i ∧ i ≤ 4) → h' o i = h o i
def cz_fm (h h' : qz_H) : Prop := ∀ o i : Int, ¬ (o = 67 ∧ 32 ≤ i ∧ i ≤ 37) → h' o i = h o i
theorem cz_fc.tc {h h' : qz_H} (f : cz_fc h h') (a : cz_tc t N T h) : cz_tc t N T h' := by
  obtain ⟨hL, a1, hT, a3, a4⟩ := a
  refine ⟨⟨fun q hq => ?_, fun x j x1 x2 x3 x4 => by rw [f _ _ (by omega)]; exact hL.2 x j x1 x2 x3 x4⟩, by rw [f _ _ (by omega)]; exact a1, hT, by rw [f _ _ (by omega)]; exact a3, fun k k0 k1 => by rw [f _ _ (by omega)]; exact a4 k k0 k1⟩
  have z : ∀ q ∈ bz_TC, q.1 ≠ 34 := by decide +kernel
  rw [f _ _ (by have := z q hq; omega)]
  exact hL.1 q hq
theorem cz_fm.tm {h h' : qz_H} (f : cz_fm h h') (a : cz_tm t N h) : cz_tm t N h' := by
  obtain ⟨hL, a1, a2⟩ := a
  refine ⟨fun q hq => ?_, by rw [f _ _ (by omega)]; exact a1, fun k k0 k1 => by rw [f _ _ (by omega)]; exact a2 k k0 k1⟩
  have z : ∀ q ∈ bz_TM, ¬ (q.1 = 67 ∧ 32 ≤ q.2.1 ∧ q.2.1 ≤ 37) := by decide +kernel
  rw [f _ _ (z q hq)]
  exact hL q hq
/-- the end of next: which instruction -/
theorem cz_n146 (w : cz_tt t N) (a : cz_tc t N T hc) {s : Int} {L : Nat} (h2 : hc 34 2 = s) (hk : hc 34 1 ≠ 2 ∨ hc 34 1 = 2 ∧ hc 34 3 = s + (L : Int) ∧ cz_wd t s L) : ∃ x, fn_Scanner_next_146 34 hc = some (0, qz_up hc 34 4 x) ∧ (hc 34 1 ≠ 2 → x = 0) ∧ (hc 34 1 = 2 → cz_ow t s L x) := by
  have key : ∃ x, fn_Scanner_findOp 34 hc = some (x, hc) ∧ (hc 34 1 ≠ 2 → x = 0) ∧ (hc 34 1 = 2 → cz_ow t s L x) := by
    rcases hk with hk | ⟨hk, h3, h⟩
    · obtain ⟨x, x1, x2⟩ := cz_fop a.1 (fun _ => False) fun j hj => ⟨fun z => absurd z (fun z => z), fun _ => cz_isC0 hk _⟩
      refine ⟨x, x1, fun _ => ?_, fun z => absurd z hk⟩
      rcases x2 with ⟨x2, _⟩ | ⟨_, _, _, z⟩
      · exact x2
      · exact absurd z (fun z => z)
    · obtain ⟨x, x1, x2⟩ := cz_fop a.1 (fun j => cz_W t s L = bz_wd (-((j : Int) + 1))) fun j hj => by
        have q := bz_op_wd (x := -((j : Int) + 1)) (by omega) (by omega)
        have e := cz_isC w a h hk h2 h3 q.2
        rw [← q.1] at e
        have e : fn_Scanner_is 34 (kz_dt (-((j : Int) + 1)) 0) hc = some (if cz_W t s L = bz_wd (-((j : Int) + 1)) then 1 else 0, hc) := e
        refine ⟨fun z => ?_, fun z => ?_⟩
        · rw [e, if_pos z]
        · rw [e, if_neg z]
      exact ⟨x, x1, fun z => absurd hk z, fun _ => x2⟩
  obtain ⟨x, x1, x2, x3⟩ := key
  refine ⟨x, ?_, x2, x3⟩
  unfold fn_Scanner_next_146
  rw [x1, bz_bc, bz_ck (by omega), bz_bn]
end SC
