/-! The bytes of a module: what the model writes. -/
def bz_XM (h : qz_H) (P : qz_H) (L : List Int) : Prop := bz_LM h ∧ bz_MM h P ∧ h 67 60 = L.length ∧ ∀ k : Nat, k < L.length → h 107 (k : Int) = L.getD k 0
def bz_fx (h h' : qz_H) : Prop := ∀ o i : Int, o ≠ 107 → ¬ (o = 67 ∧ i = 60) → h' o i = h o i
theorem bz_fx.rf (h : qz_H) : bz_fx h h := fun _ _ _ _ => rfl
theorem bz_fx.tr {h h1 h2 : qz_H} (a : bz_fx h h1) (b : bz_fx h1 h2) : bz_fx h h2 := fun o i z1 z2 => (b o i z1 z2).trans (a o i z1 z2)
theorem bz_fx.LM {h h' : qz_H} (f : bz_fx h h') (hL : bz_LM h) (hx : h' 107 (-1) = h 107 (-1)) : bz_LM h' := by
  intro q hq
  have z : ∀ q ∈ bz_TM, (q.1 = 107 → q.2.1 = -1) ∧ ¬ (q.1 = 67 ∧ q.2.1 = 60) := by decide +kernel
  obtain ⟨z1, z2⟩ := z q hq
  by_cases c : q.1 = 107
  · rw [c, z1 c, hx, ← hL q hq, c, z1 c]
  · rw [f _ _ c z2]
    exact hL q hq
theorem bz_fx.MM {h h' P : qz_H} (f : bz_fx h h') (mm : bz_MM h P) : bz_MM h' P := bz_MM_same (f 67 7 (by omega) (by omega)) (fun o i o1 o2 => f o i (by omega) (by omega)) mm
section ENM
variable {P : qz_H}
theorem bz_mAdd {h : qz_H} {L : List Int} (xm : bz_XM h P L) (hl : L.length < 1400) {c : Int} (c0 : 0 ≤ c) (c1 : c ≤ 255) : ∃ h', fn_Md_add 67 c h = some (0, h') ∧ bz_XM h' P (L ++ [c]) ∧ bz_fx h h' := by
  obtain ⟨hL, mm, hn, hb⟩ := xm
  have e : fn_Md_add 67 c h = some (0, qz_up (qz_up h 107 (h 67 60) c) 67 60 (h 67 60 + 1)) := by
    unfold fn_Md_add
    rw [bz_m67_61 hL, bz_m107_m1 hL, bz_ck (by omega), bz_ck (by omega), bz_bn, bz_ck (by omega), bz_bn, bz_uo (by omega), bz_w (by omega) (by omega), bz_and255e]
    rw [show c % 256 = c from by omega]
  have fx : bz_fx h (qz_up (qz_up h 107 (h 67 60) c) 67 60 (h 67 60 + 1)) := by
    intro o i o1 o2
    have z : qz_up (qz_up h 107 (h 67 60) c) 67 60 (h 67 60 + 1) o i = qz_up h 107 (h 67 60) c o i := if_neg o2
    rw [z, bz_uo o1]
  refine ⟨_, e, ⟨fx.LM hL (by rw [bz_uo (by omega), bz_ui (by omega)]), fx.MM mm, by rw [bz_us, hn, List.length_append]; simp, fun k hk => ?_⟩, fx⟩
  rw [bz_uo (by omega), List.getD_eq_getElem?_getD]
  rw [List.length_append, List.length_singleton] at hk
  by_cases q : k < L.length
  · rw [bz_ui (by omega), hb k q, List.getElem?_append_left q, List.getD_eq_getElem?_getD]
  · have hk' : k = L.length := by omega
    subst hk'
    rw [hn, bz_us, List.getElem?_append_right (by omega)]
    simp
def bz_en (P : qz_H) (fn : qz_H → Option qz_R) (l : List Int) : Prop := ∀ (h : qz_H) (L : List Int), bz_XM h P L → L.length + l.length ≤ 1000 → ∃ h', fn h = some (0, h') ∧ bz_XM h' P (L ++ l) ∧ bz_fx h h'
theorem bz_en_add {c : Int} (c0 : 0 ≤ c) (c1 : c ≤ 255) : bz_en P (fn_Md_add 67 c) [c] := fun h L xm hl => by
  rw [List.length_singleton] at hl
  exact bz_mAdd xm (by omega) c0 c1
theorem bz_en_U {v : Int} (v0 : 0 ≤ v) (v1 : v ≤ 4294967295) : bz_en P (fn_Md_unsigned 67 v) (bz_U v) := by
  have key : ∀ (m n : Nat) (v : Int) (h : qz_H) (L : List Int), 0 ≤ v → v < 128 * 128 ^ m → v ≤ 4294967295 → bz_XM h P L → L.length + (bz_un m v).length ≤ 1000 → ∃ h', fn_Md_unsigned_2 (n + m + 1) 67 v h = some (0, h') ∧ bz_XM h' P (L ++ bz_un m v) ∧ bz_fx h h' := by
    intro m
    induction m with
    | zero =>
      intro n v h L v0 vm v1 xm hl
      rw [bz_un] at hl ⊢
      simp only [Int.pow_zero] at vm
      have e : v % 128 = v := by omega
      rw [e] at hl ⊢
      obtain ⟨h', e1, e2, e3⟩ := bz_en_add (c := v) (by omega) (by omega) h L xm hl
      refine ⟨h', ?_, e2, e3⟩
      rw [fn_Md_unsigned_2]
      unfold fn_Md_unsigned_2_b
      have z : qz_cmp v 127 ≤ 0 := by unfold qz_cmp; split; omega; split <;> omega
      rw [if_pos z, bz_w (by omega) (by omega), e1, bz_bc]
    | succ m ih =>
      intro n v h L v0 vm v1 xm hl
      rw [bz_un] at hl ⊢
      rw [show n + (m + 1) + 1 = (n + m + 1) + 1 from by omega, fn_Md_unsigned_2]
      unfold fn_Md_unsigned_2_b
      by_cases c : v ≤ 127
      · rw [if_pos c] at hl ⊢
        have e : v % 128 = v := by omega
        rw [e] at hl ⊢
        obtain ⟨h', e1, e2, e3⟩ := bz_en_add (c := v) (by omega) (by omega) h L xm hl
        refine ⟨h', ?_, e2, e3⟩
        have z : qz_cmp v 127 ≤ 0 := by unfold qz_cmp; split; omega; split <;> omega
        rw [if_pos z, bz_w (by omega) (by omega), e1, bz_bc]
      · rw [if_neg c] at hl ⊢
        rw [List.length_cons] at hl
        obtain ⟨h', e1, e2, e3⟩ := bz_en_add (c := v % 128 + 128) (by omega) (by omega) h L xm (by rw [List.length_singleton]; omega)
        have hv : v / 128 < 128 * 128 ^ m := by
          rw [Int.pow_succ] at vm
          have hp : (0 : Int) < 128 ^ m := Int.pow_pos (by omega)
          generalize (128 : Int) ^ m = y at *
          omega
        obtain ⟨h2, g1, g2, g3⟩ := ih n (v / 128) h' (L ++ [v % 128 + 128]) (by omega) hv (by omega) e2 (by rw [List.length_append, List.length_singleton]; omega)
        refine ⟨h2, ?_, by rw [List.append_assoc] at g2; exact g2, e3.tr g3⟩
        rw [bz_cmp_gt (by omega), if_neg (by omega), bz_andJ, bz_w (by omega) (by omega), bz_or8 (by omega) (by omega), e1, bz_bc, bz_bn, bz_ushJ v0 (by omega), g1]
  intro h L xm hl
  unfold fn_Md_unsigned
  simp only [bz_bn]
  exact key 9 3990 v h L v0 (by have : (128 : Int) ^ 9 = 9223372036854775808 := by decide +kernel
                                omega) v1 xm hl
theorem bz_en_S {v : Int} (v0 : -9223372036854775808 ≤ v) (v1 : v ≤ 9223372036854775807) : bz_en P (fn_Md_signed 67 v) (bz_S v) := by
  have key : ∀ (m n : Nat) (v : Int) (h : qz_H) (L : List Int), -9223372036854775808 ≤ v → v ≤ 9223372036854775807 → -(64 * 128 ^ m) ≤ v → v < 64 * 128 ^ m → bz_XM h P L → L.length + (bz_sg m v).length ≤ 1000 → ∃ h', fn_Md_signed_2 (n + m + 1) 67 v h = some (0, h') ∧ bz_XM h' P (L ++ bz_sg m v) ∧ bz_fx h h' := by
    intro m
    have g63 : ∀ v : Int, 0 < qz_cmp v 63 ↔ 63 < v := by
      intro v
      unfold qz_cmp
      split
      · omega
      split <;> omega
    induction m with
    | zero =>
      intro n v h L v0 v1 w0 w1 xm hl
      rw [bz_sg] at hl ⊢
      simp only [Int.pow_zero] at w0 w1
      obtain ⟨h', e1, e2, e3⟩ := bz_en_add (c := v % 128) (by omega) (by omega) h L xm hl
      refine ⟨h', ?_, e2, e3⟩
      rw [fn_Md_signed_2]
      unfold fn_Md_signed_2_b
      rw [if_neg (by rw [g63]; omega), if_pos (by rw [bz_cmp_nn]; omega), bz_andJ, bz_w (by omega) (by omega), e1, bz_bc]
    | succ m ih =>
      intro n v h L v0 v1 w0 w1 xm hl
      rw [bz_sg] at hl ⊢
      rw [show n + (m + 1) + 1 = (n + m + 1) + 1 from by omega, fn_Md_signed_2]
      unfold fn_Md_signed_2_b fn_Md_signed_18
      by_cases c : -64 ≤ v ∧ v ≤ 63
      · rw [if_pos c] at hl ⊢
        obtain ⟨h', e1, e2, e3⟩ := bz_en_add (c := v % 128) (by omega) (by omega) h L xm hl
        refine ⟨h', ?_, e2, e3⟩
        rw [if_neg (by rw [g63]; omega), if_pos (by rw [bz_cmp_nn]; omega), bz_andJ, bz_w (by omega) (by omega), e1, bz_bc]
      · rw [if_neg c] at hl ⊢
        rw [List.length_cons] at hl
        obtain ⟨h', e1, e2, e3⟩ := bz_en_add (c := v % 128 + 128) (by omega) (by omega) h L xm (by rw [List.length_singleton]; omega)
        have hv : -(64 * 128 ^ m) ≤ v / 128 ∧ v / 128 < 64 * 128 ^ m := by
          rw [Int.pow_succ] at w0 w1
          have hp : (0 : Int) < 128 ^ m := Int.pow_pos (by omega)
          generalize (128 : Int) ^ m = y at *
          omega
        obtain ⟨h2, g1, g2, g3⟩ := ih n (v / 128) h' (L ++ [v % 128 + 128]) (by omega) (by omega) hv.1 hv.2 e2 (by rw [List.length_append, List.length_singleton]; omega)
        refine ⟨h2, ?_, by rw [List.append_assoc] at g2; exact g2, e3.tr g3⟩
        simp only [bz_bn]
        rw [bz_andJ, bz_shr7 v0 v1, bz_w (by omega) (by omega), bz_or8 (by omega) (by omega), e1, bz_bc]
        by_cases c1 : 63 < v
        · rw [if_pos ((g63 v).mpr c1), g1]
        · rw [if_neg (fun z => c1 ((g63 v).mp z)), if_neg (by rw [bz_cmp_nn]; omega), g1]
  intro h L xm hl
  unfold fn_Md_signed
  simp only [bz_bn]
  have e9 : (128 : Int) ^ 9 = 9223372036854775808 := by decide +kernel
  exact key 9 3990 v h L v0 v1 (by omega) (by omega) xm hl
theorem bz_tyM {t : Int} (t0 : 0 ≤ t) (t1 : t ≤ 2) (h : qz_H) : fn_Md_typeByte t h = some (bz_ty t, h) := by
  unfold fn_Md_typeByte fn_Md_typeByte_22 bz_ty
  by_cases c1 : t = 1
  · rw [if_neg (by omega), if_neg (by omega), if_pos c1]
  by_cases c2 : t = 2
  · rw [if_pos c1, if_neg (by omega), if_neg (by omega), if_neg c1]
  · rw [if_pos c1, if_pos c2, if_pos (by omega)]
theorem bz_mPut {h : qz_H} {A B : List Int} (xm : bz_XM h P (A ++ B)) (hl : A.length + B.length ≤ 1000) : ∃ h', fn_Md_close 67 A.length h = some (0, h') ∧ bz_XM h' P (A ++ (bz_U B.length ++ B)) ∧ bz_fx h h' := by
  have hn : h 67 60 = (A.length : Int) + B.length := by rw [xm.2.2.1, List.length_append]; omega
  have key : ∀ (W : Int), (W = 1 ∨ W = 2) → ∀ (m n : Nat) (j : Int) (h5 : qz_H), bz_LM h5 → (m : Int) + A.length = j + 1 → j < (A.length : Int) + B.length → ∃ h6, fn_Md_close_27 (n + m + 1) 67 A.length B.length W j h5 = fn_Md_close_27 (n + 1) 67 A.length B.length W ((A.length : Int) - 1) h6 ∧ bz_LM h6 ∧ bz_fx h5 h6 ∧ h6 67 60 = h5 67 60 ∧ ∀ k : Int, h6 107 k = if (A.length : Int) + W ≤ k ∧ k ≤ j + W then h5 107 (k - W) else h5 107 k := by
    intro W hW m
    induction m with
    | zero =>
      intro n j h5 hL hm hj
      refine ⟨h5, ?_, hL, bz_fx.rf _, rfl, fun k => by rw [if_neg (by omega)]⟩
      rw [show j = (A.length : Int) - 1 from by omega]
    | succ m ih =>
      intro n j h5 hL hm hj
      have hL1 : bz_LM (qz_up h5 107 (j + W) (h5 107 j)) := bz_LM_up (a := 107) (b := 107) (c := 0) (e := 1400) (by decide +kernel) (by omega) (by omega) (by omega) (by omega) hL
      obtain ⟨h6, e1, e2, e3, e4, e5⟩ := ih n (j - 1) (qz_up h5 107 (j + W) (h5 107 j)) hL1 (by omega) (by omega)
      refine ⟨h6, ?_, e2, fun o i o1 o2 => (e3 o i o1 o2).trans (bz_uo o1), by rw [e4, bz_uo (by omega)], fun k => ?_⟩
      · rw [show n + (m + 1) + 1 = (n + m + 1) + 1 from by omega, fn_Md_close_27]
        unfold fn_Md_close_27_b
        rw [if_neg (by omega), bz_m67_61 hL, bz_m107_m1 hL, bz_w (show -2147483648 ≤ j + W by omega) (by omega), bz_ck (by omega), bz_ck (by omega), bz_ck (by omega), bz_ck (by omega), bz_bn, bz_bn, bz_w (by omega) (by omega), show j + -1 = j - 1 from by omega, e1]
      · rw [e5 k]
        by_cases q : (A.length : Int) + W ≤ k ∧ k ≤ j - 1 + W
        · rw [if_pos q, if_pos (by omega), bz_ui (by omega)]
        · rw [if_neg q]
          by_cases q2 : k = j + W
          · rw [if_pos (by omega), q2, bz_us, show j + W - W = j from by omega]
          · rw [if_neg (by omega), bz_ui q2]
  -- the end: from the moved bytes on
  have fin : ∀ (W : Int) (h6 h9 : qz_H) (u : List Int), (u.length : Int) = W → 1 ≤ W → W ≤ 2 → bz_LM h9 → bz_fx h h9 → h9 67 60 = (A.length : Int) + B.length + W → (∀ k : Int, h6 107 k = if (A.length : Int) + W ≤ k ∧ k ≤ (A.length : Int) + B.length - 1 + W then h 107 (k - W) else h 107 k) → (∀ k : Int, (k < A.length ∨ (A.length : Int) + W ≤ k) → h9 107 k = h6 107 k) → (∀ k : Nat, k < u.length → h9 107 ((A.length : Int) + k) = u.getD k 0) → bz_XM h9 P (A ++ (u ++ B)) := by
    intro W h6 h9 u hu W1 W2 hL9 fx9 n9 m6 m9 mu
    refine ⟨hL9, fx9.MM xm.2.1, by rw [n9, List.length_append, List.length_append]; omega, fun k hk => ?_⟩
    rw [List.length_append, List.length_append] at hk
    rw [List.getD_eq_getElem?_getD]
    by_cases q1 : k < A.length
    · rw [m9 k (by omega), m6 k, if_neg (by omega), xm.2.2.2 k (by rw [List.length_append]; omega), List.getD_eq_getElem?_getD, List.getElem?_append_left q1, List.getElem?_append_left q1]
    · rw [List.getElem?_append_right (by omega)]
      by_cases q2 : k - A.length < u.length
      · have z := mu (k - A.length) q2
        rw [show (A.length : Int) + ((k - A.length : Nat) : Int) = (k : Int) from by omega] at z
        rw [z, List.getElem?_append_left q2, List.getD_eq_getElem?_getD]
      · rw [m9 k (by omega), m6 k, if_pos (by omega), show (k : Int) - W = ((k - u.length : Nat) : Int) from by omega, xm.2.2.2 _ (by rw [List.length_append]; omega), List.getD_eq_getElem?_getD, List.getElem?_append_right (l₁ := A) (by omega), List.getElem?_append_right (l₁ := u) (by omega)]
        congr 2
        omega
  unfold fn_Md_close fn_Md_close_18
  simp only [bz_bn]
  rw [hn, bz_w (show -2147483648 ≤ (A.length : Int) + B.length - A.length by omega) (by omega), show (A.length : Int) + B.length - A.length = B.length from by omega, bz_w (show -2147483648 ≤ (A.length : Int) + B.length - 1 by omega) (by omega)]
  rw [bz_U2 (show (B.length : Int) < 16384 by omega)]
  by_cases c : (B.length : Int) ≤ 127
  · rw [if_pos c, if_pos c]
    obtain ⟨h6, e1, e2, e3, e4, e5⟩ := key 1 (Or.inl rfl) B.length (3999 - B.length) ((A.length : Int) + B.length - 1) h xm.1 (by omega) (by omega)
    rw [show 3999 - B.length + B.length + 1 = qz_NF from by unfold qz_NF; omega] at e1
    rw [e1, fn_Md_close_27]
    unfold fn_Md_close_27_b fn_Md_close_78 fn_Md_close_97
    simp only [bz_bn]
    rw [if_pos (by omega), if_pos c, if_pos c, bz_m67_61 e2, bz_ck (by omega), bz_m107_m1 e2, bz_ck (by omega), bz_ck (by omega), bz_uo (by omega), e4, hn, bz_w (by omega) (by omega)]
    refine ⟨_, rfl, ?_, ?_⟩
    · refine fin 1 h6 _ [(B.length : Int) % 128] rfl (by omega) (by omega) ?_ ?_ (by rw [bz_us]) e5 (fun k hk => by rw [bz_uo (by omega), bz_ui (by omega)]) (fun k hk => ?_)
      · exact bz_LM_up (a := 67) (b := 67) (c := 60) (e := 60) (by decide +kernel) (by omega) (by omega) (by omega) (by omega) (bz_LM_up (a := 107) (b := 107) (c := 0) (e := 1400) (by decide +kernel) (by omega) (by omega) (by omega) (by omega) e2)
      · exact (e3.tr fun o i o1 o2 => bz_uo o1).tr fun o i o1 o2 => if_neg o2
      · rw [List.length_singleton] at hk
        have : k = 0 := by omega
        subst this
        rw [bz_uo (by omega), show (A.length : Int) + ((0 : Nat) : Int) = A.length from by omega, bz_us]
        show (B.length : Int) = (B.length : Int) % 128
        omega
    · exact (e3.tr fun o i o1 o2 => bz_uo o1).tr fun o i o1 o2 => if_neg o2
  · rw [if_neg c, if_neg c]
    obtain ⟨h6, e1, e2, e3, e4, e5⟩ := key 2 (Or.inr rfl) B.length (3999 - B.length) ((A.length : Int) + B.length - 1) h xm.1 (by omega) (by omega)
    rw [show 3999 - B.length + B.length + 1 = qz_NF from by unfold qz_NF; omega] at e1
    have eshr : qz_shr (B.length : Int) 7 = (B.length : Int) / 128 := by
      have z : ∀ n : Nat, n < 1001 → qz_shr (n : Int) 7 = (n : Int) / 128 := by decide +kernel
      exact z B.length (by omega)
    rw [e1, fn_Md_close_27]
    unfold fn_Md_close_27_b fn_Md_close_78 fn_Md_close_97
    simp only [bz_bn]
    have e2' : bz_LM (qz_up h6 107 (A.length : Int) (qz_or (qz_and (B.length : Int) 127) 128)) := bz_LM_up (a := 107) (b := 107) (c := 0) (e := 1400) (by decide +kernel) (by omega) (by omega) (by omega) (by omega) e2
    rw [if_pos (by omega), if_neg c, if_neg c, bz_m67_61 e2, bz_ck (by omega), bz_m107_m1 e2, bz_ck (by omega), bz_m67_61 e2', bz_ck (by omega), bz_m107_m1 e2', bz_w (show -2147483648 ≤ (A.length : Int) + 1 by omega) (by omega), bz_ck (by omega), bz_ck (by omega), bz_uo (by omega), bz_uo (by omega), e4, hn, bz_w (by omega) (by omega), eshr, bz_and32, bz_or8 (by omega) (by omega)]
    refine ⟨_, rfl, ?_, ?_⟩
    · refine fin 2 h6 _ [(B.length : Int) % 128 + 128, (B.length : Int) / 128] rfl (by omega) (by omega) ?_ ?_ (by rw [bz_us]) e5 (fun k hk => by rw [bz_uo (by omega), bz_ui (by omega), bz_ui (by omega)]) (fun k hk => ?_)
      · refine bz_LM_up (a := 67) (b := 67) (c := 60) (e := 60) (by decide +kernel) (by omega) (by omega) (by omega) (by omega) (bz_LM_up (a := 107) (b := 107) (c := 0) (e := 1400) (by decide +kernel) (by omega) (by omega) (by omega) (by omega) ?_)
        exact bz_LM_up (a := 107) (b := 107) (c := 0) (e := 1400) (by decide +kernel) (by omega) (by omega) (by omega) (by omega) e2
      · exact ((e3.tr fun o i o1 o2 => bz_uo o1).tr fun o i o1 o2 => bz_uo o1).tr fun o i o1 o2 => if_neg o2
      · have hk2 : k < 2 := hk
        have : k = 0 ∨ k = 1 := by omega
        rcases this with rfl | rfl
        · rw [bz_uo (by omega), show (A.length : Int) + ((0 : Nat) : Int) = A.length from by omega, bz_ui (by omega), bz_us]
          rfl
        · rw [bz_uo (by omega), show (A.length : Int) + ((1 : Nat) : Int) = A.length + 1 from by omega, bz_us]
          rfl
    · exact ((e3.tr fun o i o1 o2 => bz_uo o1).tr fun o i o1 o2 => bz_uo o1).tr fun o i o1 o2 => if_neg o2
end ENM
