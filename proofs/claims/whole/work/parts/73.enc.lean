/-! The bytes of a module: what the class writes. -/
def bz_ty (t : Int) : Int := if t = 0 then 64 else if t = 1 then 127 else 126
def bz_XC (h : qz_H) (M : Int) (P : qz_H) (L : List Int) : Prop := bz_LC h ∧ bz_MC h M P ∧ h 63 2 = L.length ∧ ∀ k : Nat, k < L.length → qz_and (h 64 (k : Int)) 255 = L.getD k 0
def bz_fe (h h' : qz_H) : Prop := ∀ o i : Int, o ≠ 64 → ¬ (o = 63 ∧ i = 2) → h' o i = h o i
theorem bz_fe.rf (h : qz_H) : bz_fe h h := fun _ _ _ _ => rfl
theorem bz_fe.tr {h h1 h2 : qz_H} (a : bz_fe h h1) (b : bz_fe h1 h2) : bz_fe h h2 := fun o i z1 z2 => (b o i z1 z2).trans (a o i z1 z2)
theorem bz_fe.LC {h h' : qz_H} (f : bz_fe h h') (hL : bz_LC h) (hx : h' 64 (-1) = h 64 (-1)) : bz_LC h' := by
  refine ⟨fun q hq => ?_, fun x j x1 x2 x3 x4 => by rw [f x j (by omega) (by omega)]; exact hL.2 x j x1 x2 x3 x4⟩
  have z : ∀ q ∈ bz_TC, (q.1 = 64 → q.2.1 = -1) ∧ ¬ (q.1 = 63 ∧ q.2.1 = 2) := by decide +kernel
  obtain ⟨z1, z2⟩ := z q hq
  by_cases c : q.1 = 64
  · rw [c, z1 c, hx, ← hL.1 q hq, c, z1 c]
  · rw [f _ _ c z2]
    exact hL.1 q hq
theorem bz_fe.MC {h h' P : qz_H} {M : Int} (hM : M = 6 ∨ M = 18) (wf : bz_wf P) (f : bz_fe h h') (mc : bz_MC h M P) : bz_MC h' M P := bz_MC_same hM wf (fun o i o1 o2 => f o i (by omega) (by omega)) mc
section ENC
variable {M : Int} {P : qz_H}
/-- one byte more -/
theorem bz_eAdd (hM : M = 6 ∨ M = 18) (wf : bz_wf P) {h : qz_H} {L : List Int} (xc : bz_XC h M P L) (hl : L.length < 1024) {c : Int} (c0 : 0 ≤ c) (c1 : c ≤ 255) : ∃ h', fn_Encoder_add 63 c h = some (0, h') ∧ bz_XC h' M P (L ++ [c]) ∧ bz_fe h h' ∧ ∀ k : Int, k ≠ L.length → h' 64 k = h 64 k := by
  obtain ⟨hL, mc, hn, hb⟩ := xc
  have e : fn_Encoder_add 63 c h = some (0, qz_up (qz_up h 64 (h 63 2) (qz_nb (qz_i2b c))) 63 2 (h 63 2 + 1)) := by
    unfold fn_Encoder_add fn_Encoder_add_38
    rw [if_neg (by omega), if_neg (by omega), bz_c63_0 hL, bz_c64_m1 hL, bz_ck (by omega), bz_ck (by omega), bz_bn, bz_ck (by omega), bz_bn, bz_uo (by omega), bz_w (by omega) (by omega)]
  refine ⟨_, e, ?_, fun o i o1 o2 => ?_, fun k hk => by rw [bz_uo (by omega), bz_ui (by omega)]⟩
  · have fe : bz_fe h (qz_up (qz_up h 64 (h 63 2) (qz_nb (qz_i2b c))) 63 2 (h 63 2 + 1)) := by
      intro o i o1 o2
      have z : qz_up (qz_up h 64 (h 63 2) (qz_nb (qz_i2b c))) 63 2 (h 63 2 + 1) o i = qz_up h 64 (h 63 2) (qz_nb (qz_i2b c)) o i := if_neg o2
      rw [z, bz_uo o1]
    refine ⟨fe.LC hL (by rw [bz_uo (by omega), bz_ui (by omega)]), fe.MC hM wf mc, by rw [bz_us, hn, List.length_append]; simp, fun k hk => ?_⟩
    rw [bz_uo (by omega), List.getD_eq_getElem?_getD]
    rw [List.length_append, List.length_singleton] at hk
    by_cases q : k < L.length
    · rw [bz_ui (by omega), hb k q, List.getElem?_append_left q, List.getD_eq_getElem?_getD]
    · have hk' : k = L.length := by omega
      subst hk'
      rw [hn, bz_us, bz_i2b8.1, List.getElem?_append_right (by omega)]
      simp
      omega
  · have z : qz_up (qz_up h 64 (h 63 2) (qz_nb (qz_i2b c))) 63 2 (h 63 2 + 1) o i = qz_up h 64 (h 63 2) (qz_nb (qz_i2b c)) o i := if_neg o2
    rw [z, bz_uo o1]
/-- a number without sign -/
theorem bz_eU (hM : M = 6 ∨ M = 18) (wf : bz_wf P) {v : Int} (v0 : 0 ≤ v) (v1 : v ≤ 4294967295) {h : qz_H} {L : List Int} (xc : bz_XC h M P L) (hl : L.length + (bz_U v).length ≤ 1020) : ∃ h', fn_Encoder_addUnsigned 63 v h = some (0, h') ∧ bz_XC h' M P (L ++ bz_U v) ∧ bz_fe h h' ∧ ∀ k : Int, (k < L.length ∨ L.length + (bz_U v).length ≤ k) → h' 64 k = h 64 k := by
  have key : ∀ (m n : Nat) (j v : Int) (h : qz_H) (L : List Int), 0 ≤ v → v ≤ 4294967295 → (m : Int) + j = 9 → 0 ≤ j → bz_XC h M P L → L.length + (bz_un m v).length ≤ 1020 → ∃ h', fn_Encoder_addUnsigned_5 (n + m + 1) 63 v j h = some (0, h') ∧ bz_XC h' M P (L ++ bz_un m v) ∧ bz_fe h h' ∧ ∀ k : Int, (k < L.length ∨ L.length + (bz_un m v).length ≤ k) → h' 64 k = h 64 k := by
    intro m
    induction m with
    | zero =>
      intro n j v h L v0 v1 hj j0 xc hl
      rw [bz_un] at hl ⊢
      rw [List.length_singleton] at hl
      obtain ⟨h', e1, e2, e3, e4⟩ := bz_eAdd hM wf xc (by omega) (show 0 ≤ v % 128 by omega) (by omega)
      refine ⟨h', ?_, e2, e3, fun k hk => e4 k (by simp at hk; omega)⟩
      rw [fn_Encoder_addUnsigned_5]
      unfold fn_Encoder_addUnsigned_5_b fn_Encoder_addUnsigned_46
      rw [if_pos (by omega), bz_andJ, bz_w (by omega) (by omega), e1, bz_bc]
    | succ m ih =>
      intro n j v h L v0 v1 hj j0 xc hl
      rw [bz_un] at hl ⊢
      rw [show n + (m + 1) + 1 = (n + m + 1) + 1 from by omega, fn_Encoder_addUnsigned_5]
      unfold fn_Encoder_addUnsigned_5_b fn_Encoder_addUnsigned_46
      rw [if_neg (by omega), bz_ushJ v0 (by omega), bz_andJ]
      by_cases c : v ≤ 127
      · rw [if_pos c] at hl ⊢
        rw [List.length_singleton] at hl
        obtain ⟨h', e1, e2, e3, e4⟩ := bz_eAdd hM wf xc (by omega) (show 0 ≤ v % 128 by omega) (by omega)
        refine ⟨h', ?_, e2, e3, fun k hk => e4 k (by simp at hk; omega)⟩
        have z : v / 128 = 0 := by omega
        rw [z, bz_cmp_eq, if_pos rfl, bz_w (by omega) (by omega), e1, bz_bc]
      · rw [if_neg c] at hl ⊢
        rw [List.length_cons] at hl ⊢
        rw [bz_cmp_gt (by omega), if_neg (by omega), bz_w (by omega) (by omega), bz_or8 (by omega) (by omega)]
        obtain ⟨h', e1, e2, e3, e4⟩ := bz_eAdd hM wf xc (by omega) (show 0 ≤ v % 128 + 128 by omega) (by omega)
        rw [e1, bz_bc]
        simp only [bz_bn]
        rw [bz_w (by omega) (by omega)]
        obtain ⟨h2, g1, g2, g3, g4⟩ := ih n (j + 1) (v / 128) h' (L ++ [v % 128 + 128]) (by omega) (by omega) (by omega) (by omega) e2 (by rw [List.length_append, List.length_singleton]; omega)
        refine ⟨h2, g1, by rw [List.append_assoc] at g2; exact g2, e3.tr g3, fun k hk => ?_⟩
        rw [List.length_append, List.length_singleton] at g4
        rw [g4 k (by omega), e4 k (by omega)]
  unfold fn_Encoder_addUnsigned
  simp only [bz_bn]
  exact key 9 3990 0 v h L v0 v1 rfl (by omega) xc hl
theorem bz_eS (hM : M = 6 ∨ M = 18) (wf : bz_wf P) {v : Int} (v0 : -9223372036854775808 ≤ v) (v1 : v ≤ 9223372036854775807) {h : qz_H} {L : List Int} (xc : bz_XC h M P L) (hl : L.length + (bz_S v).length ≤ 1020) : ∃ h', fn_Encoder_addSigned 63 v h = some (0, h') ∧ bz_XC h' M P (L ++ bz_S v) ∧ bz_fe h h' := by
  have key : ∀ (m n : Nat) (j v : Int) (h : qz_H) (L : List Int), -9223372036854775808 ≤ v → v ≤ 9223372036854775807 → (m : Int) + j = 9 → 0 ≤ j → bz_XC h M P L → L.length + (bz_sg m v).length ≤ 1020 → ∃ h', fn_Encoder_addSigned_5 (n + m + 1) 63 v j h = some (0, h') ∧ bz_XC h' M P (L ++ bz_sg m v) ∧ bz_fe h h' := by
    intro m
    induction m with
    | zero =>
      intro n j v h L v0 v1 hj j0 xc hl
      rw [bz_sg] at hl ⊢
      rw [List.length_singleton] at hl
      obtain ⟨h', e1, e2, e3, e4⟩ := bz_eAdd hM wf xc (by omega) (show 0 ≤ v % 128 by omega) (by omega)
      refine ⟨h', ?_, e2, e3⟩
      rw [fn_Encoder_addSigned_5]
      unfold fn_Encoder_addSigned_5_b fn_Encoder_addSigned_57
      rw [if_pos (by omega), bz_andJ, bz_w (by omega) (by omega), e1, bz_bc]
    | succ m ih =>
      intro n j v h L v0 v1 hj j0 xc hl
      rw [bz_sg] at hl ⊢
      rw [show n + (m + 1) + 1 = (n + m + 1) + 1 from by omega, fn_Encoder_addSigned_5]
      unfold fn_Encoder_addSigned_5_b fn_Encoder_addSigned_57
      rw [if_neg (by omega), bz_shr6 v0 v1, bz_shr7 v0 v1, bz_andJ]
      by_cases c : -64 ≤ v ∧ v ≤ 63
      · rw [if_pos c] at hl ⊢
        rw [List.length_singleton] at hl
        obtain ⟨h', e1, e2, e3, e4⟩ := bz_eAdd hM wf xc (by omega) (show 0 ≤ v % 128 by omega) (by omega)
        refine ⟨h', ?_, e2, e3⟩
        by_cases c0 : 0 ≤ v
        · have z : v / 64 = 0 := by omega
          rw [z, bz_cmp_eq, if_pos rfl, bz_w (by omega) (by omega), e1, bz_bc]
        · have z : v / 64 = -1 := by omega
          rw [z, bz_cmp_eq, bz_cmp_lt (by omega), if_neg (by omega), if_pos rfl, bz_w (by omega) (by omega), e1, bz_bc]
      · rw [if_neg c] at hl ⊢
        rw [List.length_cons] at hl
        have q1 : qz_cmp (v / 64) 0 ≠ 0 := by
          unfold qz_cmp
          split
          · omega
          split <;> omega
        have q2 : qz_cmp (v / 64) (-1) ≠ 0 := by
          unfold qz_cmp
          split
          · omega
          split <;> omega
        rw [if_neg q1, if_neg q2, bz_w (by omega) (by omega), bz_or8 (by omega) (by omega)]
        obtain ⟨h', e1, e2, e3, e4⟩ := bz_eAdd hM wf xc (by omega) (show 0 ≤ v % 128 + 128 by omega) (by omega)
        rw [e1, bz_bc]
        simp only [bz_bn]
        rw [bz_w (by omega) (by omega)]
        obtain ⟨h2, g1, g2, g3⟩ := ih n (j + 1) (v / 128) h' (L ++ [v % 128 + 128]) (by omega) (by omega) (by omega) (by omega) e2 (by rw [List.length_append, List.length_singleton]; omega)
        exact ⟨h2, g1, by rw [List.append_assoc] at g2; exact g2, e3.tr g3⟩
  unfold fn_Encoder_addSigned
  simp only [bz_bn]
  exact key 9 3990 0 v h L v0 v1 rfl (by omega) xc hl
theorem bz_ty_rg (t : Int) : 0 ≤ bz_ty t ∧ bz_ty t ≤ 255 := by
  unfold bz_ty
  split
  · omega
  split <;> omega
theorem bz_eT (hM : M = 6 ∨ M = 18) (wf : bz_wf P) (t : Int) {h : qz_H} {L : List Int} (xc : bz_XC h M P L) (hl : L.length < 1024) : ∃ h', fn_Encoder_addType 63 t h = some (0, h') ∧ bz_XC h' M P (L ++ [bz_ty t]) ∧ bz_fe h h' := by
  obtain ⟨r0, r1⟩ := bz_ty_rg t
  obtain ⟨h', e1, e2, e3, -⟩ := bz_eAdd hM wf xc hl r0 r1
  refine ⟨h', ?_, e2, e3⟩
  unfold fn_Encoder_addType fn_Encoder_addType_26 fn_Encoder_addType_29
  unfold bz_ty at e1
  by_cases c0 : t = 0
  · rw [if_pos c0] at e1
    rw [if_neg (by omega), e1, bz_bc]
  · rw [if_neg c0] at e1
    rw [if_pos c0]
    by_cases c1 : t = 1
    · rw [if_pos c1] at e1
      rw [if_neg (by omega), e1, bz_bc]
    · rw [if_neg c1] at e1
      rw [if_pos c1, e1, bz_bc]
/-- the size of what was written last, put ahead of it -/
theorem bz_ePut (hM : M = 6 ∨ M = 18) (wf : bz_wf P) {h : qz_H} {A B : List Int} (xc : bz_XC h M P (A ++ B)) (hl : A.length + B.length ≤ 1000) : ∃ h', fn_Encoder_putSizeAhead 63 A.length h = some (0, h') ∧ bz_XC h' M P (A ++ (bz_U B.length ++ B)) ∧ bz_fe h h' := by
  have hw := bz_U2_len (show (B.length : Int) < 16384 by omega)
  have hw1 := (bz_un_len 9 (B.length : Int)).1
  have hn : h 63 2 = (A.length : Int) + B.length := by rw [xc.2.2.1, List.length_append]; omega
  obtain ⟨h4, u1, u2, u3, u4⟩ := bz_eU hM wf (v := B.length) (by omega) (by omega) xc (by rw [List.length_append]; omega)
  have n4 : h4 63 2 = (A.length : Int) + B.length + (bz_U (B.length : Int)).length := by rw [u2.2.2.1, List.length_append, List.length_append]; omega
  rw [List.length_append] at u4
  generalize hW : (bz_U (B.length : Int)).length = W at *
  -- the loop that moves
  have key : ∀ (m n : Nat) (j : Int) (h5 : qz_H), bz_LC h5 → (m : Int) + A.length = j + 1 → j < (A.length : Int) + B.length → ∃ h6, fn_Encoder_putSizeAhead_28 (n + m + 1) 63 A.length ((A.length : Int) + B.length) B.length W j h5 = fn_Encoder_putSizeAhead_73 63 A.length ((A.length : Int) + B.length) B.length W h6 ∧ bz_LC h6 ∧ bz_fe h5 h6 ∧ h6 63 2 = h5 63 2 ∧ ∀ k : Int, qz_and (h6 64 k) 255 = if (A.length : Int) + W ≤ k ∧ k ≤ j + W then qz_and (h5 64 (k - W)) 255 else qz_and (h5 64 k) 255 := by
    intro m
    induction m with
    | zero =>
      intro n j h5 hL hm hj
      refine ⟨h5, ?_, hL, bz_fe.rf _, rfl, fun k => by rw [if_neg (by omega)]⟩
      rw [fn_Encoder_putSizeAhead_28]
      unfold fn_Encoder_putSizeAhead_28_b
      rw [if_pos (by omega)]
    | succ m ih =>
      intro n j h5 hL hm hj
      have hL1 : bz_LC (qz_up h5 64 (j + W) (qz_nb (h5 64 j))) := bz_LC_up (a := 64) (b := 64) (c := 0) (e := 1024) (by decide +kernel) (by omega) (by omega) (by omega) (by omega) (by omega) hL
      obtain ⟨h6, e1, e2, e3, e4, e5⟩ := ih n (j - 1) (qz_up h5 64 (j + W) (qz_nb (h5 64 j))) hL1 (by omega) (by omega)
      refine ⟨h6, ?_, e2, fun o i o1 o2 => (e3 o i o1 o2).trans (bz_uo o1), by rw [e4, bz_uo (by omega)], fun k => ?_⟩
      · rw [show n + (m + 1) + 1 = (n + m + 1) + 1 from by omega, fn_Encoder_putSizeAhead_28]
        unfold fn_Encoder_putSizeAhead_28_b
        rw [if_neg (by omega), if_neg (by omega), bz_w (show -2147483648 ≤ j + W by omega) (by omega), if_neg (by omega), bz_c63_0 hL, bz_c64_m1 hL, bz_ck (by omega), bz_ck (by omega), bz_ck (by omega), bz_ck (by omega), bz_bn, bz_bn, bz_w (by omega) (by omega), show j + -1 = j - 1 from by omega, e1]
      · rw [e5 k]
        by_cases q : (A.length : Int) + W ≤ k ∧ k ≤ j - 1 + W
        · rw [if_pos q, if_pos (by omega), bz_ui (by omega)]
        · rw [if_neg q]
          by_cases q2 : k = j + W
          · rw [if_pos (by omega), q2, bz_us, bz_i2b8.2]
            rw [show j + (W : Int) - W = j from by omega]
          · rw [if_neg (by omega), bz_ui q2]
  obtain ⟨h6, e1, e2, e3, e4, e5⟩ := key B.length (3999 - B.length) ((A.length : Int) + B.length - 1) h4 u2.1 (by omega) (by omega)
  rw [show 3999 - B.length + B.length + 1 = qz_NF from by unfold qz_NF; omega] at e1
  -- the size itself, at its place
  have hL7 : bz_LC (qz_up h6 63 2 A.length) := bz_LC_up (a := 63) (b := 63) (c := 2) (e := 2) (by decide +kernel) (by omega) (by omega) (by omega) (by omega) (by omega) e2
  have fe7 : bz_fe h (qz_up h6 63 2 A.length) := (u3.tr e3).tr (fun o i o1 o2 => if_neg o2)
  have hbA : ∀ k : Nat, k < A.length → qz_and (qz_up h6 63 2 A.length 64 (k : Int)) 255 = A.getD k 0 := by
    intro k hk
    rw [bz_uo (by omega), e5 k, if_neg (by omega), u4 k (by omega), xc.2.2.2 k (by rw [List.length_append]; omega), List.getD_eq_getElem?_getD, List.getD_eq_getElem?_getD, List.getElem?_append_left hk]
  have xc7 : bz_XC (qz_up h6 63 2 A.length) M P A := ⟨hL7, fe7.MC hM wf xc.2.1, bz_us _ _ _ _, hbA⟩
  obtain ⟨h8, w1, w2, w3, w4⟩ := bz_eU hM wf (v := B.length) (by omega) (by omega) xc7 (by omega)
  rw [hW] at w4
  have fe9 : bz_fe h (qz_up h8 63 2 ((A.length : Int) + B.length + W)) := (fe7.tr w3).tr (fun o i o1 o2 => if_neg o2)
  refine ⟨qz_up h8 63 2 ((A.length : Int) + B.length + W), ?_, ⟨bz_LC_up (a := 63) (b := 63) (c := 2) (e := 2) (by decide +kernel) (by omega) (by omega) (by omega) (by omega) (by omega) w2.1, fe9.MC hM wf xc.2.1, ?_, fun k hk => ?_⟩, fe9⟩
  · unfold fn_Encoder_putSizeAhead
    simp only [bz_bn]
    rw [hn, bz_w (show -2147483648 ≤ (A.length : Int) + B.length - A.length by omega) (by omega), show (A.length : Int) + B.length - A.length = B.length from by omega, u1, bz_bc, n4, bz_w (show -2147483648 ≤ (A.length : Int) + B.length + W - (A.length + B.length) by omega) (by omega), show (A.length : Int) + B.length + W - (A.length + B.length) = W from by omega, bz_w (by omega) (by omega), e1]
    unfold fn_Encoder_putSizeAhead_73
    rw [bz_ck (by omega), bz_bn, w1, bz_bc, bz_ck (by omega), bz_bn, bz_w (by omega) (by omega)]
  · rw [bz_us, List.length_append, List.length_append, hW]
    omega
  · rw [List.length_append, List.length_append, hW] at hk
    rw [bz_uo (by omega)]
    by_cases q : k < A.length + W
    · have z := w2.2.2.2 k (by rw [List.length_append, hW]; exact q)
      rw [z, ← List.append_assoc, List.getD_eq_getElem?_getD, List.getD_eq_getElem?_getD, List.getElem?_append_left (l₂ := B) (by rw [List.length_append, hW]; exact q)]
    · rw [w4 k (by omega), bz_uo (by omega), e5 k, if_pos (by omega)]
      have ek : (k : Int) - W = ((k - W : Nat) : Int) := by omega
      rw [ek, u4 _ (by omega), xc.2.2.2 (k - W) (by rw [List.length_append]; omega), ← List.append_assoc, List.getD_eq_getElem?_getD, List.getD_eq_getElem?_getD, List.getElem?_append_right (l₁ := A) (by omega), List.getElem?_append_right (l₁ := A ++ bz_U (B.length : Int)) (by rw [List.length_append, hW]; omega), List.length_append, hW]
      congr 2
      omega
end ENC
