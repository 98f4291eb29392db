theorem wt_28 : (Jvm.Cond.classLink "StackAssemblerLaw" (8 : Nat) "StackAssembler") ∈ kz_TT := kz_g (kz_in1 (List.mem_of_getElem? (i := 28) rfl)) rfl
theorem wt_29 : (Jvm.Cond.instantiable "StackAssembler" (9 : Nat)) ∈ kz_TT := kz_g (kz_in1 (List.mem_of_getElem? (i := 29) rfl)) rfl
theorem wt_30 : (Jvm.Cond.methodLink "StackAssemblerLaw" (22 : Nat) ({ cls := "StackAssembler", name := "<init>", desc := "()V" } : Jvm.MethodName)) ∈ kz_TT := kz_g (kz_in1 (List.mem_of_getElem? (i := 30) rfl)) rfl
theorem wt_375 : (Jvm.Cond.methodLink "StackAssemblerLaw" (28 : Nat) ({ cls := "StackAssembler", name := "type", desc := "(J)Z" } : Jvm.MethodName)) ∈ kz_TT := kz_g (kz_in2 (List.mem_of_getElem? (i := 135) rfl)) rfl
theorem wt_387 : (Jvm.Cond.methodLink "StackAssemblerLaw" (33 : Nat) ({ cls := "StackAssembler", name := "wipe", desc := "()V" } : Jvm.MethodName)) ∈ kz_TT := kz_g (kz_in2 (List.mem_of_getElem? (i := 147) rfl)) rfl
theorem wt_391 : (Jvm.Cond.methodLink "StackAssemblerLaw" (37 : Nat) ({ cls := "StackAssembler", name := "character", desc := "(I)C" } : Jvm.MethodName)) ∈ kz_TT := kz_g (kz_in2 (List.mem_of_getElem? (i := 151) rfl)) rfl
theorem wt_399 : (Jvm.Cond.methodLink "StackAssemblerLaw" (51 : Nat) ({ cls := "StackAssembler", name := "encode", desc := "()I" } : Jvm.MethodName)) ∈ kz_TT := kz_g (kz_in2 (List.mem_of_getElem? (i := 159) rfl)) rfl
theorem wt_477 : (Jvm.Cond.methodLink "StackAssemblerLaw" (55 : Nat) ({ cls := "StackAssembler", name := "octet", desc := "(I)I" } : Jvm.MethodName)) ∈ kz_TT := kz_g (kz_in2 (List.mem_of_getElem? (i := 237) rfl)) rfl
theorem wt_485 : (Jvm.Cond.methodLink "StackAssemblerLaw" (63 : Nat) ({ cls := "StackAssembler", name := "place", desc := "()I" } : Jvm.MethodName)) ∈ kz_TT := kz_g (kz_in3 (List.mem_of_getElem? (i := 5) rfl)) rfl
theorem wt_489 : (Jvm.Cond.methodLink "StackAssemblerLaw" (67 : Nat) ({ cls := "StackAssembler", name := "functions", desc := "()I" } : Jvm.MethodName)) ∈ kz_TT := kz_g (kz_in3 (List.mem_of_getElem? (i := 9) rfl)) rfl
theorem wt_493 : (Jvm.Cond.methodLink "StackAssemblerLaw" (71 : Nat) ({ cls := "StackAssembler", name := "function", desc := "(II)I" } : Jvm.MethodName)) ∈ kz_TT := kz_g (kz_in3 (List.mem_of_getElem? (i := 13) rfl)) rfl
theorem wt_503 : (Jvm.Cond.methodLink "StackAssemblerLaw" (76 : Nat) ({ cls := "StackAssembler", name := "instruction", desc := "(II)I" } : Jvm.MethodName)) ∈ kz_TT := kz_g (kz_in3 (List.mem_of_getElem? (i := 23) rfl)) rfl
theorem wt_512 : (Jvm.Cond.methodLink "StackAssemblerLaw" (80 : Nat) ({ cls := "StackAssembler", name := "immediate", desc := "(II)J" } : Jvm.MethodName)) ∈ kz_TT := kz_g (kz_in3 (List.mem_of_getElem? (i := 32) rfl)) rfl
theorem wt_516 : (Jvm.Cond.methodLink "StackAssemblerLaw" (42 : Nat) ({ cls := "StackAssemblerLaw", name := "assemble", desc := "(LStackAssembler;[J)I" } : Jvm.MethodName)) ∈ kz_TT := kz_g (kz_in3 (List.mem_of_getElem? (i := 36) rfl)) rfl
theorem wt_1018 : (Jvm.Cond.methodLink "StackAssemblerLaw" (60 : Nat) ({ cls := "StackAssemblerLaw", name := "print", desc := "(LStackAssembler;[J)I" } : Jvm.MethodName)) ∈ kz_TT := kz_g (kz_in5 (List.mem_of_getElem? (i := 58) rfl)) rfl
theorem wt_1076 : (Jvm.Cond.classLink "StackAssemblerLaw" (23 : Nat) "StackAssemblerModel") ∈ kz_TT := kz_g (kz_in5 (List.mem_of_getElem? (i := 116) rfl)) rfl
theorem wt_1077 : (Jvm.Cond.instantiable "StackAssemblerModel" (64 : Nat)) ∈ kz_TT := kz_g (kz_in5 (List.mem_of_getElem? (i := 117) rfl)) rfl
theorem wt_1078 : (Jvm.Cond.methodLink "StackAssemblerLaw" (25 : Nat) ({ cls := "StackAssemblerModel", name := "<init>", desc := "()V" } : Jvm.MethodName)) ∈ kz_TT := kz_g (kz_in5 (List.mem_of_getElem? (i := 118) rfl)) rfl
theorem wt_1311 : (Jvm.Cond.methodLink "StackAssemblerLaw" (48 : Nat) ({ cls := "StackAssemblerModel", name := "thrown", desc := "()I" } : Jvm.MethodName)) ∈ kz_TT := kz_g (kz_in6 (List.mem_of_getElem? (i := 111) rfl)) rfl
theorem wt_1315 : (Jvm.Cond.methodLink "StackAssemblerLaw" (32 : Nat) ({ cls := "StackAssemblerModel", name := "type", desc := "(J)Z" } : Jvm.MethodName)) ∈ kz_TT := kz_g (kz_in6 (List.mem_of_getElem? (i := 115) rfl)) rfl
theorem wt_1319 : (Jvm.Cond.methodLink "StackAssemblerLaw" (36 : Nat) ({ cls := "StackAssemblerModel", name := "wipe", desc := "()V" } : Jvm.MethodName)) ∈ kz_TT := kz_g (kz_in6 (List.mem_of_getElem? (i := 119) rfl)) rfl
theorem wt_1323 : (Jvm.Cond.methodLink "StackAssemblerLaw" (41 : Nat) ({ cls := "StackAssemblerModel", name := "character", desc := "(I)C" } : Jvm.MethodName)) ∈ kz_TT := kz_g (kz_in6 (List.mem_of_getElem? (i := 123) rfl)) rfl
theorem wt_1327 : (Jvm.Cond.methodLink "StackAssemblerLaw" (47 : Nat) ({ cls := "StackAssemblerModel", name := "assemble", desc := "()I" } : Jvm.MethodName)) ∈ kz_TT := kz_g (kz_in6 (List.mem_of_getElem? (i := 127) rfl)) rfl
theorem wt_1562 : (Jvm.Cond.methodLink "StackAssemblerLaw" (54 : Nat) ({ cls := "StackAssemblerModel", name := "encode", desc := "()I" } : Jvm.MethodName)) ∈ kz_TT := kz_g (kz_in7 (List.mem_of_getElem? (i := 122) rfl)) rfl
theorem wt_1624 : (Jvm.Cond.methodLink "StackAssemblerLaw" (59 : Nat) ({ cls := "StackAssemblerModel", name := "octet", desc := "(I)I" } : Jvm.MethodName)) ∈ kz_TT := kz_g (kz_in7 (List.mem_of_getElem? (i := 184) rfl)) rfl
theorem wt_1628 : (Jvm.Cond.methodLink "StackAssemblerLaw" (62 : Nat) ({ cls := "StackAssemblerModel", name := "print", desc := "()I" } : Jvm.MethodName)) ∈ kz_TT := kz_g (kz_in7 (List.mem_of_getElem? (i := 188) rfl)) rfl
theorem wt_1662 : (Jvm.Cond.methodLink "StackAssemblerLaw" (66 : Nat) ({ cls := "StackAssemblerModel", name := "place", desc := "()I" } : Jvm.MethodName)) ∈ kz_TT := kz_g (kz_in7 (List.mem_of_getElem? (i := 222) rfl)) rfl
theorem wt_1666 : (Jvm.Cond.methodLink "StackAssemblerLaw" (70 : Nat) ({ cls := "StackAssemblerModel", name := "functions", desc := "()I" } : Jvm.MethodName)) ∈ kz_TT := kz_g (kz_in7 (List.mem_of_getElem? (i := 226) rfl)) rfl
theorem wt_1670 : (Jvm.Cond.methodLink "StackAssemblerLaw" (75 : Nat) ({ cls := "StackAssemblerModel", name := "function", desc := "(II)I" } : Jvm.MethodName)) ∈ kz_TT := kz_g (kz_in7 (List.mem_of_getElem? (i := 230) rfl)) rfl
theorem wt_1678 : (Jvm.Cond.methodLink "StackAssemblerLaw" (79 : Nat) ({ cls := "StackAssemblerModel", name := "instruction", desc := "(II)I" } : Jvm.MethodName)) ∈ kz_TT := kz_g (kz_in7 (List.mem_of_getElem? (i := 238) rfl)) rfl
theorem wt_1686 : (Jvm.Cond.methodLink "StackAssemblerLaw" (84 : Nat) ({ cls := "StackAssemblerModel", name := "immediate", desc := "(II)J" } : Jvm.MethodName)) ∈ kz_TT := kz_g (kz_in8 (List.mem_of_getElem? (i := 6) rfl)) rfl
theorem wt_1690 : (Jvm.Cond.constantLong "StackAssemblerLaw" (26 : Nat) (4294967295 : Int64)) ∈ kz_TT := kz_g (kz_in8 (List.mem_of_getElem? (i := 10) rfl)) rfl
def yd_Law_law : qz_Y := (⟨"StackAssemblerLaw", "law", "([I)Z"⟩, code, 7, (some .boolean), 3, room_1)
theorem ln_Law_22 : qz_ln "StackAssemblerLaw" 22 yd_SA_init := Or.inl wt_30
theorem ln_Law_25 : qz_ln "StackAssemblerLaw" 25 yd_Md_init := Or.inl wt_1078
theorem ln_Law_28 : qz_ln "StackAssemblerLaw" 28 yd_SA_type := Or.inl wt_375
theorem ln_Law_32 : qz_ln "StackAssemblerLaw" 32 yd_Md_type := Or.inl wt_1315
theorem ln_Law_33 : qz_ln "StackAssemblerLaw" 33 yd_SA_wipe := Or.inl wt_387
theorem ln_Law_36 : qz_ln "StackAssemblerLaw" 36 yd_Md_wipe := Or.inl wt_1319
theorem ln_Law_37 : qz_ln "StackAssemblerLaw" 37 yd_SA_character := Or.inl wt_391
theorem ln_Law_41 : qz_ln "StackAssemblerLaw" 41 yd_Md_character := Or.inl wt_1323
theorem ln_Law_47 : qz_ln "StackAssemblerLaw" 47 yd_Md_assemble := Or.inl wt_1327
theorem ln_Law_48 : qz_ln "StackAssemblerLaw" 48 yd_Md_thrown := Or.inl wt_1311
theorem ln_Law_51 : qz_ln "StackAssemblerLaw" 51 yd_SA_encode := Or.inl wt_399
theorem ln_Law_54 : qz_ln "StackAssemblerLaw" 54 yd_Md_encode := Or.inl wt_1562
theorem ln_Law_55 : qz_ln "StackAssemblerLaw" 55 yd_SA_octet := Or.inl wt_477
theorem ln_Law_59 : qz_ln "StackAssemblerLaw" 59 yd_Md_octet := Or.inl wt_1624
theorem ln_Law_62 : qz_ln "StackAssemblerLaw" 62 yd_Md_print := Or.inl wt_1628
theorem ln_Law_63 : qz_ln "StackAssemblerLaw" 63 yd_SA_place := Or.inl wt_485
theorem ln_Law_66 : qz_ln "StackAssemblerLaw" 66 yd_Md_place := Or.inl wt_1662
theorem ln_Law_67 : qz_ln "StackAssemblerLaw" 67 yd_SA_functions := Or.inl wt_489
theorem ln_Law_70 : qz_ln "StackAssemblerLaw" 70 yd_Md_functions := Or.inl wt_1666
theorem ln_Law_71 : qz_ln "StackAssemblerLaw" 71 yd_SA_function := Or.inl wt_493
theorem ln_Law_75 : qz_ln "StackAssemblerLaw" 75 yd_Md_function := Or.inl wt_1670
theorem ln_Law_76 : qz_ln "StackAssemblerLaw" 76 yd_SA_instruction := Or.inl wt_503
theorem ln_Law_79 : qz_ln "StackAssemblerLaw" 79 yd_Md_instruction := Or.inl wt_1678
theorem ln_Law_80 : qz_ln "StackAssemblerLaw" 80 yd_SA_immediate := Or.inl wt_512
theorem ln_Law_84 : qz_ln "StackAssemblerLaw" 84 yd_Md_immediate := Or.inl wt_1686
theorem wc_Law_26 : Cond.constantLong "StackAssemblerLaw" 26 (Int64.ofInt 4294967295) ∈ kz_TT := by
  rw [show Int64.ofInt 4294967295 = (4294967295 : Int64) from by decide]
  exact wt_1690
theorem nw_Law_23 : ∃ q : vw_C, kz_cl[12]? = some q ∧ Cond.classLink "StackAssemblerLaw" 23 q.1 ∈ kz_TT ∧ Cond.instantiable q.1 (kz_N 12) ∈ kz_TT ∧ Cond.initialized q.1 ∈ kz_TT := ⟨_, rfl, wt_1076, wt_1077, wt_15⟩
theorem nw_Law_8 : ∃ q : vw_C, kz_cl[0]? = some q ∧ Cond.classLink "StackAssemblerLaw" 8 q.1 ∈ kz_TT ∧ Cond.instantiable q.1 (kz_N 0) ∈ kz_TT ∧ Cond.initialized q.1 ∈ kz_TT := ⟨_, rfl, wt_28, wt_29, wt_1⟩
theorem qz_wid {Y : qz_Y} {G : qz_G} {is : List (Instr × Nat)} {pc : Nat} {ls st : List qz_V} {h : qz_H} {cs sl cs' sl' : Nat} {t : Option qz_R} (hc : cs ≤ cs') (hs : sl ≤ sl') (k : qz_J Y G is pc ls st h cs' sl' t) : qz_J Y G is pc ls st h cs sl t := by
  obtain ⟨p, l, e, s, m, args, below, meth, c, D, dA, B0, hc0, h0⟩ := G
  intro r hr hx lsC stC H locs hca hl hs0 hW hS T hT X
  exact k r hr hx lsC stC H locs hca hl hs0 hW hS T hT ⟨X.admits, X.cas, X.clock, X.frames, X.room, X.hears, X.method, X.code, X.here, X.tail, X.warmed, X.limits, X.bytes, X.same.mono hc hs⟩
theorem lw_rm {Y Y2 : qz_Y} {cs sl : Nat} (c d : Nat) (h : (decide (Y2.2.2.2.2.2.frames + 1 ≤ Y.2.2.2.2.2.frames) && decide (8 + (Y2.2.2.1 + 11) + Y2.2.2.2.2.2.locals ≤ Y.2.2.2.2.2.locals) && decide (Y2.2.2.2.2.2.cells ≤ c) && decide (Y2.2.2.2.2.2.slots ≤ d)) = true) (hc : cs + c ≤ Y.2.2.2.2.2.cells) (hs : sl + d ≤ Y.2.2.2.2.2.slots) : qz_rm Y Y2 cs sl = true := by
  simp only [qz_rm, Bool.and_eq_true, decide_eq_true_eq] at h ⊢
  exact ⟨⟨h.1.1, Nat.le_trans (Nat.add_le_add_left h.1.2 _) hc⟩, Nat.le_trans (Nat.add_le_add_left h.2 _) hs⟩
theorem lw_le {Y : qz_Y} {cs sl : Nat} (hc : cs ≤ Y.2.2.2.2.2.cells) (hs : sl ≤ Y.2.2.2.2.2.slots) : qz_le Y cs sl = true := by
  simp only [qz_le, Bool.and_eq_true, decide_eq_true_eq]
  exact ⟨hc, hs⟩
def fn_Law_law_457 (k23 : Int → Int → Int → Int → Int → qz_H → Option qz_R) (l0 : Int) (l1 : Int) (l2 : Int) (l3 : Int) (l4 : Int) (h : qz_H) : Option qz_R :=
  qz_bn (qz_w (l4 + 3)) fun x1 =>
  k23 l0 l1 l2 l3 x1 h
def fn_Law_law_234 (k23 : Int → Int → Int → Int → Int → qz_H → Option qz_R) (l0 : Int) (l1 : Int) (l2 : Int) (l3 : Int) (l4 : Int) (h : qz_H) : Option qz_R :=
  fn_Law_law_457 k23 l0 l1 l2 l3 l4 h
def fn_Law_law_316 (k23 : Int → Int → Int → Int → Int → qz_H → Option qz_R) (l0 : Int) (l1 : Int) (l2 : Int) (l3 : Int) (l4 : Int) (h : qz_H) : Option qz_R :=
  fn_Law_law_457 k23 l0 l1 l2 l3 l4 h
def fn_Law_law_23_b (k23 : Int → Int → Int → Int → Int → qz_H → Option qz_R) (l0 : Int) (l1 : Int) (l2 : Int) (l3 : Int) (l4 : Int) (h : qz_H) : Option qz_R :=
  qz_ck ((l0 : Int) ≠ 0) <|
  if qz_w ((h l0 (-1)) - 3) < l4 then
    qz_ck ((1 : Int) = 0 ∨ (1 : Int) = 1) (some (1, h))
  else
    qz_ck ((l0 : Int) ≠ 0) <|
    qz_ck ((0 : Int) ≤ l4 ∧ l4 < h l0 (-1)) <|
    qz_swt (qz_and (h l0 l4) 15) [
      (0,
        qz_ck ((l0 : Int) ≠ 0) <|
        qz_ck ((0 : Int) ≤ qz_w (l4 + 1) ∧ qz_w (l4 + 1) < h l0 (-1)) <|
        qz_ck ((l0 : Int) ≠ 0) <|
        qz_ck ((0 : Int) ≤ qz_w (l4 + 2) ∧ qz_w (l4 + 2) < h l0 (-1)) <|
        qz_ck ((l1 : Int) ≠ 0) <|
        qz_bc (fn_SA_type l1 (qz_orJ (qz_shlJ (h l0 (qz_w (l4 + 1))) 32) (qz_andJ (h l0 (qz_w (l4 + 2))) 4294967295)) h) fun r1 h2 =>
        qz_ck ((l0 : Int) ≠ 0) <|
        qz_ck ((0 : Int) ≤ qz_w (l4 + 1) ∧ qz_w (l4 + 1) < h2 l0 (-1)) <|
        qz_ck ((l0 : Int) ≠ 0) <|
        qz_ck ((0 : Int) ≤ qz_w (l4 + 2) ∧ qz_w (l4 + 2) < h2 l0 (-1)) <|
        qz_ck ((l2 : Int) ≠ 0) <|
        qz_bc (fn_Md_type l2 (qz_orJ (qz_shlJ (h2 l0 (qz_w (l4 + 1))) 32) (qz_andJ (h2 l0 (qz_w (l4 + 2))) 4294967295)) h2) fun r3 h4 =>
        if r1 = r3 then
          fn_Law_law_457 k23 l0 l1 l2 l3 l4 h4
        else
          qz_ck ((0 : Int) = 0 ∨ (0 : Int) = 1) (some (0, h4))),
      (1,
        qz_ck ((l1 : Int) ≠ 0) <|
        qz_bc (fn_SA_wipe l1 h) fun _ h6 =>
        qz_ck ((l2 : Int) ≠ 0) <|
        qz_bc (fn_Md_wipe l2 h6) fun _ h8 =>
        fn_Law_law_457 k23 l0 l1 l2 l3 l4 h8),
      (2,
        qz_ck ((l0 : Int) ≠ 0) <|
        qz_ck ((0 : Int) ≤ qz_w (l4 + 1) ∧ qz_w (l4 + 1) < h l0 (-1)) <|
        qz_ck ((l1 : Int) ≠ 0) <|
        qz_bc (fn_SA_character l1 (h l0 (qz_w (l4 + 1))) h) fun r9 h10 =>
        qz_ck ((l0 : Int) ≠ 0) <|
        qz_ck ((0 : Int) ≤ qz_w (l4 + 1) ∧ qz_w (l4 + 1) < h10 l0 (-1)) <|
        qz_ck ((l2 : Int) ≠ 0) <|
        qz_bc (fn_Md_character l2 (h10 l0 (qz_w (l4 + 1))) h10) fun r11 h12 =>
        if r9 = r11 then
          fn_Law_law_457 k23 l0 l1 l2 l3 l4 h12
        else
          qz_ck ((0 : Int) = 0 ∨ (0 : Int) = 1) (some (0, h12))),
      (3,
        qz_bc (fn_Law_assemble l1 l3 h) fun r13 h14 =>
        qz_bn (r13 : Int) fun x15 =>
        qz_ck ((l2 : Int) ≠ 0) <|
        qz_bc (fn_Md_assemble l2 h14) fun r16 h17 =>
        qz_bn (r16 : Int) fun x18 =>
        qz_ck ((l2 : Int) ≠ 0) <|
        qz_bc (fn_Md_thrown l2 h17) fun r19 h20 =>
        if r19 = x15 then
          if ¬ x15 = 0 then
            fn_Law_law_234 k23 l0 l1 l2 l3 l4 h20
          else
            qz_ck ((l3 : Int) ≠ 0) <|
            qz_ck ((0 : Int) ≤ 0 ∧ 0 < h20 l3 (-1)) <|
            if qz_cmp (h20 l3 0) x18 = 0 then
              fn_Law_law_234 k23 l0 l1 l2 l3 l4 h20
            else
              qz_ck ((0 : Int) = 0 ∨ (0 : Int) = 1) (some (0, h20))
        else
          qz_ck ((0 : Int) = 0 ∨ (0 : Int) = 1) (some (0, h20))),
      (4,
        qz_ck ((l1 : Int) ≠ 0) <|
        qz_bc (fn_SA_encode l1 h) fun r21 h22 =>
        qz_ck ((l2 : Int) ≠ 0) <|
        qz_bc (fn_Md_encode l2 h22) fun r23 h24 =>
        if r21 = r23 then
          fn_Law_law_457 k23 l0 l1 l2 l3 l4 h24
        else
          qz_ck ((0 : Int) = 0 ∨ (0 : Int) = 1) (some (0, h24))),
      (5,
        qz_ck ((l0 : Int) ≠ 0) <|
        qz_ck ((0 : Int) ≤ qz_w (l4 + 1) ∧ qz_w (l4 + 1) < h l0 (-1)) <|
        qz_ck ((l1 : Int) ≠ 0) <|
        qz_bc (fn_SA_octet l1 (h l0 (qz_w (l4 + 1))) h) fun r25 h26 =>
        qz_ck ((l0 : Int) ≠ 0) <|
        qz_ck ((0 : Int) ≤ qz_w (l4 + 1) ∧ qz_w (l4 + 1) < h26 l0 (-1)) <|
        qz_ck ((l2 : Int) ≠ 0) <|
        qz_bc (fn_Md_octet l2 (h26 l0 (qz_w (l4 + 1))) h26) fun r27 h28 =>
        if r25 = r27 then
          fn_Law_law_457 k23 l0 l1 l2 l3 l4 h28
        else
          qz_ck ((0 : Int) = 0 ∨ (0 : Int) = 1) (some (0, h28))),
      (6,
        qz_bc (fn_Law_print l1 l3 h) fun r29 h30 =>
        qz_bn (r29 : Int) fun x31 =>
        qz_ck ((l2 : Int) ≠ 0) <|
        qz_bc (fn_Md_print l2 h30) fun r32 h33 =>
        qz_bn (r32 : Int) fun x34 =>
        qz_ck ((l2 : Int) ≠ 0) <|
        qz_bc (fn_Md_thrown l2 h33) fun r35 h36 =>
        if r35 = x31 then
          if ¬ x31 = 0 then
            fn_Law_law_316 k23 l0 l1 l2 l3 l4 h36
          else
            qz_ck ((l3 : Int) ≠ 0) <|
            qz_ck ((0 : Int) ≤ 0 ∧ 0 < h36 l3 (-1)) <|
            if qz_cmp (h36 l3 0) x34 = 0 then
              fn_Law_law_316 k23 l0 l1 l2 l3 l4 h36
            else
              qz_ck ((0 : Int) = 0 ∨ (0 : Int) = 1) (some (0, h36))
        else
          qz_ck ((0 : Int) = 0 ∨ (0 : Int) = 1) (some (0, h36))),
      (7,
        qz_ck ((l1 : Int) ≠ 0) <|
        qz_bc (fn_SA_place l1 h) fun r37 h38 =>
        qz_ck ((l2 : Int) ≠ 0) <|
        qz_bc (fn_Md_place l2 h38) fun r39 h40 =>
        if r37 = r39 then
          fn_Law_law_457 k23 l0 l1 l2 l3 l4 h40
        else
          qz_ck ((0 : Int) = 0 ∨ (0 : Int) = 1) (some (0, h40))),
      (8,
        qz_ck ((l1 : Int) ≠ 0) <|
        qz_bc (fn_SA_functions l1 h) fun r41 h42 =>
        qz_ck ((l2 : Int) ≠ 0) <|
        qz_bc (fn_Md_functions l2 h42) fun r43 h44 =>
        if r41 = r43 then
          fn_Law_law_457 k23 l0 l1 l2 l3 l4 h44
        else
          qz_ck ((0 : Int) = 0 ∨ (0 : Int) = 1) (some (0, h44))),
      (9,
        qz_ck ((l0 : Int) ≠ 0) <|
        qz_ck ((0 : Int) ≤ qz_w (l4 + 1) ∧ qz_w (l4 + 1) < h l0 (-1)) <|
        qz_ck ((l0 : Int) ≠ 0) <|
        qz_ck ((0 : Int) ≤ qz_w (l4 + 2) ∧ qz_w (l4 + 2) < h l0 (-1)) <|
        qz_ck ((l1 : Int) ≠ 0) <|
        qz_bc (fn_SA_function l1 (h l0 (qz_w (l4 + 1))) (h l0 (qz_w (l4 + 2))) h) fun r45 h46 =>
        qz_ck ((l0 : Int) ≠ 0) <|
        qz_ck ((0 : Int) ≤ qz_w (l4 + 1) ∧ qz_w (l4 + 1) < h46 l0 (-1)) <|
        qz_ck ((l0 : Int) ≠ 0) <|
        qz_ck ((0 : Int) ≤ qz_w (l4 + 2) ∧ qz_w (l4 + 2) < h46 l0 (-1)) <|
        qz_ck ((l2 : Int) ≠ 0) <|
        qz_bc (fn_Md_function l2 (h46 l0 (qz_w (l4 + 1))) (h46 l0 (qz_w (l4 + 2))) h46) fun r47 h48 =>
        if r45 = r47 then
          fn_Law_law_457 k23 l0 l1 l2 l3 l4 h48
        else
          qz_ck ((0 : Int) = 0 ∨ (0 : Int) = 1) (some (0, h48))),
      (10,
        qz_ck ((l0 : Int) ≠ 0) <|
        qz_ck ((0 : Int) ≤ qz_w (l4 + 1) ∧ qz_w (l4 + 1) < h l0 (-1)) <|
        qz_ck ((l0 : Int) ≠ 0) <|
        qz_ck ((0 : Int) ≤ qz_w (l4 + 2) ∧ qz_w (l4 + 2) < h l0 (-1)) <|
        qz_ck ((l1 : Int) ≠ 0) <|
        qz_bc (fn_SA_instruction l1 (h l0 (qz_w (l4 + 1))) (h l0 (qz_w (l4 + 2))) h) fun r49 h50 =>
        qz_ck ((l0 : Int) ≠ 0) <|
        qz_ck ((0 : Int) ≤ qz_w (l4 + 1) ∧ qz_w (l4 + 1) < h50 l0 (-1)) <|
        qz_ck ((l0 : Int) ≠ 0) <|
        qz_ck ((0 : Int) ≤ qz_w (l4 + 2) ∧ qz_w (l4 + 2) < h50 l0 (-1)) <|
        qz_ck ((l2 : Int) ≠ 0) <|
        qz_bc (fn_Md_instruction l2 (h50 l0 (qz_w (l4 + 1))) (h50 l0 (qz_w (l4 + 2))) h50) fun r51 h52 =>
        if r49 = r51 then
          fn_Law_law_457 k23 l0 l1 l2 l3 l4 h52
        else
          qz_ck ((0 : Int) = 0 ∨ (0 : Int) = 1) (some (0, h52))),
      (11,
        qz_ck ((l0 : Int) ≠ 0) <|
        qz_ck ((0 : Int) ≤ qz_w (l4 + 1) ∧ qz_w (l4 + 1) < h l0 (-1)) <|
        qz_ck ((l0 : Int) ≠ 0) <|
        qz_ck ((0 : Int) ≤ qz_w (l4 + 2) ∧ qz_w (l4 + 2) < h l0 (-1)) <|
        qz_ck ((l1 : Int) ≠ 0) <|
        qz_bc (fn_SA_immediate l1 (h l0 (qz_w (l4 + 1))) (h l0 (qz_w (l4 + 2))) h) fun r53 h54 =>
        qz_ck ((l0 : Int) ≠ 0) <|
        qz_ck ((0 : Int) ≤ qz_w (l4 + 1) ∧ qz_w (l4 + 1) < h54 l0 (-1)) <|
        qz_ck ((l0 : Int) ≠ 0) <|
        qz_ck ((0 : Int) ≤ qz_w (l4 + 2) ∧ qz_w (l4 + 2) < h54 l0 (-1)) <|
        qz_ck ((l2 : Int) ≠ 0) <|
        qz_bc (fn_Md_immediate l2 (h54 l0 (qz_w (l4 + 1))) (h54 l0 (qz_w (l4 + 2))) h54) fun r55 h56 =>
        if qz_cmp r53 r55 = 0 then
          fn_Law_law_457 k23 l0 l1 l2 l3 l4 h56
        else
          qz_ck ((0 : Int) = 0 ∨ (0 : Int) = 1) (some (0, h56)))] <|
      fn_Law_law_457 k23 l0 l1 l2 l3 l4 h
def fn_Law_law_23 : Nat → Int → Int → Int → Int → Int → qz_H → Option qz_R
  | 0, _, _, _, _, _, _ => none
  | n + 1, l0, l1, l2, l3, l4, h => fn_Law_law_23_b (fn_Law_law_23 n) l0 l1 l2 l3 l4 h
set_option maxRecDepth 20000 in
def fn_Law_law (l0 : Int) (h : qz_H) : Option qz_R :=
  qz_mk h 0 0 fun h1 q2 =>
  qz_bc (fn_SA_init q2 h1) fun _ h4 =>
  qz_bn (q2 : Int) fun x5 =>
  qz_mk h4 12 0 fun h6 q7 =>
  qz_bc (fn_Md_init q7 h6) fun _ h9 =>
  qz_bn (q7 : Int) fun x10 =>
  qz_mk h9 41 1 fun h11 q12 =>
  qz_bn (q12 : Int) fun x13 =>
  qz_bn (0 : Int) fun x14 =>
  fn_Law_law_23 qz_NF l0 x5 x10 x13 x14 h11
def bk_Law_law_0 : List (Instr × Nat) := [(.new 8, 3), (.dup, 1), (.invokespecial 22, 3), (.astore_n 1, 1), (.new 23, 3), (.dup, 1), (.invokespecial 25, 3), (.astore_n 2, 1), (.iconst 1, 1), (.newarray .long, 2), (.astore_n 3, 1), (.iconst 0, 1), (.istore 4, 2)]
def bk_Law_law_23 : List (Instr × Nat) := [(.iload 4, 2), (.aload_n 0, 1), (.arraylength, 1), (.iconst 3, 1), (.isub, 1), (.if_icmp .gt 434, 3), (.aload_n 0, 1), (.iload 4, 2), (.iaload, 1), (.bipush 15, 2), (.iand, 1), (.tableswitch 418 0 11 #[61, 118, 129, 154, 198, 211, 236, 280, 293, 306, 343, 380], 61)]
def bk_Law_law_463 : List (Instr × Nat) := [(.iconst 1, 1), (.ireturn, 1)]
def bk_Law_law_100 : List (Instr × Nat) := [(.aload_n 1, 1), (.aload_n 0, 1), (.iload 4, 2), (.iconst 1, 1), (.iadd, 1), (.iaload, 1), (.i2l, 1), (.bipush 32, 2), (.lshl, 1), (.aload_n 0, 1), (.iload 4, 2), (.iconst 2, 1), (.iadd, 1), (.iaload, 1), (.i2l, 1), (.ldc2_w 26, 3), (.land, 1), (.lor, 1), (.invokevirtual 28, 3), (.aload_n 2, 1), (.aload_n 0, 1), (.iload 4, 2), (.iconst 1, 1), (.iadd, 1), (.iaload, 1), (.i2l, 1), (.bipush 32, 2), (.lshl, 1), (.aload_n 0, 1), (.iload 4, 2), (.iconst 2, 1), (.iadd, 1), (.iaload, 1), (.i2l, 1), (.ldc2_w 26, 3), (.land, 1), (.lor, 1), (.invokevirtual 32, 3), (.if_icmp .eq 305, 3), (.iconst 0, 1), (.ireturn, 1)]
def bk_Law_law_457 : List (Instr × Nat) := [(.iinc 4 3, 3), (.goto (-437), 3)]
def bk_Law_law_157 : List (Instr × Nat) := [(.aload_n 1, 1), (.invokevirtual 33, 3), (.aload_n 2, 1), (.invokevirtual 36, 3), (.goto 292, 3)]
def bk_Law_law_168 : List (Instr × Nat) := [(.aload_n 1, 1), (.aload_n 0, 1), (.iload 4, 2), (.iconst 1, 1), (.iadd, 1), (.iaload, 1), (.invokevirtual 37, 3), (.aload_n 2, 1), (.aload_n 0, 1), (.iload 4, 2), (.iconst 1, 1), (.iadd, 1), (.iaload, 1), (.invokevirtual 41, 3), (.if_icmp .eq 269, 3), (.iconst 0, 1), (.ireturn, 1)]
def bk_Law_law_193 : List (Instr × Nat) := [(.aload_n 1, 1), (.aload_n 3, 1), (.invokestatic 42, 3), (.istore 5, 2), (.aload_n 2, 1), (.invokevirtual 47, 3), (.istore 6, 2), (.aload_n 2, 1), (.invokevirtual 48, 3), (.iload 5, 2), (.if_icmp .eq 5, 3), (.iconst 0, 1), (.ireturn, 1)]
def bk_Law_law_217 : List (Instr × Nat) := [(.iload 5, 2), (.ifCond .ne 15, 3), (.aload_n 3, 1), (.iconst 0, 1), (.laload, 1), (.iload 6, 2), (.i2l, 1), (.lcmp, 1), (.ifCond .eq 5, 3), (.iconst 0, 1), (.ireturn, 1)]
def bk_Law_law_234 : List (Instr × Nat) := [(.goto 223, 3)]
def bk_Law_law_237 : List (Instr × Nat) := [(.aload_n 1, 1), (.invokevirtual 51, 3), (.aload_n 2, 1), (.invokevirtual 54, 3), (.if_icmp .eq 212, 3), (.iconst 0, 1), (.ireturn, 1)]
def bk_Law_law_250 : List (Instr × Nat) := [(.aload_n 1, 1), (.aload_n 0, 1), (.iload 4, 2), (.iconst 1, 1), (.iadd, 1), (.iaload, 1), (.invokevirtual 55, 3), (.aload_n 2, 1), (.aload_n 0, 1), (.iload 4, 2), (.iconst 1, 1), (.iadd, 1), (.iaload, 1), (.invokevirtual 59, 3), (.if_icmp .eq 187, 3), (.iconst 0, 1), (.ireturn, 1)]
def bk_Law_law_275 : List (Instr × Nat) := [(.aload_n 1, 1), (.aload_n 3, 1), (.invokestatic 60, 3), (.istore 5, 2), (.aload_n 2, 1), (.invokevirtual 62, 3), (.istore 6, 2), (.aload_n 2, 1), (.invokevirtual 48, 3), (.iload 5, 2), (.if_icmp .eq 5, 3), (.iconst 0, 1), (.ireturn, 1)]
def bk_Law_law_299 : List (Instr × Nat) := [(.iload 5, 2), (.ifCond .ne 15, 3), (.aload_n 3, 1), (.iconst 0, 1), (.laload, 1), (.iload 6, 2), (.i2l, 1), (.lcmp, 1), (.ifCond .eq 5, 3), (.iconst 0, 1), (.ireturn, 1)]
def bk_Law_law_316 : List (Instr × Nat) := [(.goto 141, 3)]
def bk_Law_law_319 : List (Instr × Nat) := [(.aload_n 1, 1), (.invokevirtual 63, 3), (.aload_n 2, 1), (.invokevirtual 66, 3), (.if_icmp .eq 130, 3), (.iconst 0, 1), (.ireturn, 1)]
def bk_Law_law_332 : List (Instr × Nat) := [(.aload_n 1, 1), (.invokevirtual 67, 3), (.aload_n 2, 1), (.invokevirtual 70, 3), (.if_icmp .eq 117, 3), (.iconst 0, 1), (.ireturn, 1)]
def bk_Law_law_345 : List (Instr × Nat) := [(.aload_n 1, 1), (.aload_n 0, 1), (.iload 4, 2), (.iconst 1, 1), (.iadd, 1), (.iaload, 1), (.aload_n 0, 1), (.iload 4, 2), (.iconst 2, 1), (.iadd, 1), (.iaload, 1), (.invokevirtual 71, 3), (.aload_n 2, 1), (.aload_n 0, 1), (.iload 4, 2), (.iconst 1, 1), (.iadd, 1), (.iaload, 1), (.aload_n 0, 1), (.iload 4, 2), (.iconst 2, 1), (.iadd, 1), (.iaload, 1), (.invokevirtual 75, 3), (.if_icmp .eq 80, 3), (.iconst 0, 1), (.ireturn, 1)]
def bk_Law_law_382 : List (Instr × Nat) := [(.aload_n 1, 1), (.aload_n 0, 1), (.iload 4, 2), (.iconst 1, 1), (.iadd, 1), (.iaload, 1), (.aload_n 0, 1), (.iload 4, 2), (.iconst 2, 1), (.iadd, 1), (.iaload, 1), (.invokevirtual 76, 3), (.aload_n 2, 1), (.aload_n 0, 1), (.iload 4, 2), (.iconst 1, 1), (.iadd, 1), (.iaload, 1), (.aload_n 0, 1), (.iload 4, 2), (.iconst 2, 1), (.iadd, 1), (.iaload, 1), (.invokevirtual 79, 3), (.if_icmp .eq 43, 3), (.iconst 0, 1), (.ireturn, 1)]
def bk_Law_law_419 : List (Instr × Nat) := [(.aload_n 1, 1), (.aload_n 0, 1), (.iload 4, 2), (.iconst 1, 1), (.iadd, 1), (.iaload, 1), (.aload_n 0, 1), (.iload 4, 2), (.iconst 2, 1), (.iadd, 1), (.iaload, 1), (.invokevirtual 80, 3), (.aload_n 2, 1), (.aload_n 0, 1), (.iload 4, 2), (.iconst 1, 1), (.iadd, 1), (.iaload, 1), (.aload_n 0, 1), (.iload 4, 2), (.iconst 2, 1), (.iadd, 1), (.iaload, 1), (.invokevirtual 84, 3), (.lcmp, 1), (.ifCond .eq 5, 3), (.iconst 0, 1), (.ireturn, 1)]
theorem ca_Law_law_0 : qz_ca yd_Law_law.2.1 0 bk_Law_law_0 := qz_cab_ok _ _ (by decide +kernel)
theorem ca_Law_law_23 : qz_ca yd_Law_law.2.1 23 bk_Law_law_23 := qz_cab_ok _ _ (by decide +kernel)
theorem ca_Law_law_463 : qz_ca yd_Law_law.2.1 463 bk_Law_law_463 := qz_cab_ok _ _ (by decide +kernel)
theorem ca_Law_law_100 : qz_ca yd_Law_law.2.1 100 bk_Law_law_100 := qz_cab_ok _ _ (by decide +kernel)
theorem ca_Law_law_457 : qz_ca yd_Law_law.2.1 457 bk_Law_law_457 := qz_cab_ok _ _ (by decide +kernel)
theorem ca_Law_law_157 : qz_ca yd_Law_law.2.1 157 bk_Law_law_157 := qz_cab_ok _ _ (by decide +kernel)
theorem ca_Law_law_168 : qz_ca yd_Law_law.2.1 168 bk_Law_law_168 := qz_cab_ok _ _ (by decide +kernel)
theorem ca_Law_law_193 : qz_ca yd_Law_law.2.1 193 bk_Law_law_193 := qz_cab_ok _ _ (by decide +kernel)
theorem ca_Law_law_217 : qz_ca yd_Law_law.2.1 217 bk_Law_law_217 := qz_cab_ok _ _ (by decide +kernel)
theorem ca_Law_law_234 : qz_ca yd_Law_law.2.1 234 bk_Law_law_234 := qz_cab_ok _ _ (by decide +kernel)
theorem ca_Law_law_237 : qz_ca yd_Law_law.2.1 237 bk_Law_law_237 := qz_cab_ok _ _ (by decide +kernel)
theorem ca_Law_law_250 : qz_ca yd_Law_law.2.1 250 bk_Law_law_250 := qz_cab_ok _ _ (by decide +kernel)
theorem ca_Law_law_275 : qz_ca yd_Law_law.2.1 275 bk_Law_law_275 := qz_cab_ok _ _ (by decide +kernel)
theorem ca_Law_law_299 : qz_ca yd_Law_law.2.1 299 bk_Law_law_299 := qz_cab_ok _ _ (by decide +kernel)
theorem ca_Law_law_316 : qz_ca yd_Law_law.2.1 316 bk_Law_law_316 := qz_cab_ok _ _ (by decide +kernel)
theorem ca_Law_law_319 : qz_ca yd_Law_law.2.1 319 bk_Law_law_319 := qz_cab_ok _ _ (by decide +kernel)
theorem ca_Law_law_332 : qz_ca yd_Law_law.2.1 332 bk_Law_law_332 := qz_cab_ok _ _ (by decide +kernel)
theorem ca_Law_law_345 : qz_ca yd_Law_law.2.1 345 bk_Law_law_345 := qz_cab_ok _ _ (by decide +kernel)
theorem ca_Law_law_382 : qz_ca yd_Law_law.2.1 382 bk_Law_law_382 := qz_cab_ok _ _ (by decide +kernel)
theorem ca_Law_law_419 : qz_ca yd_Law_law.2.1 419 bk_Law_law_419 := qz_cab_ok _ _ (by decide +kernel)
set_option maxRecDepth 20000 in
theorem jb_Law_law_457 (G : qz_G) (cs sl : Nat) (k23 : Int → Int → Int → Int → Int → qz_H → Option qz_R) (jk23 : ∀ (l0 : Int) (l1 : Int) (l2 : Int) (l3 : Int) (l4 : Int) (h : qz_H), qz_J yd_Law_law G bk_Law_law_23 23 [qz_r false 40 l0, qz_r false 0 l1, qz_r false 12 l2, qz_r false 41 l3, qz_i l4, qz_u, qz_u] [] h (cs + 1) (sl + 6) (k23 l0 l1 l2 l3 l4 h)) (l0 : Int) (l1 : Int) (l2 : Int) (l3 : Int) (l4 : Int) (h : qz_H) : qz_J yd_Law_law G bk_Law_law_457 457 [qz_r false 40 l0, qz_r false 0 l1, qz_r false 12 l2, qz_r false 41 l3, qz_i l4, qz_u, qz_u] [] h (cs + 1) (sl + 6) (fn_Law_law_457 k23 l0 l1 l2 l3 l4 h) := by
  unfold fn_Law_law_457 bk_Law_law_457; exact
    qz_iinc rfl (by decide) fun x1 =>
    qz_goto rfl ca_Law_law_23 <|
    qz_fgt [1, 1, 1, 1, 1, 0, 0] <| jk23 l0 l1 l2 l3 x1 h
set_option maxRecDepth 20000 in
theorem jb_Law_law_234 (G : qz_G) (cs sl : Nat) (k23 : Int → Int → Int → Int → Int → qz_H → Option qz_R) (jk23 : ∀ (l0 : Int) (l1 : Int) (l2 : Int) (l3 : Int) (l4 : Int) (h : qz_H), qz_J yd_Law_law G bk_Law_law_23 23 [qz_r false 40 l0, qz_r false 0 l1, qz_r false 12 l2, qz_r false 41 l3, qz_i l4, qz_u, qz_u] [] h (cs + 1) (sl + 6) (k23 l0 l1 l2 l3 l4 h)) (l0 : Int) (l1 : Int) (l2 : Int) (l3 : Int) (l4 : Int) (h : qz_H) : qz_J yd_Law_law G bk_Law_law_234 234 [qz_r false 40 l0, qz_r false 0 l1, qz_r false 12 l2, qz_r false 41 l3, qz_i l4, qz_u, qz_u] [] h (cs + 1) (sl + 6) (fn_Law_law_234 k23 l0 l1 l2 l3 l4 h) := by
  unfold fn_Law_law_234 bk_Law_law_234; exact
    qz_goto rfl ca_Law_law_457 <|
    qz_fgt [1, 1, 1, 1, 1, 0, 0] <| jb_Law_law_457 G cs sl k23 jk23 l0 l1 l2 l3 l4 h
set_option maxRecDepth 20000 in
theorem jb_Law_law_316 (G : qz_G) (cs sl : Nat) (k23 : Int → Int → Int → Int → Int → qz_H → Option qz_R) (jk23 : ∀ (l0 : Int) (l1 : Int) (l2 : Int) (l3 : Int) (l4 : Int) (h : qz_H), qz_J yd_Law_law G bk_Law_law_23 23 [qz_r false 40 l0, qz_r false 0 l1, qz_r false 12 l2, qz_r false 41 l3, qz_i l4, qz_u, qz_u] [] h (cs + 1) (sl + 6) (k23 l0 l1 l2 l3 l4 h)) (l0 : Int) (l1 : Int) (l2 : Int) (l3 : Int) (l4 : Int) (h : qz_H) : qz_J yd_Law_law G bk_Law_law_316 316 [qz_r false 40 l0, qz_r false 0 l1, qz_r false 12 l2, qz_r false 41 l3, qz_i l4, qz_u, qz_u] [] h (cs + 1) (sl + 6) (fn_Law_law_316 k23 l0 l1 l2 l3 l4 h) := by
  unfold fn_Law_law_316 bk_Law_law_316; exact
    qz_goto rfl ca_Law_law_457 <|
    qz_fgt [1, 1, 1, 1, 1, 0, 0] <| jb_Law_law_457 G cs sl k23 jk23 l0 l1 l2 l3 l4 h

set_option maxRecDepth 20000 in
theorem jb_Law_law_23_b (G : qz_G) (cs sl : Nat) (hc0 : cs ≤ 601024) (hc1 : cs + 1 ≤ 601024) (hs0 : sl ≤ 7293034) (hs1 : sl + 6 ≤ 7293034) (k23 : Int → Int → Int → Int → Int → qz_H → Option qz_R) (jk23 : ∀ (l0 : Int) (l1 : Int) (l2 : Int) (l3 : Int) (l4 : Int) (h : qz_H), qz_J yd_Law_law G bk_Law_law_23 23 [qz_r false 40 l0, qz_r false 0 l1, qz_r false 12 l2, qz_r false 41 l3, qz_i l4, qz_u, qz_u] [] h (cs + 1) (sl + 6) (k23 l0 l1 l2 l3 l4 h)) (l0 : Int) (l1 : Int) (l2 : Int) (l3 : Int) (l4 : Int) (h : qz_H) : qz_J yd_Law_law G bk_Law_law_23 23 [qz_r false 40 l0, qz_r false 0 l1, qz_r false 12 l2, qz_r false 41 l3, qz_i l4, qz_u, qz_u] [] h cs sl (fn_Law_law_23_b k23 l0 l1 l2 l3 l4 h) := by
  unfold fn_Law_law_23_b bk_Law_law_23; exact
    qz_iload rfl <|
    qz_aload_n rfl <|
    qz_nnd 0 rfl <|
    qz_alen (k0 := 40) rfl <|
    qz_iconst rfl <|
    qz_isub <|
    qz_icmp_gt rfl ca_Law_law_463
      (qz_iconst rfl <|
        qz_zreturn ⟨rfl, rfl⟩ (lw_le hc0 hs0))
      (qz_aload_n rfl <|
        qz_iload rfl <|
        qz_nnd 1 rfl <|
        qz_iald (k0 := 40) rfl rfl rfl <|
        qz_bipush rfl <|
        qz_iand <|
        qz_tsw [(0, 100, bk_Law_law_100), (1, 157, bk_Law_law_157), (2, 168, bk_Law_law_168), (3, 193, bk_Law_law_193), (4, 237, bk_Law_law_237), (5, 250, bk_Law_law_250), (6, 275, bk_Law_law_275), (7, 319, bk_Law_law_319), (8, 332, bk_Law_law_332), (9, 345, bk_Law_law_345), (10, 382, bk_Law_law_382), (11, 419, bk_Law_law_419)] ca_Law_law_457 rfl rfl rfl
          ⟨ca_Law_law_100, qz_aload_n rfl <|
            qz_aload_n rfl <|
            qz_iload rfl <|
            qz_iconst rfl <|
            qz_iadd <|
            qz_nnd 1 rfl <|
            qz_iald (k0 := 40) rfl rfl rfl <|
            qz_i2l <|
            qz_bipush rfl <|
            qz_lshl <|
            qz_aload_n rfl <|
            qz_iload rfl <|
            qz_iconst rfl <|
            qz_iadd <|
            qz_nnd 1 rfl <|
            qz_iald (k0 := 40) rfl rfl rfl <|
            qz_i2l <|
            qz_ldc2 wc_Law_26 rfl <|
            qz_land <|
            qz_lor <|
            qz_nnd 1 rfl <|
            qz_invvI [qz_j (qz_orJ (qz_shlJ (h l0 (qz_w (l4 + 1))) 32) (qz_andJ (h l0 (qz_w (l4 + 2))) 4294967295))] rfl (cn_SA_type l1 (qz_orJ (qz_shlJ (h l0 (qz_w (l4 + 1))) 32) (qz_andJ (h l0 (qz_w (l4 + 2))) 4294967295)) h) mw_SA_type vw_SA_type ⟨_, rfl, rfl, by decide⟩ rfl (lw_rm 0 0 rfl hc0 hs0) ln_Law_28 rfl fun r1 h2 =>
            qz_aload_n rfl <|
            qz_aload_n rfl <|
            qz_iload rfl <|
            qz_iconst rfl <|
            qz_iadd <|
            qz_nnd 1 rfl <|
            qz_iald (k0 := 40) rfl rfl rfl <|
            qz_i2l <|
            qz_bipush rfl <|
            qz_lshl <|
            qz_aload_n rfl <|
            qz_iload rfl <|
            qz_iconst rfl <|
            qz_iadd <|
            qz_nnd 1 rfl <|
            qz_iald (k0 := 40) rfl rfl rfl <|
            qz_i2l <|
            qz_ldc2 wc_Law_26 rfl <|
            qz_land <|
            qz_lor <|
            qz_nnd 1 rfl <|
            qz_invvI [qz_j (qz_orJ (qz_shlJ (h2 l0 (qz_w (l4 + 1))) 32) (qz_andJ (h2 l0 (qz_w (l4 + 2))) 4294967295))] rfl (cn_Md_type l2 (qz_orJ (qz_shlJ (h2 l0 (qz_w (l4 + 1))) 32) (qz_andJ (h2 l0 (qz_w (l4 + 2))) 4294967295)) h2) mw_Md_type vw_Md_type ⟨_, rfl, rfl, by decide⟩ rfl (lw_rm 0 0 rfl hc0 hs0) ln_Law_32 rfl fun r3 h4 =>
            qz_icmp_eq rfl ca_Law_law_457
              (qz_fgt [1, 1, 1, 1, 1, 0, 0] <| qz_wid (Nat.le_succ cs) (Nat.le_add_right sl 6) <| jb_Law_law_457 G cs sl k23 jk23 l0 l1 l2 l3 l4 h4)
              (qz_iconst rfl <|
                qz_zreturn ⟨rfl, rfl⟩ (lw_le hc0 hs0)),
          ⟨ca_Law_law_157, qz_aload_n rfl <|
            qz_nnd 0 rfl <|
            qz_invvV [] rfl (cn_SA_wipe l1 h) mw_SA_wipe vw_SA_wipe ⟨_, rfl, rfl, by decide⟩ rfl (lw_rm 0 0 rfl hc0 hs0) ln_Law_33 rfl fun _ h6 =>
            qz_aload_n rfl <|
            qz_nnd 0 rfl <|
            qz_invvV [] rfl (cn_Md_wipe l2 h6) mw_Md_wipe vw_Md_wipe ⟨_, rfl, rfl, by decide⟩ rfl (lw_rm 0 0 rfl hc0 hs0) ln_Law_36 rfl fun _ h8 =>
            qz_goto rfl ca_Law_law_457 <|
            qz_fgt [1, 1, 1, 1, 1, 0, 0] <| qz_wid (Nat.le_succ cs) (Nat.le_add_right sl 6) <| jb_Law_law_457 G cs sl k23 jk23 l0 l1 l2 l3 l4 h8,
          ⟨ca_Law_law_168, qz_aload_n rfl <|
            qz_aload_n rfl <|
            qz_iload rfl <|
            qz_iconst rfl <|
            qz_iadd <|
            qz_nnd 1 rfl <|
            qz_iald (k0 := 40) rfl rfl rfl <|
            qz_nnd 1 rfl <|
            qz_invvI [qz_i (h l0 (qz_w (l4 + 1)))] rfl (cn_SA_character l1 (h l0 (qz_w (l4 + 1))) h) mw_SA_character vw_SA_character ⟨_, rfl, rfl, by decide⟩ rfl (lw_rm 0 0 rfl hc0 hs0) ln_Law_37 rfl fun r9 h10 =>
            qz_aload_n rfl <|
            qz_aload_n rfl <|
            qz_iload rfl <|
            qz_iconst rfl <|
            qz_iadd <|
            qz_nnd 1 rfl <|
            qz_iald (k0 := 40) rfl rfl rfl <|
            qz_nnd 1 rfl <|
            qz_invvI [qz_i (h10 l0 (qz_w (l4 + 1)))] rfl (cn_Md_character l2 (h10 l0 (qz_w (l4 + 1))) h10) mw_Md_character vw_Md_character ⟨_, rfl, rfl, by decide⟩ rfl (lw_rm 0 0 rfl hc0 hs0) ln_Law_41 rfl fun r11 h12 =>
            qz_icmp_eq rfl ca_Law_law_457
              (qz_fgt [1, 1, 1, 1, 1, 0, 0] <| qz_wid (Nat.le_succ cs) (Nat.le_add_right sl 6) <| jb_Law_law_457 G cs sl k23 jk23 l0 l1 l2 l3 l4 h12)
              (qz_iconst rfl <|
                qz_zreturn ⟨rfl, rfl⟩ (lw_le hc0 hs0)),
          ⟨ca_Law_law_193, qz_aload_n rfl <|
            qz_aload_n rfl <|
            qz_invsW [qz_r false 0 l1, qz_r false 41 l3] rfl (cn_Law_assemble l1 l3 h) cw_Law_assemble wx_Law_assemble vs_Law_assemble rfl (lw_rm 1 6 rfl hc1 hs1) wt_516 rfl fun r13 h14 =>
            qz_istore (by decide) fun x15 =>
            qz_aload_n rfl <|
            qz_nnd 0 rfl <|
            qz_invvI [] rfl (cn_Md_assemble l2 h14) mw_Md_assemble vw_Md_assemble ⟨_, rfl, rfl, by decide⟩ rfl (lw_rm 0 0 rfl hc1 hs1) ln_Law_47 rfl fun r16 h17 =>
            qz_istore (by decide) fun x18 =>
            qz_aload_n rfl <|
            qz_nnd 0 rfl <|
            qz_invvI [] rfl (cn_Md_thrown l2 h17) mw_Md_thrown vw_Md_thrown ⟨_, rfl, rfl, by decide⟩ rfl (lw_rm 0 0 rfl hc1 hs1) ln_Law_48 rfl fun r19 h20 =>
            qz_iload rfl <|
            qz_icmp_eq rfl ca_Law_law_217
              (qz_iload rfl <|
                qz_if_ne rfl ca_Law_law_234
                  (qz_fgt [1, 1, 1, 1, 1, 0, 0] <| jb_Law_law_234 G cs sl k23 jk23 l0 l1 l2 l3 l4 h20)
                  (qz_aload_n rfl <|
                    qz_iconst rfl <|
                    qz_nnd 1 rfl <|
                    qz_lald (k0 := 41) rfl rfl rfl <|
                    qz_iload rfl <|
                    qz_i2l <|
                    qz_lcmp <|
                    qz_if_eq rfl ca_Law_law_234
                      (qz_fgt [1, 1, 1, 1, 1, 0, 0] <| jb_Law_law_234 G cs sl k23 jk23 l0 l1 l2 l3 l4 h20)
                      (qz_iconst rfl <|
                        qz_zreturn ⟨rfl, rfl⟩ (lw_le hc1 hs1))))
              (qz_iconst rfl <|
                qz_zreturn ⟨rfl, rfl⟩ (lw_le hc1 hs1)),
          ⟨ca_Law_law_237, qz_aload_n rfl <|
            qz_nnd 0 rfl <|
            qz_invvI [] rfl (cn_SA_encode l1 h) mw_SA_encode vw_SA_encode ⟨_, rfl, rfl, by decide⟩ rfl (lw_rm 0 0 rfl hc0 hs0) ln_Law_51 rfl fun r21 h22 =>
            qz_aload_n rfl <|
            qz_nnd 0 rfl <|
            qz_invvI [] rfl (cn_Md_encode l2 h22) mw_Md_encode vw_Md_encode ⟨_, rfl, rfl, by decide⟩ rfl (lw_rm 0 0 rfl hc0 hs0) ln_Law_54 rfl fun r23 h24 =>
            qz_icmp_eq rfl ca_Law_law_457
              (qz_fgt [1, 1, 1, 1, 1, 0, 0] <| qz_wid (Nat.le_succ cs) (Nat.le_add_right sl 6) <| jb_Law_law_457 G cs sl k23 jk23 l0 l1 l2 l3 l4 h24)
              (qz_iconst rfl <|
                qz_zreturn ⟨rfl, rfl⟩ (lw_le hc0 hs0)),
          ⟨ca_Law_law_250, qz_aload_n rfl <|
            qz_aload_n rfl <|
            qz_iload rfl <|
            qz_iconst rfl <|
            qz_iadd <|
            qz_nnd 1 rfl <|
            qz_iald (k0 := 40) rfl rfl rfl <|
            qz_nnd 1 rfl <|
            qz_invvI [qz_i (h l0 (qz_w (l4 + 1)))] rfl (cn_SA_octet l1 (h l0 (qz_w (l4 + 1))) h) mw_SA_octet vw_SA_octet ⟨_, rfl, rfl, by decide⟩ rfl (lw_rm 0 0 rfl hc0 hs0) ln_Law_55 rfl fun r25 h26 =>
            qz_aload_n rfl <|
            qz_aload_n rfl <|
            qz_iload rfl <|
            qz_iconst rfl <|
            qz_iadd <|
            qz_nnd 1 rfl <|
            qz_iald (k0 := 40) rfl rfl rfl <|
            qz_nnd 1 rfl <|
            qz_invvI [qz_i (h26 l0 (qz_w (l4 + 1)))] rfl (cn_Md_octet l2 (h26 l0 (qz_w (l4 + 1))) h26) mw_Md_octet vw_Md_octet ⟨_, rfl, rfl, by decide⟩ rfl (lw_rm 0 0 rfl hc0 hs0) ln_Law_59 rfl fun r27 h28 =>
            qz_icmp_eq rfl ca_Law_law_457
              (qz_fgt [1, 1, 1, 1, 1, 0, 0] <| qz_wid (Nat.le_succ cs) (Nat.le_add_right sl 6) <| jb_Law_law_457 G cs sl k23 jk23 l0 l1 l2 l3 l4 h28)
              (qz_iconst rfl <|
                qz_zreturn ⟨rfl, rfl⟩ (lw_le hc0 hs0)),
          ⟨ca_Law_law_275, qz_aload_n rfl <|
            qz_aload_n rfl <|
            qz_invsW [qz_r false 0 l1, qz_r false 41 l3] rfl (cn_Law_print l1 l3 h) cw_Law_print wx_Law_print vs_Law_print rfl (lw_rm 1 6 rfl hc1 hs1) wt_1018 rfl fun r29 h30 =>
            qz_istore (by decide) fun x31 =>
            qz_aload_n rfl <|
            qz_nnd 0 rfl <|
            qz_invvI [] rfl (cn_Md_print l2 h30) mw_Md_print vw_Md_print ⟨_, rfl, rfl, by decide⟩ rfl (lw_rm 0 0 rfl hc1 hs1) ln_Law_62 rfl fun r32 h33 =>
            qz_istore (by decide) fun x34 =>
            qz_aload_n rfl <|
            qz_nnd 0 rfl <|
            qz_invvI [] rfl (cn_Md_thrown l2 h33) mw_Md_thrown vw_Md_thrown ⟨_, rfl, rfl, by decide⟩ rfl (lw_rm 0 0 rfl hc1 hs1) ln_Law_48 rfl fun r35 h36 =>
            qz_iload rfl <|
            qz_icmp_eq rfl ca_Law_law_299
              (qz_iload rfl <|
                qz_if_ne rfl ca_Law_law_316
                  (qz_fgt [1, 1, 1, 1, 1, 0, 0] <| jb_Law_law_316 G cs sl k23 jk23 l0 l1 l2 l3 l4 h36)
                  (qz_aload_n rfl <|
                    qz_iconst rfl <|
                    qz_nnd 1 rfl <|
                    qz_lald (k0 := 41) rfl rfl rfl <|
                    qz_iload rfl <|
                    qz_i2l <|
                    qz_lcmp <|
                    qz_if_eq rfl ca_Law_law_316
                      (qz_fgt [1, 1, 1, 1, 1, 0, 0] <| jb_Law_law_316 G cs sl k23 jk23 l0 l1 l2 l3 l4 h36)
                      (qz_iconst rfl <|
                        qz_zreturn ⟨rfl, rfl⟩ (lw_le hc1 hs1))))
              (qz_iconst rfl <|
                qz_zreturn ⟨rfl, rfl⟩ (lw_le hc1 hs1)),
          ⟨ca_Law_law_319, qz_aload_n rfl <|
            qz_nnd 0 rfl <|
            qz_invvI [] rfl (cn_SA_place l1 h) mw_SA_place vw_SA_place ⟨_, rfl, rfl, by decide⟩ rfl (lw_rm 0 0 rfl hc0 hs0) ln_Law_63 rfl fun r37 h38 =>
            qz_aload_n rfl <|
            qz_nnd 0 rfl <|
            qz_invvI [] rfl (cn_Md_place l2 h38) mw_Md_place vw_Md_place ⟨_, rfl, rfl, by decide⟩ rfl (lw_rm 0 0 rfl hc0 hs0) ln_Law_66 rfl fun r39 h40 =>
            qz_icmp_eq rfl ca_Law_law_457
              (qz_fgt [1, 1, 1, 1, 1, 0, 0] <| qz_wid (Nat.le_succ cs) (Nat.le_add_right sl 6) <| jb_Law_law_457 G cs sl k23 jk23 l0 l1 l2 l3 l4 h40)
              (qz_iconst rfl <|
                qz_zreturn ⟨rfl, rfl⟩ (lw_le hc0 hs0)),
          ⟨ca_Law_law_332, qz_aload_n rfl <|
            qz_nnd 0 rfl <|
            qz_invvI [] rfl (cn_SA_functions l1 h) mw_SA_functions vw_SA_functions ⟨_, rfl, rfl, by decide⟩ rfl (lw_rm 0 0 rfl hc0 hs0) ln_Law_67 rfl fun r41 h42 =>
            qz_aload_n rfl <|
            qz_nnd 0 rfl <|
            qz_invvI [] rfl (cn_Md_functions l2 h42) mw_Md_functions vw_Md_functions ⟨_, rfl, rfl, by decide⟩ rfl (lw_rm 0 0 rfl hc0 hs0) ln_Law_70 rfl fun r43 h44 =>
            qz_icmp_eq rfl ca_Law_law_457
              (qz_fgt [1, 1, 1, 1, 1, 0, 0] <| qz_wid (Nat.le_succ cs) (Nat.le_add_right sl 6) <| jb_Law_law_457 G cs sl k23 jk23 l0 l1 l2 l3 l4 h44)
              (qz_iconst rfl <|
                qz_zreturn ⟨rfl, rfl⟩ (lw_le hc0 hs0)),
          ⟨ca_Law_law_345, qz_aload_n rfl <|
            qz_aload_n rfl <|
            qz_iload rfl <|
            qz_iconst rfl <|
            qz_iadd <|
            qz_nnd 1 rfl <|
            qz_iald (k0 := 40) rfl rfl rfl <|
            qz_aload_n rfl <|
            qz_iload rfl <|
            qz_iconst rfl <|
            qz_iadd <|
            qz_nnd 1 rfl <|
            qz_iald (k0 := 40) rfl rfl rfl <|
            qz_nnd 2 rfl <|
            qz_invvI [qz_i (h l0 (qz_w (l4 + 1))), qz_i (h l0 (qz_w (l4 + 2)))] rfl (cn_SA_function l1 (h l0 (qz_w (l4 + 1))) (h l0 (qz_w (l4 + 2))) h) mw_SA_function vw_SA_function ⟨_, rfl, rfl, by decide⟩ rfl (lw_rm 0 0 rfl hc0 hs0) ln_Law_71 rfl fun r45 h46 =>
            qz_aload_n rfl <|
            qz_aload_n rfl <|
            qz_iload rfl <|
            qz_iconst rfl <|
            qz_iadd <|
            qz_nnd 1 rfl <|
            qz_iald (k0 := 40) rfl rfl rfl <|
            qz_aload_n rfl <|
            qz_iload rfl <|
            qz_iconst rfl <|
            qz_iadd <|
            qz_nnd 1 rfl <|
            qz_iald (k0 := 40) rfl rfl rfl <|
            qz_nnd 2 rfl <|
            qz_invvI [qz_i (h46 l0 (qz_w (l4 + 1))), qz_i (h46 l0 (qz_w (l4 + 2)))] rfl (cn_Md_function l2 (h46 l0 (qz_w (l4 + 1))) (h46 l0 (qz_w (l4 + 2))) h46) mw_Md_function vw_Md_function ⟨_, rfl, rfl, by decide⟩ rfl (lw_rm 0 0 rfl hc0 hs0) ln_Law_75 rfl fun r47 h48 =>
            qz_icmp_eq rfl ca_Law_law_457
              (qz_fgt [1, 1, 1, 1, 1, 0, 0] <| qz_wid (Nat.le_succ cs) (Nat.le_add_right sl 6) <| jb_Law_law_457 G cs sl k23 jk23 l0 l1 l2 l3 l4 h48)
              (qz_iconst rfl <|
                qz_zreturn ⟨rfl, rfl⟩ (lw_le hc0 hs0)),
          ⟨ca_Law_law_382, qz_aload_n rfl <|
            qz_aload_n rfl <|
            qz_iload rfl <|
            qz_iconst rfl <|
            qz_iadd <|
            qz_nnd 1 rfl <|
            qz_iald (k0 := 40) rfl rfl rfl <|
            qz_aload_n rfl <|
            qz_iload rfl <|
            qz_iconst rfl <|
            qz_iadd <|
            qz_nnd 1 rfl <|
            qz_iald (k0 := 40) rfl rfl rfl <|
            qz_nnd 2 rfl <|
            qz_invvI [qz_i (h l0 (qz_w (l4 + 1))), qz_i (h l0 (qz_w (l4 + 2)))] rfl (cn_SA_instruction l1 (h l0 (qz_w (l4 + 1))) (h l0 (qz_w (l4 + 2))) h) mw_SA_instruction vw_SA_instruction ⟨_, rfl, rfl, by decide⟩ rfl (lw_rm 0 0 rfl hc0 hs0) ln_Law_76 rfl fun r49 h50 =>
            qz_aload_n rfl <|
            qz_aload_n rfl <|
            qz_iload rfl <|
            qz_iconst rfl <|
            qz_iadd <|
            qz_nnd 1 rfl <|
            qz_iald (k0 := 40) rfl rfl rfl <|
            qz_aload_n rfl <|
            qz_iload rfl <|
            qz_iconst rfl <|
            qz_iadd <|
            qz_nnd 1 rfl <|
            qz_iald (k0 := 40) rfl rfl rfl <|
            qz_nnd 2 rfl <|
            qz_invvI [qz_i (h50 l0 (qz_w (l4 + 1))), qz_i (h50 l0 (qz_w (l4 + 2)))] rfl (cn_Md_instruction l2 (h50 l0 (qz_w (l4 + 1))) (h50 l0 (qz_w (l4 + 2))) h50) mw_Md_instruction vw_Md_instruction ⟨_, rfl, rfl, by decide⟩ rfl (lw_rm 0 0 rfl hc0 hs0) ln_Law_79 rfl fun r51 h52 =>
            qz_icmp_eq rfl ca_Law_law_457
              (qz_fgt [1, 1, 1, 1, 1, 0, 0] <| qz_wid (Nat.le_succ cs) (Nat.le_add_right sl 6) <| jb_Law_law_457 G cs sl k23 jk23 l0 l1 l2 l3 l4 h52)
              (qz_iconst rfl <|
                qz_zreturn ⟨rfl, rfl⟩ (lw_le hc0 hs0)),
          ⟨ca_Law_law_419, qz_aload_n rfl <|
            qz_aload_n rfl <|
            qz_iload rfl <|
            qz_iconst rfl <|
            qz_iadd <|
            qz_nnd 1 rfl <|
            qz_iald (k0 := 40) rfl rfl rfl <|
            qz_aload_n rfl <|
            qz_iload rfl <|
            qz_iconst rfl <|
            qz_iadd <|
            qz_nnd 1 rfl <|
            qz_iald (k0 := 40) rfl rfl rfl <|
            qz_nnd 2 rfl <|
            qz_invvJ [qz_i (h l0 (qz_w (l4 + 1))), qz_i (h l0 (qz_w (l4 + 2)))] rfl (cn_SA_immediate l1 (h l0 (qz_w (l4 + 1))) (h l0 (qz_w (l4 + 2))) h) mw_SA_immediate vw_SA_immediate ⟨_, rfl, rfl, by decide⟩ rfl (lw_rm 0 0 rfl hc0 hs0) ln_Law_80 rfl fun r53 h54 =>
            qz_aload_n rfl <|
            qz_aload_n rfl <|
            qz_iload rfl <|
            qz_iconst rfl <|
            qz_iadd <|
            qz_nnd 1 rfl <|
            qz_iald (k0 := 40) rfl rfl rfl <|
            qz_aload_n rfl <|
            qz_iload rfl <|
            qz_iconst rfl <|
            qz_iadd <|
            qz_nnd 1 rfl <|
            qz_iald (k0 := 40) rfl rfl rfl <|
            qz_nnd 2 rfl <|
            qz_invvJ [qz_i (h54 l0 (qz_w (l4 + 1))), qz_i (h54 l0 (qz_w (l4 + 2)))] rfl (cn_Md_immediate l2 (h54 l0 (qz_w (l4 + 1))) (h54 l0 (qz_w (l4 + 2))) h54) mw_Md_immediate vw_Md_immediate ⟨_, rfl, rfl, by decide⟩ rfl (lw_rm 0 0 rfl hc0 hs0) ln_Law_84 rfl fun r55 h56 =>
            qz_lcmp <|
            qz_if_eq rfl ca_Law_law_457
              (qz_fgt [1, 1, 1, 1, 1, 0, 0] <| qz_wid (Nat.le_succ cs) (Nat.le_add_right sl 6) <| jb_Law_law_457 G cs sl k23 jk23 l0 l1 l2 l3 l4 h56)
              (qz_iconst rfl <|
                qz_zreturn ⟨rfl, rfl⟩ (lw_le hc0 hs0)),
          trivial⟩⟩⟩⟩⟩⟩⟩⟩⟩⟩⟩⟩
          (qz_fgt [1, 1, 1, 1, 1, 0, 0] <| qz_wid (Nat.le_succ cs) (Nat.le_add_right sl 6) <| jb_Law_law_457 G cs sl k23 jk23 l0 l1 l2 l3 l4 h))

theorem jb_Law_law_23 (G : qz_G) : ∀ (n : Nat), n ≤ 4000 → ∀ (l0 l1 l2 l3 l4 : Int) (h : qz_H), qz_J yd_Law_law G bk_Law_law_23 23 [qz_r false 40 l0, qz_r false 0 l1, qz_r false 12 l2, qz_r false 41 l3, qz_i l4, qz_u, qz_u] [] h (601024 - n) (7293034 - 6 * n) (fn_Law_law_23 n l0 l1 l2 l3 l4 h)
  | 0, _, _, _, _, _, _, _ => qz_none
  | n + 1, hn, l0, l1, l2, l3, l4, h => by
    refine jb_Law_law_23_b G _ _ (by omega) (by omega) (by omega) (by omega) (fn_Law_law_23 n) (fun l0 l1 l2 l3 l4 h => ?_) l0 l1 l2 l3 l4 h
    have e1 : 601024 - (n + 1) + 1 = 601024 - n := by omega
    have e2 : 7293034 - 6 * (n + 1) + 6 = 7293034 - 6 * n := by omega
    rw [e1, e2]
    exact jb_Law_law_23 G n (by omega) l0 l1 l2 l3 l4 h
set_option maxRecDepth 20000 in
theorem jl_Law_law (G : qz_G) (l0 : Int) (h : qz_H) : qz_J yd_Law_law G bk_Law_law_0 0 [qz_r false 40 l0, qz_u, qz_u, qz_u, qz_u, qz_u, qz_u] [] h 0 0 (fn_Law_law l0 h) := by
  unfold fn_Law_law bk_Law_law_0; exact
    qz_new kw_0 rfl nw_Law_8 rfl fun h1 q2 =>
    qz_dup rfl <|
    qz_inviV [] rfl (cn_SA_init q2 h1) mw_SA_init vi_SA_init rfl rfl ln_Law_22 rfl fun _ h4 =>
    qz_astore_n (by decide) fun x5 =>
    qz_new kw_12 rfl nw_Law_23 rfl fun h6 q7 =>
    qz_dup rfl <|
    qz_inviV [] rfl (cn_Md_init q7 h6) mw_Md_init vi_Md_init rfl rfl ln_Law_25 rfl fun _ h9 =>
    qz_astore_n (by decide) fun x10 =>
    qz_iconst rfl <|
    qz_newa (N := 1) rfl rfl (by decide) rfl rfl rfl (by decide) wa_long rfl fun h11 q12 =>
    qz_astore_n (by decide) fun x13 =>
    qz_iconst rfl <|
    qz_istore (by decide) fun x14 =>
    qz_fall rfl ca_Law_law_23 <|
    qz_fgt [1, 2, 2, 2, 1, 0, 0] <| qz_wid (by decide) (by decide) <| jb_Law_law_23 G qz_NF (by decide) l0 x5 x10 x13 x14 h11
