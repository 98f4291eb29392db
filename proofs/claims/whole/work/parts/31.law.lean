theorem wt_0 : (Jvm.Cond.initialized "StackAssemblerLaw") ∈ kz_TT := kz_g (kz_in1 (List.mem_of_getElem? (i := 0) rfl)) rfl
theorem wt_517 : (Jvm.Cond.static ({ cls := "StackAssemblerLaw", name := "assemble", desc := "(LStackAssembler;[J)I" } : Jvm.MethodName)) ∈ kz_TT := kz_g (kz_in3 (List.mem_of_getElem? (i := 37) rfl)) rfl
theorem wt_518 : (Jvm.Cond.codeWith ({ cls := "StackAssemblerLaw", name := "assemble", desc := "(LStackAssembler;[J)I" } : Jvm.MethodName) method_3_code (3 : Nat) (Option.some Jvm.ClassFile.FieldType.int) [((0 : Nat), (8 : Nat), (11 : Nat), (13 : Nat)), ((0 : Nat), (8 : Nat), (14 : Nat), (15 : Nat)), ((0 : Nat), (8 : Nat), (17 : Nat), (17 : Nat))]) ∈ kz_TT := kz_g (kz_in3 (List.mem_of_getElem? (i := 38) rfl)) rfl
theorem wt_519 : (Jvm.Cond.classLink "StackAssemblerLaw" (13 : Nat) "java/lang/IllegalArgumentException") ∈ kz_TT := kz_g (kz_in3 (List.mem_of_getElem? (i := 39) rfl)) rfl
theorem wt_520 : (Jvm.Cond.classLink "StackAssemblerLaw" (15 : Nat) "java/lang/UnsupportedOperationException") ∈ kz_TT := kz_g (kz_in3 (List.mem_of_getElem? (i := 40) rfl)) rfl
theorem wt_521 : (Jvm.Cond.classLink "StackAssemblerLaw" (17 : Nat) "java/lang/IllegalStateException") ∈ kz_TT := kz_g (kz_in3 (List.mem_of_getElem? (i := 41) rfl)) rfl
theorem wt_522 : (Jvm.Cond.methodLink "StackAssemblerLaw" (7 : Nat) ({ cls := "StackAssembler", name := "assemble", desc := "()I" } : Jvm.MethodName)) ∈ kz_TT := kz_g (kz_in3 (List.mem_of_getElem? (i := 42) rfl)) rfl
theorem wt_1019 : (Jvm.Cond.static ({ cls := "StackAssemblerLaw", name := "print", desc := "(LStackAssembler;[J)I" } : Jvm.MethodName)) ∈ kz_TT := kz_g (kz_in5 (List.mem_of_getElem? (i := 59) rfl)) rfl
theorem wt_1020 : (Jvm.Cond.codeWith ({ cls := "StackAssemblerLaw", name := "print", desc := "(LStackAssembler;[J)I" } : Jvm.MethodName) method_4_code (3 : Nat) (Option.some Jvm.ClassFile.FieldType.int) [((0 : Nat), (8 : Nat), (11 : Nat), (15 : Nat))]) ∈ kz_TT := kz_g (kz_in5 (List.mem_of_getElem? (i := 60) rfl)) rfl
theorem wt_1021 : (Jvm.Cond.methodLink "StackAssemblerLaw" (19 : Nat) ({ cls := "StackAssembler", name := "print", desc := "()I" } : Jvm.MethodName)) ∈ kz_TT := kz_g (kz_in5 (List.mem_of_getElem? (i := 61) rfl)) rfl
theorem pc_StackAssemblerLaw : plainName "StackAssemblerLaw" = true := by decide +kernel
theorem qz_Jno {Y : qz_Y} {G : qz_G} {is : List (Instr × Nat)} {pc : Nat} {ls st : List qz_V} {h : qz_H} {cs sl : Nat} : qz_J Y G is pc ls st h cs sl none := by
  obtain ⟨p, l, e, s, m, args, below, meth, c, D, dA, B0, hc, h0⟩ := G
  intro r hr
  cases hr
theorem qz_Jck {Y : qz_Y} {G : qz_G} {is : List (Instr × Nat)} {pc : Nat} {ls st : List qz_V} {h : qz_H} {cs sl : Nat} {c : Prop} [Decidable c] {t : Option qz_R} (k : c → qz_J Y G is pc ls st h cs sl t) : qz_J Y G is pc ls st h cs sl (qz_ck c t) := by
  unfold qz_ck
  by_cases hc : c
  · rw [if_pos hc]; exact k hc
  · rw [if_neg hc]; exact qz_Jno
def yd_Law_assemble : qz_Y := (⟨"StackAssemblerLaw", "assemble", "(LStackAssembler;[J)I"⟩, method_3_code, 3, (Option.some Jvm.ClassFile.FieldType.int), 1, { frames := 10, cells := 1, slots := 6, locals := 219 })
def hh_Law_assemble : List (Nat × Nat × Nat × Nat) := [(0, 8, 11, 13), (0, 8, 14, 15), (0, 8, 17, 17)]
theorem cw_Law_assemble : Cond.codeWith yd_Law_assemble.1 yd_Law_assemble.2.1 yd_Law_assemble.2.2.1 yd_Law_assemble.2.2.2.1 hh_Law_assemble ∈ kz_TT := wt_518
theorem wx_Law_assemble : Cond.initialized yd_Law_assemble.1.cls ∈ kz_TT ∧ (yd_Law_assemble.1.cls ≠ "java/lang/invoke/MethodHandle" ∧ yd_Law_assemble.1.cls ≠ "java/lang/invoke/VarHandle") ∧ (parseMethodDescriptor yd_Law_assemble.1.desc).map (fun d => d.parameters.length) = some 2 := ⟨wt_0, by decide +kernel, by decide +kernel⟩
theorem vs_Law_assemble : Cond.static yd_Law_assemble.1 ∈ kz_TT := wt_517
theorem ln_Law_7 : qz_ln "StackAssemblerLaw" 7 yd_SA_assemble := Or.inl wt_522
set_option maxRecDepth 20000 in
def fn_Law_assembleN (l0 : Int) (l1 : Int) (h : qz_H) : Option qz_R :=
  qz_ck ((l0 : Int) ≠ 0) <|
  qz_bc (fn_SA_assemble l0 h) fun r1 h2 =>
  qz_ck ((l1 : Int) ≠ 0) <|
  qz_ck (0 < l1 ∧ (0 : Int) ≤ 0 ∧ 0 < h2 l1 (-1)) <|
  qz_bn (qz_up h2 l1 0 r1) fun h3 =>
  some (0, h3)
def fn_Law_assemble (l0 : Int) (l1 : Int) (h : qz_H) : Option qz_R := match fn_SA_assembleT l0 h with
  | some q => qz_ck ((l0 : Int) ≠ 0) <| if q.1 = 1 then some (1, q.2) else if q.1 = 2 then some (2, q.2) else if q.1 = 3 then some (3, q.2) else none
  | none => fn_Law_assembleN l0 l1 h
def bk_Law_assemble_0 : List (Instr × Nat) := [(.aload_n 1, 1), (.iconst 0, 1), (.aload_n 0, 1), (.invokevirtual 7, 3), (.i2l, 1), (.lastore, 1), (.goto 12, 3)]
def bk_Law_assemble_20 : List (Instr × Nat) := [(.iconst 0, 1), (.ireturn, 1)]
theorem ca_Law_assemble_0 : qz_ca yd_Law_assemble.2.1 0 bk_Law_assemble_0 := qz_cab_ok _ _ (by decide +kernel)
theorem ca_Law_assemble_20 : qz_ca yd_Law_assemble.2.1 20 bk_Law_assemble_20 := qz_cab_ok _ _ (by decide +kernel)
def bk_Law_assemble_11 : List (Instr × Nat) := [(.astore_n 2, 1), (.iconst 1, 1), (.ireturn, 1)]
theorem ca_Law_assemble_11 : qz_ca yd_Law_assemble.2.1 11 bk_Law_assemble_11 := qz_cab_ok _ _ (by decide +kernel)
def bk_Law_assemble_14 : List (Instr × Nat) := [(.astore_n 2, 1), (.iconst 2, 1), (.ireturn, 1)]
theorem ca_Law_assemble_14 : qz_ca yd_Law_assemble.2.1 14 bk_Law_assemble_14 := qz_cab_ok _ _ (by decide +kernel)
def bk_Law_assemble_17 : List (Instr × Nat) := [(.astore_n 2, 1), (.iconst 3, 1), (.ireturn, 1)]
theorem ca_Law_assemble_17 : qz_ca yd_Law_assemble.2.1 17 bk_Law_assemble_17 := qz_cab_ok _ _ (by decide +kernel)
theorem jt_Law_assemble_1 (G : qz_G) (l0 l1 : Int) (h h2 : qz_H) (hT : fn_SA_assembleT l0 h = some (1, h2)) : qz_J yd_Law_assemble G bk_Law_assemble_0 0 [qz_r false 0 l0, qz_r false 41 l1, qz_u] [] h 0 0 (qz_ck ((l0 : Int) ≠ 0) <| some (1, h2)) := by
  have hc := cn_SA_assembleT l0 h
  rw [hT] at hc
  unfold bk_Law_assemble_0; exact
    qz_aload_n rfl <|
    qz_iconst rfl <|
    qz_aload_n rfl <|
    qz_nnd 0 rfl <|
    qz_catch (pre := []) (post := [(0, 8, 14, 15), (0, 8, 17, 17)]) (is2 := bk_Law_assemble_11) [] rfl hc mw_SA_assembleT vw_SA_assembleT ⟨_, rfl, rfl, by decide⟩ rfl rfl wt_522 cw_Law_assemble ⟨by decide, by decide, by decide, wt_519⟩ ((fun _ z => by cases z)) ca_Law_assemble_11 fun o =>
    qz_astore_nO (by decide) <|
    qz_iconst rfl <|
    qz_ireturn ⟨rfl, rfl⟩ rfl
theorem jt_Law_assemble_2 (G : qz_G) (l0 l1 : Int) (h h2 : qz_H) (hT : fn_SA_assembleT l0 h = some (2, h2)) : qz_J yd_Law_assemble G bk_Law_assemble_0 0 [qz_r false 0 l0, qz_r false 41 l1, qz_u] [] h 0 0 (qz_ck ((l0 : Int) ≠ 0) <| some (2, h2)) := by
  have hc := cn_SA_assembleT l0 h
  rw [hT] at hc
  unfold bk_Law_assemble_0; exact
    qz_aload_n rfl <|
    qz_iconst rfl <|
    qz_aload_n rfl <|
    qz_nnd 0 rfl <|
    qz_catch (pre := [(0, 8, 11, 13)]) (post := [(0, 8, 17, 17)]) (is2 := bk_Law_assemble_14) [] rfl hc mw_SA_assembleT vw_SA_assembleT ⟨_, rfl, rfl, by decide⟩ rfl rfl wt_522 cw_Law_assemble ⟨by decide, by decide, by decide, wt_520⟩ (List.forall_mem_cons.mpr ⟨⟨by decide, by decide, by decide, _, wt_519, List.mem_of_getElem? (i := 2) rfl⟩, (fun _ z => by cases z)⟩) ca_Law_assemble_14 fun o =>
    qz_astore_nO (by decide) <|
    qz_iconst rfl <|
    qz_ireturn ⟨rfl, rfl⟩ rfl
theorem jt_Law_assemble_3 (G : qz_G) (l0 l1 : Int) (h h2 : qz_H) (hT : fn_SA_assembleT l0 h = some (3, h2)) : qz_J yd_Law_assemble G bk_Law_assemble_0 0 [qz_r false 0 l0, qz_r false 41 l1, qz_u] [] h 0 0 (qz_ck ((l0 : Int) ≠ 0) <| some (3, h2)) := by
  have hc := cn_SA_assembleT l0 h
  rw [hT] at hc
  unfold bk_Law_assemble_0; exact
    qz_aload_n rfl <|
    qz_iconst rfl <|
    qz_aload_n rfl <|
    qz_nnd 0 rfl <|
    qz_catch (pre := [(0, 8, 11, 13), (0, 8, 14, 15)]) (post := []) (is2 := bk_Law_assemble_17) [] rfl hc mw_SA_assembleT vw_SA_assembleT ⟨_, rfl, rfl, by decide⟩ rfl rfl wt_522 cw_Law_assemble ⟨by decide, by decide, by decide, wt_521⟩ (List.forall_mem_cons.mpr ⟨⟨by decide, by decide, by decide, _, wt_519, List.mem_of_getElem? (i := 4) rfl⟩, List.forall_mem_cons.mpr ⟨⟨by decide, by decide, by decide, _, wt_520, List.mem_of_getElem? (i := 5) rfl⟩, (fun _ z => by cases z)⟩⟩) ca_Law_assemble_17 fun o =>
    qz_astore_nO (by decide) <|
    qz_iconst rfl <|
    qz_ireturn ⟨rfl, rfl⟩ rfl
set_option maxRecDepth 20000 in
theorem jn_Law_assemble (G : qz_G) (l0 : Int) (l1 : Int) (h : qz_H) : qz_J yd_Law_assemble G bk_Law_assemble_0 0 [qz_r false 0 l0, qz_r false 41 l1, qz_u] [] h 0 0 (fn_Law_assembleN l0 l1 h) := by
  unfold fn_Law_assembleN bk_Law_assemble_0; exact
    qz_aload_n rfl <|
    qz_iconst rfl <|
    qz_aload_n rfl <|
    qz_nnd 0 rfl <|
    qz_invvI [] rfl (cn_SA_assemble l0 h) mw_SA_assemble vw_SA_assemble ⟨_, rfl, rfl, by decide⟩ rfl rfl ln_Law_7 rfl fun r1 h2 =>
    qz_i2l <|
    qz_nnd 2 rfl <|
    qz_last rfl rfl rfl fun h3 =>
    qz_goto rfl ca_Law_assemble_20 <|
    qz_iconst rfl <|
    qz_ireturn ⟨rfl, rfl⟩ rfl
theorem cn_Law_assemble (l0 : Int) (l1 : Int) (h : qz_H) : qz_CW hh_Law_assemble yd_Law_assemble [qz_r false 0 l0, qz_r false 41 l1] h (fn_Law_assemble l0 l1 h) := by
  refine qz_conW (is := bk_Law_assemble_0) (ls := [qz_r false 0 l0, qz_r false 41 l1, qz_u]) pc_StackAssemblerLaw ca_Law_assemble_0 rfl rfl rfl fun G => ?_
  unfold fn_Law_assemble
  cases hT : fn_SA_assembleT l0 h with
  | none => exact jn_Law_assemble G l0 l1 h
  | some q =>
    dsimp only
    by_cases k1 : q.1 = 1
    · rw [if_pos k1]
      exact jt_Law_assemble_1 G l0 l1 h q.2 (by rw [hT, ← k1])
    rw [if_neg k1]
    by_cases k2 : q.1 = 2
    · rw [if_pos k2]
      exact jt_Law_assemble_2 G l0 l1 h q.2 (by rw [hT, ← k2])
    rw [if_neg k2]
    by_cases k3 : q.1 = 3
    · rw [if_pos k3]
      exact jt_Law_assemble_3 G l0 l1 h q.2 (by rw [hT, ← k3])
    rw [if_neg k3]
    exact qz_Jck fun _ => qz_Jno
def yd_Law_print : qz_Y := (⟨"StackAssemblerLaw", "print", "(LStackAssembler;[J)I"⟩, method_4_code, 3, (Option.some Jvm.ClassFile.FieldType.int), 1, { frames := 11, cells := 1, slots := 6, locals := 239 })
def hh_Law_print : List (Nat × Nat × Nat × Nat) := [(0, 8, 11, 15)]
theorem cw_Law_print : Cond.codeWith yd_Law_print.1 yd_Law_print.2.1 yd_Law_print.2.2.1 yd_Law_print.2.2.2.1 hh_Law_print ∈ kz_TT := wt_1020
theorem wx_Law_print : Cond.initialized yd_Law_print.1.cls ∈ kz_TT ∧ (yd_Law_print.1.cls ≠ "java/lang/invoke/MethodHandle" ∧ yd_Law_print.1.cls ≠ "java/lang/invoke/VarHandle") ∧ (parseMethodDescriptor yd_Law_print.1.desc).map (fun d => d.parameters.length) = some 2 := ⟨wt_0, by decide +kernel, by decide +kernel⟩
theorem vs_Law_print : Cond.static yd_Law_print.1 ∈ kz_TT := wt_1019
theorem ln_Law_19 : qz_ln "StackAssemblerLaw" 19 yd_SA_print := Or.inl wt_1021
set_option maxRecDepth 20000 in
def fn_Law_printN (l0 : Int) (l1 : Int) (h : qz_H) : Option qz_R :=
  qz_ck ((l0 : Int) ≠ 0) <|
  qz_bc (fn_SA_print l0 h) fun r1 h2 =>
  qz_ck ((l1 : Int) ≠ 0) <|
  qz_ck (0 < l1 ∧ (0 : Int) ≤ 0 ∧ 0 < h2 l1 (-1)) <|
  qz_bn (qz_up h2 l1 0 r1) fun h3 =>
  some (0, h3)
def fn_Law_print (l0 : Int) (l1 : Int) (h : qz_H) : Option qz_R := match fn_SA_printT l0 h with
  | some q => qz_ck ((l0 : Int) ≠ 0) <| if q.1 = 2 then some (1, q.2) else none
  | none => fn_Law_printN l0 l1 h
def bk_Law_print_0 : List (Instr × Nat) := [(.aload_n 1, 1), (.iconst 0, 1), (.aload_n 0, 1), (.invokevirtual 19, 3), (.i2l, 1), (.lastore, 1), (.goto 6, 3)]
def bk_Law_print_14 : List (Instr × Nat) := [(.iconst 0, 1), (.ireturn, 1)]
theorem ca_Law_print_0 : qz_ca yd_Law_print.2.1 0 bk_Law_print_0 := qz_cab_ok _ _ (by decide +kernel)
theorem ca_Law_print_14 : qz_ca yd_Law_print.2.1 14 bk_Law_print_14 := qz_cab_ok _ _ (by decide +kernel)
def bk_Law_print_11 : List (Instr × Nat) := [(.astore_n 2, 1), (.iconst 1, 1), (.ireturn, 1)]
theorem ca_Law_print_11 : qz_ca yd_Law_print.2.1 11 bk_Law_print_11 := qz_cab_ok _ _ (by decide +kernel)
theorem jt_Law_print_2 (G : qz_G) (l0 l1 : Int) (h h2 : qz_H) (hT : fn_SA_printT l0 h = some (2, h2)) : qz_J yd_Law_print G bk_Law_print_0 0 [qz_r false 0 l0, qz_r false 41 l1, qz_u] [] h 0 0 (qz_ck ((l0 : Int) ≠ 0) <| some (1, h2)) := by
  have hc := cn_SA_printT l0 h
  rw [hT] at hc
  unfold bk_Law_print_0; exact
    qz_aload_n rfl <|
    qz_iconst rfl <|
    qz_aload_n rfl <|
    qz_nnd 0 rfl <|
    qz_catch (pre := []) (post := []) (is2 := bk_Law_print_11) [] rfl hc mw_SA_printT vw_SA_printT ⟨_, rfl, rfl, by decide⟩ rfl rfl wt_1021 cw_Law_print ⟨by decide, by decide, by decide, wt_520⟩ ((fun _ z => by cases z)) ca_Law_print_11 fun o =>
    qz_astore_nO (by decide) <|
    qz_iconst rfl <|
    qz_ireturn ⟨rfl, rfl⟩ rfl
set_option maxRecDepth 20000 in
theorem jn_Law_print (G : qz_G) (l0 : Int) (l1 : Int) (h : qz_H) : qz_J yd_Law_print G bk_Law_print_0 0 [qz_r false 0 l0, qz_r false 41 l1, qz_u] [] h 0 0 (fn_Law_printN l0 l1 h) := by
  unfold fn_Law_printN bk_Law_print_0; exact
    qz_aload_n rfl <|
    qz_iconst rfl <|
    qz_aload_n rfl <|
    qz_nnd 0 rfl <|
    qz_invvI [] rfl (cn_SA_print l0 h) mw_SA_print vw_SA_print ⟨_, rfl, rfl, by decide⟩ rfl rfl ln_Law_19 rfl fun r1 h2 =>
    qz_i2l <|
    qz_nnd 2 rfl <|
    qz_last rfl rfl rfl fun h3 =>
    qz_goto rfl ca_Law_print_14 <|
    qz_iconst rfl <|
    qz_ireturn ⟨rfl, rfl⟩ rfl
theorem cn_Law_print (l0 : Int) (l1 : Int) (h : qz_H) : qz_CW hh_Law_print yd_Law_print [qz_r false 0 l0, qz_r false 41 l1] h (fn_Law_print l0 l1 h) := by
  refine qz_conW (is := bk_Law_print_0) (ls := [qz_r false 0 l0, qz_r false 41 l1, qz_u]) pc_StackAssemblerLaw ca_Law_print_0 rfl rfl rfl fun G => ?_
  unfold fn_Law_print
  cases hT : fn_SA_printT l0 h with
  | none => exact jn_Law_print G l0 l1 h
  | some q =>
    dsimp only
    by_cases k2 : q.1 = 2
    · rw [if_pos k2]
      exact jt_Law_print_2 G l0 l1 h q.2 (by rw [hT, ← k2])
    rw [if_neg k2]
    exact qz_Jck fun _ => qz_Jno
