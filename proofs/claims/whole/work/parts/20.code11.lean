set_option maxRecDepth 20000 in
def fn_Module_add (l0 : Int) (l1 : Int) (l2 : Int) (h : qz_H) : Option qz_R :=
  if h l0 4 < 64 then
    qz_ck ((l1 : Int) ≠ 0) <|
    qz_ck ((h l0 1 : Int) ≠ 0) <|
    qz_ck (0 < h l0 1 ∧ (0 : Int) ≤ h l0 4 ∧ h l0 4 < h (h l0 1) (-1)) <|
    qz_bn (qz_up h (h l0 1) (h l0 4) l1) fun h1 =>
    qz_ck ((h1 l0 2 : Int) ≠ 0) <|
    qz_ck (0 < h1 l0 2 ∧ (0 : Int) ≤ h1 l0 4 ∧ h1 l0 4 < h1 (h1 l0 2) (-1)) <|
    qz_bn (qz_up h1 (h1 l0 2) (h1 l0 4) l2) fun h2 =>
    qz_ck ((0 : Int) < l0) <|
    qz_bn (qz_up h2 l0 4 (qz_w ((h2 l0 4) + 1))) fun h3 =>
    qz_bc (fn_Module_latest l0 h3) fun r4 h5 =>
    qz_ck ((r4 : Int) ≠ 0) <|
    qz_ck ((r4 : Int) ≠ 0) <|
    qz_ck ((0 : Int) < r4) <|
    qz_bn (qz_up h5 r4 5 (qz_w ((h5 r4 5) + 1))) fun h6 =>
    qz_ck ((1 : Int) = 0 ∨ (1 : Int) = 1) (some (1, h6))
  else
    qz_ck ((0 : Int) = 0 ∨ (0 : Int) = 1) (some (0, h))
def bk_Module_add_0 : List (Instr × Nat) := [(.aload_n 0, 1), (.getfield 36, 3), (.bipush 64, 2), (.if_icmp .lt 5, 3), (.iconst 0, 1), (.ireturn, 1)]
def bk_Module_add_11 : List (Instr × Nat) := [(.aload_n 0, 1), (.getfield 19, 3), (.aload_n 0, 1), (.getfield 36, 3), (.aload_n 1, 1), (.aastore, 1), (.aload_n 0, 1), (.getfield 23, 3), (.aload_n 0, 1), (.getfield 36, 3), (.lload_n 2, 1), (.lastore, 1), (.aload_n 0, 1), (.dup, 1), (.getfield 36, 3), (.iconst 1, 1), (.iadd, 1), (.putfield 36, 3), (.aload_n 0, 1), (.invokevirtual 60, 3), (.dup, 1), (.getfield 45, 3), (.iconst 1, 1), (.iadd, 1), (.putfield 45, 3), (.iconst 1, 1), (.ireturn, 1)]
theorem ca_Module_add_0 : qz_ca yd_Module_add.2.1 0 bk_Module_add_0 := qz_cab_ok _ _ (by decide +kernel)
theorem ca_Module_add_11 : qz_ca yd_Module_add.2.1 11 bk_Module_add_11 := qz_cab_ok _ _ (by decide +kernel)
set_option maxRecDepth 20000 in
theorem cn_Module_add (l0 : Int) (l1 : Int) (l2 : Int) (h : qz_H) : qz_C yd_Module_add [qz_r true 6 l0, qz_r false 7 l1, qz_j l2] h (fn_Module_add l0 l1 l2 h) := by
  refine qz_con (is := bk_Module_add_0) (ls := [qz_r true 6 l0, qz_r false 7 l1, qz_j l2, qz_u]) mw_Module_add.2.2.2 ca_Module_add_0 rfl rfl fun G => ?_
  unfold fn_Module_add bk_Module_add_0; exact
    qz_aload_n rfl <|
    qz_getI kg_6 fl_Module_36 rfl rfl <|
    qz_bipush rfl <|
    qz_icmp_lt rfl ca_Module_add_11
      (qz_aload_n rfl <|
        qz_getR (k1 := 46) kg_6 fl_Module_19 rfl rfl <|
        qz_aload_n rfl <|
        qz_getI kg_6 fl_Module_36 rfl rfl <|
        qz_aload_n rfl <|
        qz_nnd 0 rfl <|
        qz_nnd 2 rfl <|
        qz_aast (k0 := 46) (k1 := 7) rfl rfl rfl (by decide) ⟨_, rfl, rfl, by decide⟩ fun h1 =>
        qz_aload_n rfl <|
        qz_getR (k1 := 41) kg_6 fl_Module_23 rfl rfl <|
        qz_aload_n rfl <|
        qz_getI kg_6 fl_Module_36 rfl rfl <|
        qz_lload_n rfl <|
        qz_nnd 2 rfl <|
        qz_last rfl rfl rfl fun h2 =>
        qz_aload_n rfl <|
        qz_dup rfl <|
        qz_getI kg_6 fl_Module_36 rfl rfl <|
        qz_iconst rfl <|
        qz_iadd <|
        qz_putI kw_6 fp_Module_36_Module_add rfl rfl fun h3 =>
        qz_aload_n rfl <|
        qz_invvR [] rfl (cn_Module_latest l0 h3) mw_Module_latest vw_Module_latest ⟨_, rfl, rfl, by decide⟩ rfl rfl ln_Module_60 rfl fun r4 h5 =>
        qz_dup rfl <|
        qz_nnd 0 rfl <|
        qz_getI kg_4 fl_Module_45 rfl rfl <|
        qz_iconst rfl <|
        qz_iadd <|
        qz_nnd 1 rfl <|
        qz_putI kw_4 fp_Module_45_Module_add rfl rfl fun h6 =>
        qz_iconst rfl <|
        qz_zreturn ⟨rfl, rfl⟩ rfl)
      (qz_iconst rfl <|
        qz_zreturn ⟨rfl, rfl⟩ rfl)
def fn_Op_opensBlock_13 (s0 : Int) (h : qz_H) : Option qz_R :=
  qz_ck ((s0 : Int) = 0 ∨ (s0 : Int) = 1) (some (s0, h))
set_option maxRecDepth 20000 in
def fn_Op_opensBlock (l0 : Int) (h : qz_H) : Option qz_R :=
  if ¬ h l0 2 = 1 then
    fn_Op_opensBlock_13 0 h
  else
    fn_Op_opensBlock_13 1 h
def bk_Op_opensBlock_0 : List (Instr × Nat) := [(.aload_n 0, 1), (.getfield 126, 3), (.iconst 1, 1), (.if_icmp .ne 7, 3), (.iconst 1, 1), (.goto 4, 3)]
def bk_Op_opensBlock_12 : List (Instr × Nat) := [(.iconst 0, 1)]
def bk_Op_opensBlock_13 : List (Instr × Nat) := [(.ireturn, 1)]
theorem ca_Op_opensBlock_0 : qz_ca yd_Op_opensBlock.2.1 0 bk_Op_opensBlock_0 := qz_cab_ok _ _ (by decide +kernel)
theorem ca_Op_opensBlock_12 : qz_ca yd_Op_opensBlock.2.1 12 bk_Op_opensBlock_12 := qz_cab_ok _ _ (by decide +kernel)
theorem ca_Op_opensBlock_13 : qz_ca yd_Op_opensBlock.2.1 13 bk_Op_opensBlock_13 := qz_cab_ok _ _ (by decide +kernel)
set_option maxRecDepth 20000 in
theorem jb_Op_opensBlock_13 (G : qz_G) (s0 : Int) (h : qz_H) : qz_J yd_Op_opensBlock G bk_Op_opensBlock_13 13 [qz_u] [qz_i s0] h 0 0 (fn_Op_opensBlock_13 s0 h) := by
  unfold fn_Op_opensBlock_13 bk_Op_opensBlock_13; exact
    qz_zreturn ⟨rfl, rfl⟩ rfl
set_option maxRecDepth 20000 in
theorem cn_Op_opensBlock (l0 : Int) (h : qz_H) : qz_C yd_Op_opensBlock [qz_r true 7 l0] h (fn_Op_opensBlock l0 h) := by
  refine qz_con (is := bk_Op_opensBlock_0) (ls := [qz_r true 7 l0]) mw_Op_opensBlock.2.2.2 ca_Op_opensBlock_0 rfl rfl fun G => ?_
  unfold fn_Op_opensBlock bk_Op_opensBlock_0; exact
    qz_aload_n rfl <|
    qz_getI kg_7 fl_Op_126 rfl rfl <|
    qz_iconst rfl <|
    qz_icmp_ne rfl ca_Op_opensBlock_12
      (qz_iconst rfl <|
        qz_fall rfl ca_Op_opensBlock_13 <|
        qz_fgt [0] <| jb_Op_opensBlock_13 G 0 h)
      (qz_iconst rfl <|
        qz_goto rfl ca_Op_opensBlock_13 <|
        qz_fgt [0] <| jb_Op_opensBlock_13 G 1 h)
def fn_Op_isPlain_26 (s0 : Int) (h : qz_H) : Option qz_R :=
  qz_ck ((s0 : Int) = 0 ∨ (s0 : Int) = 1) (some (s0, h))
def fn_Op_isPlain_25 (h : qz_H) : Option qz_R :=
  fn_Op_isPlain_26 0 h
set_option maxRecDepth 20000 in
def fn_Op_isPlain (l0 : Int) (h : qz_H) : Option qz_R :=
  qz_bc (fn_Op_opensBlock l0 h) fun r1 h2 =>
  if ¬ r1 = 0 then
    fn_Op_isPlain_25 h2
  else
    if l0 = (-6) then
      fn_Op_isPlain_25 h2
    else
      if l0 = (-7) then
        fn_Op_isPlain_25 h2
      else
        fn_Op_isPlain_26 1 h2
def bk_Op_isPlain_0 : List (Instr × Nat) := [(.aload_n 0, 1), (.invokevirtual 138, 3), (.ifCond .ne 21, 3), (.aload_n 0, 1), (.getstatic 21, 3), (.if_acmp .eq 14, 3), (.aload_n 0, 1), (.getstatic 24, 3), (.if_acmp .eq 7, 3), (.iconst 1, 1), (.goto 4, 3)]
def bk_Op_isPlain_25 : List (Instr × Nat) := [(.iconst 0, 1)]
def bk_Op_isPlain_26 : List (Instr × Nat) := [(.ireturn, 1)]
theorem ca_Op_isPlain_0 : qz_ca yd_Op_isPlain.2.1 0 bk_Op_isPlain_0 := qz_cab_ok _ _ (by decide +kernel)
theorem ca_Op_isPlain_25 : qz_ca yd_Op_isPlain.2.1 25 bk_Op_isPlain_25 := qz_cab_ok _ _ (by decide +kernel)
theorem ca_Op_isPlain_26 : qz_ca yd_Op_isPlain.2.1 26 bk_Op_isPlain_26 := qz_cab_ok _ _ (by decide +kernel)
set_option maxRecDepth 20000 in
theorem jb_Op_isPlain_26 (G : qz_G) (s0 : Int) (h : qz_H) : qz_J yd_Op_isPlain G bk_Op_isPlain_26 26 [qz_u] [qz_i s0] h 0 0 (fn_Op_isPlain_26 s0 h) := by
  unfold fn_Op_isPlain_26 bk_Op_isPlain_26; exact
    qz_zreturn ⟨rfl, rfl⟩ rfl
set_option maxRecDepth 20000 in
theorem jb_Op_isPlain_25 (G : qz_G) (h : qz_H) : qz_J yd_Op_isPlain G bk_Op_isPlain_25 25 [qz_u] [] h 0 0 (fn_Op_isPlain_25 h) := by
  unfold fn_Op_isPlain_25 bk_Op_isPlain_25; exact
    qz_iconst rfl <|
    qz_fall rfl ca_Op_isPlain_26 <|
    qz_fgt [0] <| jb_Op_isPlain_26 G 0 h
set_option maxRecDepth 20000 in
theorem cn_Op_isPlain (l0 : Int) (h : qz_H) : qz_C yd_Op_isPlain [qz_r true 7 l0] h (fn_Op_isPlain l0 h) := by
  refine qz_con (is := bk_Op_isPlain_0) (ls := [qz_r true 7 l0]) mw_Op_isPlain.2.2.2 ca_Op_isPlain_0 rfl rfl fun G => ?_
  unfold fn_Op_isPlain bk_Op_isPlain_0; exact
    qz_aload_n rfl <|
    qz_invvI [] rfl (cn_Op_opensBlock l0 h) mw_Op_opensBlock vw_Op_opensBlock ⟨_, rfl, rfl, by decide⟩ rfl rfl ln_Op_138 rfl fun r1 h2 =>
    qz_if_ne rfl ca_Op_isPlain_25
      (qz_fgt [0] <| jb_Op_isPlain_25 G h2)
      (qz_aload_n rfl <|
        qz_getsR sz_Op_ELSE sl_Op_21 rfl <|
        qz_acmp_eq rfl ca_Op_isPlain_25
          (qz_fgt [0] <| jb_Op_isPlain_25 G h2)
          (qz_aload_n rfl <|
            qz_getsR sz_Op_END sl_Op_24 rfl <|
            qz_acmp_eq rfl ca_Op_isPlain_25
              (qz_fgt [0] <| jb_Op_isPlain_25 G h2)
              (qz_iconst rfl <|
                qz_goto rfl ca_Op_isPlain_26 <|
                qz_fgt [0] <| jb_Op_isPlain_26 G 1 h2)))
def fn_Op_awaitsOperand_20 (s0 : Int) (h : qz_H) : Option qz_R :=
  qz_ck ((s0 : Int) = 0 ∨ (s0 : Int) = 1) (some (s0, h))
def fn_Op_awaitsOperand_19 (h : qz_H) : Option qz_R :=
  fn_Op_awaitsOperand_20 0 h
set_option maxRecDepth 20000 in
def fn_Op_awaitsOperand (l0 : Int) (h : qz_H) : Option qz_R :=
  if h l0 2 = 0 then
    fn_Op_awaitsOperand_19 h
  else
    if h l0 2 = 1 then
      fn_Op_awaitsOperand_19 h
    else
      fn_Op_awaitsOperand_20 1 h
def bk_Op_awaitsOperand_0 : List (Instr × Nat) := [(.aload_n 0, 1), (.getfield 126, 3), (.ifCond .eq 15, 3), (.aload_n 0, 1), (.getfield 126, 3), (.iconst 1, 1), (.if_icmp .eq 7, 3), (.iconst 1, 1), (.goto 4, 3)]
def bk_Op_awaitsOperand_19 : List (Instr × Nat) := [(.iconst 0, 1)]
def bk_Op_awaitsOperand_20 : List (Instr × Nat) := [(.ireturn, 1)]
theorem ca_Op_awaitsOperand_0 : qz_ca yd_Op_awaitsOperand.2.1 0 bk_Op_awaitsOperand_0 := qz_cab_ok _ _ (by decide +kernel)
theorem ca_Op_awaitsOperand_19 : qz_ca yd_Op_awaitsOperand.2.1 19 bk_Op_awaitsOperand_19 := qz_cab_ok _ _ (by decide +kernel)
theorem ca_Op_awaitsOperand_20 : qz_ca yd_Op_awaitsOperand.2.1 20 bk_Op_awaitsOperand_20 := qz_cab_ok _ _ (by decide +kernel)
set_option maxRecDepth 20000 in
theorem jb_Op_awaitsOperand_20 (G : qz_G) (s0 : Int) (h : qz_H) : qz_J yd_Op_awaitsOperand G bk_Op_awaitsOperand_20 20 [qz_u] [qz_i s0] h 0 0 (fn_Op_awaitsOperand_20 s0 h) := by
  unfold fn_Op_awaitsOperand_20 bk_Op_awaitsOperand_20; exact
    qz_zreturn ⟨rfl, rfl⟩ rfl
set_option maxRecDepth 20000 in
theorem jb_Op_awaitsOperand_19 (G : qz_G) (h : qz_H) : qz_J yd_Op_awaitsOperand G bk_Op_awaitsOperand_19 19 [qz_u] [] h 0 0 (fn_Op_awaitsOperand_19 h) := by
  unfold fn_Op_awaitsOperand_19 bk_Op_awaitsOperand_19; exact
    qz_iconst rfl <|
    qz_fall rfl ca_Op_awaitsOperand_20 <|
    qz_fgt [0] <| jb_Op_awaitsOperand_20 G 0 h
set_option maxRecDepth 20000 in
theorem cn_Op_awaitsOperand (l0 : Int) (h : qz_H) : qz_C yd_Op_awaitsOperand [qz_r true 7 l0] h (fn_Op_awaitsOperand l0 h) := by
  refine qz_con (is := bk_Op_awaitsOperand_0) (ls := [qz_r true 7 l0]) mw_Op_awaitsOperand.2.2.2 ca_Op_awaitsOperand_0 rfl rfl fun G => ?_
  unfold fn_Op_awaitsOperand bk_Op_awaitsOperand_0; exact
    qz_aload_n rfl <|
    qz_getI kg_7 fl_Op_126 rfl rfl <|
    qz_if_eq rfl ca_Op_awaitsOperand_19
      (qz_fgt [0] <| jb_Op_awaitsOperand_19 G h)
      (qz_aload_n rfl <|
        qz_getI kg_7 fl_Op_126 rfl rfl <|
        qz_iconst rfl <|
        qz_icmp_eq rfl ca_Op_awaitsOperand_19
          (qz_fgt [0] <| jb_Op_awaitsOperand_19 G h)
          (qz_iconst rfl <|
            qz_goto rfl ca_Op_awaitsOperand_20 <|
            qz_fgt [0] <| jb_Op_awaitsOperand_20 G 1 h))
def fn_String_coder_14 (s0 : Int) (h : qz_H) : Option qz_R :=
  qz_ck ((-128 : Int) ≤ s0 ∧ (s0 : Int) ≤ 127) (some (s0, h))
set_option maxRecDepth 20000 in
def fn_String_coder (l0 : Int) (h : qz_H) : Option qz_R :=
  if (1 : Int) = 0 then
    fn_String_coder_14 1 h
  else
    fn_String_coder_14 (h l0 1) h
def bk_String_coder_0 : List (Instr × Nat) := [(.getstatic 38, 3), (.ifCond .eq 10, 3), (.aload_n 0, 1), (.getfield 15, 3), (.goto 4, 3)]
def bk_String_coder_13 : List (Instr × Nat) := [(.iconst 1, 1)]
def bk_String_coder_14 : List (Instr × Nat) := [(.ireturn, 1)]
theorem ca_String_coder_0 : qz_ca yd_String_coder.2.1 0 bk_String_coder_0 := qz_cab_ok _ _ (by decide +kernel)
theorem ca_String_coder_13 : qz_ca yd_String_coder.2.1 13 bk_String_coder_13 := qz_cab_ok _ _ (by decide +kernel)
theorem ca_String_coder_14 : qz_ca yd_String_coder.2.1 14 bk_String_coder_14 := qz_cab_ok _ _ (by decide +kernel)
set_option maxRecDepth 20000 in
theorem jb_String_coder_14 (G : qz_G) (s0 : Int) (h : qz_H) : qz_J yd_String_coder G bk_String_coder_14 14 [qz_u] [qz_i s0] h 0 0 (fn_String_coder_14 s0 h) := by
  unfold fn_String_coder_14 bk_String_coder_14; exact
    qz_breturn ⟨rfl, rfl⟩ rfl
set_option maxRecDepth 20000 in
theorem cn_String_coder (l0 : Int) (h : qz_H) : qz_C yd_String_coder [qz_r true 13 l0] h (fn_String_coder l0 h) := by
  refine qz_con (is := bk_String_coder_0) (ls := [qz_r true 13 l0]) mw_String_coder.2.2.2 ca_String_coder_0 rfl rfl fun G => ?_
  unfold fn_String_coder bk_String_coder_0; exact
    qz_getsI sz_java_lang_String_COMPACT_STRINGS sl_java_lang_String_38 rfl <|
    qz_if_eq rfl ca_String_coder_13
      (qz_iconst rfl <|
        qz_fall rfl ca_String_coder_14 <|
        qz_fgt [0] <| jb_String_coder_14 G 1 h)
      (qz_aload_n rfl <|
        qz_getI kg_13 fl_java_lang_String_15 rfl rfl <|
        qz_goto rfl ca_String_coder_14 <|
        qz_fgt [0] <| jb_String_coder_14 G (h l0 1) h)
set_option maxRecDepth 20000 in
def fn_String_length (l0 : Int) (h : qz_H) : Option qz_R :=
  qz_ck ((h l0 0 : Int) ≠ 0) <|
  qz_bc (fn_String_coder l0 h) fun r1 h2 =>
  some (qz_shr (h (h l0 0) (-1)) r1, h2)
def bk_String_length_0 : List (Instr × Nat) := [(.aload_n 0, 1), (.getfield 9, 3), (.arraylength, 1), (.aload_n 0, 1), (.invokevirtual 335, 3), (.ishr, 1), (.ireturn, 1)]
theorem ca_String_length_0 : qz_ca yd_String_length.2.1 0 bk_String_length_0 := qz_cab_ok _ _ (by decide +kernel)
set_option maxRecDepth 20000 in
theorem cn_String_length (l0 : Int) (h : qz_H) : qz_C yd_String_length [qz_r true 13 l0] h (fn_String_length l0 h) := by
  refine qz_con (is := bk_String_length_0) (ls := [qz_r true 13 l0]) mw_String_length.2.2.2 ca_String_length_0 rfl rfl fun G => ?_
  unfold fn_String_length bk_String_length_0; exact
    qz_aload_n rfl <|
    qz_getR (k1 := 43) kg_13 fl_java_lang_String_9 rfl rfl <|
    qz_nnd 0 rfl <|
    qz_alen (k0 := 43) rfl <|
    qz_aload_n rfl <|
    qz_invvI [] rfl (cn_String_coder l0 h) mw_String_coder vw_String_coder ⟨_, rfl, rfl, by decide⟩ rfl rfl ln_java_lang_String_335 rfl fun r1 h2 =>
    qz_ishr <|
    qz_ireturn ⟨rfl, rfl⟩ rfl
def fn_String_isLatin1_18 (s0 : Int) (h : qz_H) : Option qz_R :=
  qz_ck ((s0 : Int) = 0 ∨ (s0 : Int) = 1) (some (s0, h))
def fn_String_isLatin1_17 (h : qz_H) : Option qz_R :=
  fn_String_isLatin1_18 0 h
set_option maxRecDepth 20000 in
def fn_String_isLatin1 (l0 : Int) (h : qz_H) : Option qz_R :=
  if (1 : Int) = 0 then
    fn_String_isLatin1_17 h
  else
    if ¬ h l0 1 = 0 then
      fn_String_isLatin1_17 h
    else
      fn_String_isLatin1_18 1 h
def bk_String_isLatin1_0 : List (Instr × Nat) := [(.getstatic 38, 3), (.ifCond .eq 14, 3), (.aload_n 0, 1), (.getfield 15, 3), (.ifCond .ne 7, 3), (.iconst 1, 1), (.goto 4, 3)]
def bk_String_isLatin1_17 : List (Instr × Nat) := [(.iconst 0, 1)]
def bk_String_isLatin1_18 : List (Instr × Nat) := [(.ireturn, 1)]
theorem ca_String_isLatin1_0 : qz_ca yd_String_isLatin1.2.1 0 bk_String_isLatin1_0 := qz_cab_ok _ _ (by decide +kernel)
theorem ca_String_isLatin1_17 : qz_ca yd_String_isLatin1.2.1 17 bk_String_isLatin1_17 := qz_cab_ok _ _ (by decide +kernel)
theorem ca_String_isLatin1_18 : qz_ca yd_String_isLatin1.2.1 18 bk_String_isLatin1_18 := qz_cab_ok _ _ (by decide +kernel)
set_option maxRecDepth 20000 in
theorem jb_String_isLatin1_18 (G : qz_G) (s0 : Int) (h : qz_H) : qz_J yd_String_isLatin1 G bk_String_isLatin1_18 18 [qz_u] [qz_i s0] h 0 0 (fn_String_isLatin1_18 s0 h) := by
  unfold fn_String_isLatin1_18 bk_String_isLatin1_18; exact
    qz_zreturn ⟨rfl, rfl⟩ rfl
set_option maxRecDepth 20000 in
theorem jb_String_isLatin1_17 (G : qz_G) (h : qz_H) : qz_J yd_String_isLatin1 G bk_String_isLatin1_17 17 [qz_u] [] h 0 0 (fn_String_isLatin1_17 h) := by
  unfold fn_String_isLatin1_17 bk_String_isLatin1_17; exact
    qz_iconst rfl <|
    qz_fall rfl ca_String_isLatin1_18 <|
    qz_fgt [0] <| jb_String_isLatin1_18 G 0 h
set_option maxRecDepth 20000 in
theorem cn_String_isLatin1 (l0 : Int) (h : qz_H) : qz_C yd_String_isLatin1 [qz_r true 13 l0] h (fn_String_isLatin1 l0 h) := by
  refine qz_con (is := bk_String_isLatin1_0) (ls := [qz_r true 13 l0]) mw_String_isLatin1.2.2.2 ca_String_isLatin1_0 rfl rfl fun G => ?_
  unfold fn_String_isLatin1 bk_String_isLatin1_0; exact
    qz_getsI sz_java_lang_String_COMPACT_STRINGS sl_java_lang_String_38 rfl <|
    qz_if_eq rfl ca_String_isLatin1_17
      (qz_fgt [0] <| jb_String_isLatin1_17 G h)
      (qz_aload_n rfl <|
        qz_getI kg_13 fl_java_lang_String_15 rfl rfl <|
        qz_if_ne rfl ca_String_isLatin1_17
          (qz_fgt [0] <| jb_String_isLatin1_17 G h)
          (qz_iconst rfl <|
            qz_goto rfl ca_String_isLatin1_18 <|
            qz_fgt [0] <| jb_String_isLatin1_18 G 1 h))
set_option maxRecDepth 20000 in
def fn_Preconditions_checkIndex (l0 : Int) (l1 : Int) (h : qz_H) : Option qz_R :=
  if l0 < 0 then
    none
  else
    if l0 < l1 then
      some (l0, h)
    else
      none
def bk_Preconditions_checkIndex_0 : List (Instr × Nat) := [(.iload_n 0, 1), (.ifCond .lt 8, 3), (.iload_n 0, 1), (.iload_n 1, 1), (.if_icmp .lt 10, 3)]
def bk_Preconditions_checkIndex_9 : List (Instr × Nat) := [(.aload_n 2, 1), (.iload_n 0, 1), (.iload_n 1, 1), (.invokestatic 95, 3), (.athrow, 1)]
def bk_Preconditions_checkIndex_16 : List (Instr × Nat) := [(.iload_n 0, 1), (.ireturn, 1)]
theorem ca_Preconditions_checkIndex_0 : qz_ca yd_Preconditions_checkIndex.2.1 0 bk_Preconditions_checkIndex_0 := qz_cab_ok _ _ (by decide +kernel)
theorem ca_Preconditions_checkIndex_9 : qz_ca yd_Preconditions_checkIndex.2.1 9 bk_Preconditions_checkIndex_9 := qz_cab_ok _ _ (by decide +kernel)
theorem ca_Preconditions_checkIndex_16 : qz_ca yd_Preconditions_checkIndex.2.1 16 bk_Preconditions_checkIndex_16 := qz_cab_ok _ _ (by decide +kernel)
set_option maxRecDepth 20000 in
theorem cn_Preconditions_checkIndex (l0 : Int) (l1 : Int) (l2 : Option Nat) (h : qz_H) : qz_C yd_Preconditions_checkIndex [qz_i l0, qz_i l1, qz_o l2] h (fn_Preconditions_checkIndex l0 l1 h) := by
  refine qz_con (is := bk_Preconditions_checkIndex_0) (ls := [qz_i l0, qz_i l1, qz_o l2]) mw_Preconditions_checkIndex.2.2.2 ca_Preconditions_checkIndex_0 rfl rfl fun G => ?_
  unfold fn_Preconditions_checkIndex bk_Preconditions_checkIndex_0; exact
    qz_iload_n rfl <|
    qz_if_lt rfl ca_Preconditions_checkIndex_9
      (qz_none)
      (qz_iload_n rfl <|
        qz_iload_n rfl <|
        qz_icmp_lt rfl ca_Preconditions_checkIndex_16
          (qz_iload_n rfl <|
            qz_ireturn ⟨rfl, rfl⟩ rfl)
          (qz_fall rfl ca_Preconditions_checkIndex_9 <|
            qz_none))
set_option maxRecDepth 20000 in
def fn_String_checkIndex (l0 : Int) (l1 : Int) (h : qz_H) : Option qz_R :=
  qz_bc (fn_Preconditions_checkIndex l0 l1 h) fun r2 h3 =>
  some (0, h3)
def bk_String_checkIndex_0 : List (Instr × Nat) := [(.iload_n 0, 1), (.iload_n 1, 1), (.getstatic 1053, 3), (.invokestatic 1059, 3), (.pop, 1), (.return_, 1)]
theorem ca_String_checkIndex_0 : qz_ca yd_String_checkIndex.2.1 0 bk_String_checkIndex_0 := qz_cab_ok _ _ (by decide +kernel)
set_option maxRecDepth 20000 in
theorem cn_String_checkIndex (l0 : Int) (l1 : Int) (h : qz_H) : qz_C yd_String_checkIndex [qz_i l0, qz_i l1] h (fn_String_checkIndex l0 l1 h) := by
  refine qz_con (is := bk_String_checkIndex_0) (ls := [qz_i l0, qz_i l1]) mw_String_checkIndex.2.2.2 ca_String_checkIndex_0 rfl rfl fun G => ?_
  unfold fn_String_checkIndex bk_String_checkIndex_0; exact
    qz_iload_n rfl <|
    qz_iload_n rfl <|
    qz_getsO (List.mem_of_getElem? (i := 0) rfl) sl_java_lang_String_1053 fun o1 =>
    qz_invsI [qz_i l0, qz_i l1, qz_o o1] rfl (cn_Preconditions_checkIndex l0 l1 o1 h) mw_Preconditions_checkIndex vs_Preconditions_checkIndex rfl rfl ln_java_lang_String_1059 rfl fun r2 h3 =>
    qz_pop rfl <|
    qz_return ⟨rfl, rfl⟩ rfl
set_option maxRecDepth 20000 in
def fn_StringLatin1_charAt (l0 : Int) (l1 : Int) (h : qz_H) : Option qz_R :=
  qz_ck ((l0 : Int) ≠ 0) <|
  qz_bc (fn_String_checkIndex l1 (h l0 (-1)) h) fun _ h2 =>
  qz_ck ((l0 : Int) ≠ 0) <|
  qz_ck ((0 : Int) ≤ l1 ∧ l1 < h2 l0 (-1)) <|
  qz_ck ((0 : Int) ≤ qz_i2c (qz_and (h2 l0 l1) 255) ∧ (qz_i2c (qz_and (h2 l0 l1) 255) : Int) ≤ 65535) (some (qz_i2c (qz_and (h2 l0 l1) 255), h2))
def bk_StringLatin1_charAt_0 : List (Instr × Nat) := [(.iload_n 1, 1), (.aload_n 0, 1), (.arraylength, 1), (.invokestatic 9, 3), (.aload_n 0, 1), (.iload_n 1, 1), (.baload, 1), (.sipush 255, 3), (.iand, 1), (.i2c, 1), (.ireturn, 1)]
theorem ca_StringLatin1_charAt_0 : qz_ca yd_StringLatin1_charAt.2.1 0 bk_StringLatin1_charAt_0 := qz_cab_ok _ _ (by decide +kernel)
set_option maxRecDepth 20000 in
theorem cn_StringLatin1_charAt (l0 : Int) (l1 : Int) (h : qz_H) : qz_C yd_StringLatin1_charAt [qz_r false 43 l0, qz_i l1] h (fn_StringLatin1_charAt l0 l1 h) := by
  refine qz_con (is := bk_StringLatin1_charAt_0) (ls := [qz_r false 43 l0, qz_i l1]) mw_StringLatin1_charAt.2.2.2 ca_StringLatin1_charAt_0 rfl rfl fun G => ?_
  unfold fn_StringLatin1_charAt bk_StringLatin1_charAt_0; exact
    qz_iload_n rfl <|
    qz_aload_n rfl <|
    qz_nnd 0 rfl <|
    qz_alen (k0 := 43) rfl <|
    qz_invsV [qz_i l1, qz_i (h l0 (-1))] rfl (cn_String_checkIndex l1 (h l0 (-1)) h) mw_String_checkIndex vs_String_checkIndex rfl rfl ln_java_lang_StringLatin1_9 rfl fun _ h2 =>
    qz_aload_n rfl <|
    qz_iload_n rfl <|
    qz_nnd 1 rfl <|
    qz_bald (k0 := 43) rfl rfl rfl <|
    qz_sipush rfl <|
    qz_iand <|
    qz_ins_i2c <|
    qz_creturn ⟨rfl, rfl⟩ rfl
set_option maxRecDepth 20000 in
def fn_String_charAt (l0 : Int) (l1 : Int) (h : qz_H) : Option qz_R :=
  qz_bc (fn_String_isLatin1 l0 h) fun r1 h2 =>
  if r1 = 0 then
    none
  else
    qz_bc (fn_StringLatin1_charAt (h2 l0 0) l1 h2) fun r3 h4 =>
    qz_ck ((0 : Int) ≤ r3 ∧ (r3 : Int) ≤ 65535) (some (r3, h4))
def bk_String_charAt_0 : List (Instr × Nat) := [(.aload_n 0, 1), (.invokevirtual 492, 3), (.ifCond .eq 12, 3), (.aload_n 0, 1), (.getfield 9, 3), (.iload_n 1, 1), (.invokestatic 495, 3), (.ireturn, 1)]
def bk_String_charAt_16 : List (Instr × Nat) := [(.aload_n 0, 1), (.getfield 9, 3), (.iload_n 1, 1), (.invokestatic 498, 3), (.ireturn, 1)]
theorem ca_String_charAt_0 : qz_ca yd_String_charAt.2.1 0 bk_String_charAt_0 := qz_cab_ok _ _ (by decide +kernel)
theorem ca_String_charAt_16 : qz_ca yd_String_charAt.2.1 16 bk_String_charAt_16 := qz_cab_ok _ _ (by decide +kernel)
set_option maxRecDepth 20000 in
theorem cn_String_charAt (l0 : Int) (l1 : Int) (h : qz_H) : qz_C yd_String_charAt [qz_r true 13 l0, qz_i l1] h (fn_String_charAt l0 l1 h) := by
  refine qz_con (is := bk_String_charAt_0) (ls := [qz_r true 13 l0, qz_i l1]) mw_String_charAt.2.2.2 ca_String_charAt_0 rfl rfl fun G => ?_
  unfold fn_String_charAt bk_String_charAt_0; exact
    qz_aload_n rfl <|
    qz_invvI [] rfl (cn_String_isLatin1 l0 h) mw_String_isLatin1 vw_String_isLatin1 ⟨_, rfl, rfl, by decide⟩ rfl rfl ln_java_lang_String_492 rfl fun r1 h2 =>
    qz_if_eq rfl ca_String_charAt_16
      (qz_none)
      (qz_aload_n rfl <|
        qz_getR (k1 := 43) kg_13 fl_java_lang_String_9 rfl rfl <|
        qz_iload_n rfl <|
        qz_invsI [qz_r false 43 (h2 l0 0), qz_i l1] rfl (cn_StringLatin1_charAt (h2 l0 0) l1 h2) mw_StringLatin1_charAt vs_StringLatin1_charAt rfl rfl ln_java_lang_String_495 rfl fun r3 h4 =>
        qz_creturn ⟨rfl, rfl⟩ rfl)
def fn_Text_addAll_2_b (k2 : Int → Int → Int → qz_H → Option qz_R) (l0 : Int) (l1 : Int) (l2 : Int) (h : qz_H) : Option qz_R :=
  qz_ck ((l1 : Int) ≠ 0) <|
  qz_bc (fn_String_length l1 h) fun r1 h2 =>
  if r1 ≤ l2 then
    some (0, h2)
  else
    qz_ck ((l1 : Int) ≠ 0) <|
    qz_bc (fn_String_charAt l1 l2 h2) fun r3 h4 =>
    qz_bc (fn_Text_add l0 r3 h4) fun _ h6 =>
    qz_bn (qz_w (l2 + 1)) fun x7 =>
    k2 l0 l1 x7 h6
def fn_Text_addAll_2 : Nat → Int → Int → Int → qz_H → Option qz_R
  | 0, _, _, _, _ => none
  | n + 1, l0, l1, l2, h => fn_Text_addAll_2_b (fn_Text_addAll_2 n) l0 l1 l2 h
set_option maxRecDepth 20000 in
def fn_Text_addAll (l0 : Int) (l1 : Int) (h : qz_H) : Option qz_R :=
  qz_bn (0 : Int) fun x1 =>
  fn_Text_addAll_2 qz_NF l0 l1 x1 h
def bk_Text_addAll_0 : List (Instr × Nat) := [(.iconst 0, 1), (.istore_n 2, 1)]
def bk_Text_addAll_2 : List (Instr × Nat) := [(.iload_n 2, 1), (.aload_n 1, 1), (.invokevirtual 19, 3), (.if_icmp .ge 18, 3), (.aload_n 0, 1), (.aload_n 1, 1), (.iload_n 2, 1), (.invokevirtual 24, 3), (.invokevirtual 28, 3), (.iinc 2 1, 3), (.goto (-20), 3)]
def bk_Text_addAll_25 : List (Instr × Nat) := [(.return_, 1)]
theorem ca_Text_addAll_0 : qz_ca yd_Text_addAll.2.1 0 bk_Text_addAll_0 := qz_cab_ok _ _ (by decide +kernel)
theorem ca_Text_addAll_2 : qz_ca yd_Text_addAll.2.1 2 bk_Text_addAll_2 := qz_cab_ok _ _ (by decide +kernel)
theorem ca_Text_addAll_25 : qz_ca yd_Text_addAll.2.1 25 bk_Text_addAll_25 := qz_cab_ok _ _ (by decide +kernel)
set_option maxRecDepth 20000 in
theorem jb_Text_addAll_2_b (G : qz_G) (k2 : Int → Int → Int → qz_H → Option qz_R) (jk2 : ∀ (l0 : Int) (l1 : Int) (l2 : Int) (h : qz_H), qz_J yd_Text_addAll G bk_Text_addAll_2 2 [qz_r true 11 l0, qz_r false 13 l1, qz_i l2] [] h 0 0 (k2 l0 l1 l2 h)) (l0 : Int) (l1 : Int) (l2 : Int) (h : qz_H) : qz_J yd_Text_addAll G bk_Text_addAll_2 2 [qz_r true 11 l0, qz_r false 13 l1, qz_i l2] [] h 0 0 (fn_Text_addAll_2_b k2 l0 l1 l2 h) := by
  unfold fn_Text_addAll_2_b bk_Text_addAll_2; exact
    qz_iload_n rfl <|
    qz_aload_n rfl <|
    qz_nnd 0 rfl <|
    qz_invvI [] rfl (cn_String_length l1 h) mw_String_length vw_String_length ⟨_, rfl, rfl, by decide⟩ rfl rfl ln_Text_19 rfl fun r1 h2 =>
    qz_icmp_ge rfl ca_Text_addAll_25
      (qz_return ⟨rfl, rfl⟩ rfl)
      (qz_aload_n rfl <|
        qz_aload_n rfl <|
        qz_iload_n rfl <|
        qz_nnd 1 rfl <|
        qz_invvI [qz_i l2] rfl (cn_String_charAt l1 l2 h2) mw_String_charAt vw_String_charAt ⟨_, rfl, rfl, by decide⟩ rfl rfl ln_Text_24 rfl fun r3 h4 =>
        qz_invvV [qz_i r3] rfl (cn_Text_add l0 r3 h4) mw_Text_add vw_Text_add ⟨_, rfl, rfl, by decide⟩ rfl rfl ln_Text_28 rfl fun _ h6 =>
        qz_iinc rfl (by decide) fun x7 =>
        qz_goto rfl ca_Text_addAll_2 <|
        qz_fgt [1, 1, 1] <| jk2 l0 l1 x7 h6)
theorem jb_Text_addAll_2 (G : qz_G) : ∀ (n : Nat) (l0 l1 l2 : Int) (h : qz_H), qz_J yd_Text_addAll G bk_Text_addAll_2 2 [qz_r true 11 l0, qz_r false 13 l1, qz_i l2] [] h 0 0 (fn_Text_addAll_2 n l0 l1 l2 h)
  | 0, _, _, _, _ => qz_none
  | n + 1, l0, l1, l2, h => jb_Text_addAll_2_b G (fn_Text_addAll_2 n) (jb_Text_addAll_2 G n) l0 l1 l2 h
set_option maxRecDepth 20000 in
theorem cn_Text_addAll (l0 : Int) (l1 : Int) (h : qz_H) : qz_C yd_Text_addAll [qz_r true 11 l0, qz_r false 13 l1] h (fn_Text_addAll l0 l1 h) := by
  refine qz_con (is := bk_Text_addAll_0) (ls := [qz_r true 11 l0, qz_r false 13 l1, qz_u]) mw_Text_addAll.2.2.2 ca_Text_addAll_0 rfl rfl fun G => ?_
  unfold fn_Text_addAll bk_Text_addAll_0; exact
    qz_iconst rfl <|
    qz_istore_n (by decide) fun x1 =>
    qz_fall rfl ca_Text_addAll_2 <|
    qz_fgt [1, 1, 1] <| jb_Text_addAll_2 G qz_NF l0 l1 x1 h
def fn_Printer_writeType_16 (s0 : Int) (s1 : Int) (h : qz_H) : Option qz_R :=
  qz_ck ((s0 : Int) ≠ 0) <|
  qz_bc (fn_Text_addAll s0 s1 h) fun _ h2 =>
  some (0, h2)
set_option maxRecDepth 20000 in
def fn_Printer_writeType (l0 : Int) (l1 : Int) (h : qz_H) : Option qz_R :=
  if ¬ l1 = 1 then
    fn_Printer_writeType_16 (h l0 0) (-47) h
  else
    fn_Printer_writeType_16 (h l0 0) (-45) h
def bk_Printer_writeType_0 : List (Instr × Nat) := [(.aload_n 0, 1), (.getfield 9, 3), (.iload_n 1, 1), (.iconst 1, 1), (.if_icmp .ne 8, 3), (.ldc 100, 2), (.goto 5, 3)]
def bk_Printer_writeType_14 : List (Instr × Nat) := [(.ldc 102, 2)]
def bk_Printer_writeType_16 : List (Instr × Nat) := [(.invokevirtual 23, 3), (.return_, 1)]
theorem ca_Printer_writeType_0 : qz_ca yd_Printer_writeType.2.1 0 bk_Printer_writeType_0 := qz_cab_ok _ _ (by decide +kernel)
theorem ca_Printer_writeType_14 : qz_ca yd_Printer_writeType.2.1 14 bk_Printer_writeType_14 := qz_cab_ok _ _ (by decide +kernel)
theorem ca_Printer_writeType_16 : qz_ca yd_Printer_writeType.2.1 16 bk_Printer_writeType_16 := qz_cab_ok _ _ (by decide +kernel)
set_option maxRecDepth 20000 in
theorem jb_Printer_writeType_16 (G : qz_G) (s0 : Int) (s1 : Int) (h : qz_H) : qz_J yd_Printer_writeType G bk_Printer_writeType_16 16 [qz_u, qz_u] [qz_r true 13 s1, qz_r false 11 s0] h 0 0 (fn_Printer_writeType_16 s0 s1 h) := by
  unfold fn_Printer_writeType_16 bk_Printer_writeType_16; exact
    qz_nnd 1 rfl <|
    qz_wkS [2] <|
    qz_invvV [qz_r false 13 s1] rfl (cn_Text_addAll s0 s1 h) mw_Text_addAll vw_Text_addAll ⟨_, rfl, rfl, by decide⟩ rfl rfl ln_Printer_23 rfl fun _ h2 =>
    qz_return ⟨rfl, rfl⟩ rfl
set_option maxRecDepth 20000 in
theorem cn_Printer_writeType (l0 : Int) (l1 : Int) (h : qz_H) : qz_C yd_Printer_writeType [qz_r true 8 l0, qz_i l1] h (fn_Printer_writeType l0 l1 h) := by
  refine qz_con (is := bk_Printer_writeType_0) (ls := [qz_r true 8 l0, qz_i l1]) mw_Printer_writeType.2.2.2 ca_Printer_writeType_0 rfl rfl fun G => ?_
  unfold fn_Printer_writeType bk_Printer_writeType_0; exact
    qz_aload_n rfl <|
    qz_getR (k1 := 11) kg_8 fl_Printer_9 rfl rfl <|
    qz_iload_n rfl <|
    qz_iconst rfl <|
    qz_icmp_ne rfl ca_Printer_writeType_14
      (qz_ldcS ss_Printer_102 rfl <|
        qz_fall rfl ca_Printer_writeType_16 <|
        qz_fgt [0, 0] <| jb_Printer_writeType_16 G (h l0 0) (-47) h)
      (qz_ldcS ss_Printer_100 rfl <|
        qz_goto rfl ca_Printer_writeType_16 <|
        qz_fgt [0, 0] <| jb_Printer_writeType_16 G (h l0 0) (-45) h)
def fn_Printer_writeSlots_61 (l0 : Int) (h : qz_H) : Option qz_R :=
  qz_ck ((h l0 0 : Int) ≠ 0) <|
  qz_bc (fn_Text_add (h l0 0) 41 h) fun _ h2 =>
  some (0, h2)
def fn_Printer_writeSlots_18_b (k18 : Int → Int → Int → Int → qz_H → Option qz_R) (l0 : Int) (l2 : Int) (l4 : Int) (l5 : Int) (h : qz_H) : Option qz_R :=
  if l4 ≤ l5 then
    fn_Printer_writeSlots_61 l0 h
  else
    qz_ck ((l2 : Int) ≠ 0) <|
    qz_bc (fn_Function_hasSlot l2 l5 h) fun r1 h2 =>
    if r1 = 0 then
      fn_Printer_writeSlots_61 l0 h2
    else
      qz_ck ((h2 l0 0 : Int) ≠ 0) <|
      qz_bc (fn_Text_add (h2 l0 0) 32 h2) fun _ h4 =>
      qz_ck ((l2 : Int) ≠ 0) <|
      qz_ck ((h4 l2 0 : Int) ≠ 0) <|
      qz_ck ((0 : Int) ≤ l5 ∧ l5 < h4 (h4 l2 0) (-1)) <|
      qz_bc (fn_Printer_writeType l0 (h4 (h4 l2 0) l5) h4) fun _ h6 =>
      qz_bn (qz_w (l5 + 1)) fun x7 =>
      k18 l0 l2 l4 x7 h6
def fn_Printer_writeSlots_18 : Nat → Int → Int → Int → Int → qz_H → Option qz_R
  | 0, _, _, _, _, _ => none
  | n + 1, l0, l2, l4, l5, h => fn_Printer_writeSlots_18_b (fn_Printer_writeSlots_18 n) l0 l2 l4 l5 h
set_option maxRecDepth 20000 in
def fn_Printer_writeSlots (l0 : Int) (l1 : Int) (l2 : Int) (l3 : Int) (l4 : Int) (h : qz_H) : Option qz_R :=
  if l3 < l4 then
    qz_ck ((h l0 0 : Int) ≠ 0) <|
    qz_bc (fn_Text_addAll (h l0 0) l1 h) fun _ h2 =>
    qz_bn (l3 : Int) fun x3 =>
    fn_Printer_writeSlots_18 qz_NF l0 l2 l4 x3 h2
  else
    some (0, h)
def bk_Printer_writeSlots_0 : List (Instr × Nat) := [(.iload_n 3, 1), (.iload 4, 2), (.if_icmp .lt 4, 3), (.return_, 1)]
def bk_Printer_writeSlots_7 : List (Instr × Nat) := [(.aload_n 0, 1), (.getfield 9, 3), (.aload_n 1, 1), (.invokevirtual 23, 3), (.iload_n 3, 1), (.istore 5, 2)]
def bk_Printer_writeSlots_18 : List (Instr × Nat) := [(.iload 5, 2), (.iload 4, 2), (.if_icmp .ge 39, 3), (.aload_n 2, 1), (.iload 5, 2), (.i2l, 1), (.invokevirtual 87, 3), (.ifCond .eq 29, 3), (.aload_n 0, 1), (.getfield 9, 3), (.bipush 32, 2), (.invokevirtual 40, 3), (.aload_n 0, 1), (.aload_n 2, 1), (.getfield 91, 3), (.iload 5, 2), (.iaload, 1), (.invokevirtual 95, 3), (.iinc 5 1, 3), (.goto (-40), 3)]
def bk_Printer_writeSlots_61 : List (Instr × Nat) := [(.aload_n 0, 1), (.getfield 9, 3), (.bipush 41, 2), (.invokevirtual 40, 3), (.return_, 1)]
theorem ca_Printer_writeSlots_0 : qz_ca yd_Printer_writeSlots.2.1 0 bk_Printer_writeSlots_0 := qz_cab_ok _ _ (by decide +kernel)
theorem ca_Printer_writeSlots_7 : qz_ca yd_Printer_writeSlots.2.1 7 bk_Printer_writeSlots_7 := qz_cab_ok _ _ (by decide +kernel)
theorem ca_Printer_writeSlots_18 : qz_ca yd_Printer_writeSlots.2.1 18 bk_Printer_writeSlots_18 := qz_cab_ok _ _ (by decide +kernel)
theorem ca_Printer_writeSlots_61 : qz_ca yd_Printer_writeSlots.2.1 61 bk_Printer_writeSlots_61 := qz_cab_ok _ _ (by decide +kernel)
set_option maxRecDepth 20000 in
theorem jb_Printer_writeSlots_61 (G : qz_G) (l0 : Int) (h : qz_H) : qz_J yd_Printer_writeSlots G bk_Printer_writeSlots_61 61 [qz_r true 8 l0, qz_u, qz_u, qz_u, qz_u, qz_u] [] h 0 0 (fn_Printer_writeSlots_61 l0 h) := by
  unfold fn_Printer_writeSlots_61 bk_Printer_writeSlots_61; exact
    qz_aload_n rfl <|
    qz_getR (k1 := 11) kg_8 fl_Printer_9 rfl rfl <|
    qz_bipush rfl <|
    qz_nnd 1 rfl <|
    qz_invvV [qz_i 41] rfl (cn_Text_add (h l0 0) 41 h) mw_Text_add vw_Text_add ⟨_, rfl, rfl, by decide⟩ rfl rfl ln_Printer_40 rfl fun _ h2 =>
    qz_return ⟨rfl, rfl⟩ rfl
set_option maxRecDepth 20000 in
theorem jb_Printer_writeSlots_18_b (G : qz_G) (k18 : Int → Int → Int → Int → qz_H → Option qz_R) (jk18 : ∀ (l0 : Int) (l2 : Int) (l4 : Int) (l5 : Int) (h : qz_H), qz_J yd_Printer_writeSlots G bk_Printer_writeSlots_18 18 [qz_r true 8 l0, qz_u, qz_r false 4 l2, qz_u, qz_i l4, qz_i l5] [] h 0 0 (k18 l0 l2 l4 l5 h)) (l0 : Int) (l2 : Int) (l4 : Int) (l5 : Int) (h : qz_H) : qz_J yd_Printer_writeSlots G bk_Printer_writeSlots_18 18 [qz_r true 8 l0, qz_u, qz_r false 4 l2, qz_u, qz_i l4, qz_i l5] [] h 0 0 (fn_Printer_writeSlots_18_b k18 l0 l2 l4 l5 h) := by
  unfold fn_Printer_writeSlots_18_b bk_Printer_writeSlots_18; exact
    qz_iload rfl <|
    qz_iload rfl <|
    qz_icmp_ge rfl ca_Printer_writeSlots_61
      (qz_fgt [1, 0, 0, 0, 0, 0] <| jb_Printer_writeSlots_61 G l0 h)
      (qz_aload_n rfl <|
        qz_iload rfl <|
        qz_i2l <|
        qz_nnd 1 rfl <|
        qz_invvI [qz_j l5] rfl (cn_Function_hasSlot l2 l5 h) mw_Function_hasSlot vw_Function_hasSlot ⟨_, rfl, rfl, by decide⟩ rfl rfl ln_Printer_87 rfl fun r1 h2 =>
        qz_if_eq rfl ca_Printer_writeSlots_61
          (qz_fgt [1, 0, 0, 0, 0, 0] <| jb_Printer_writeSlots_61 G l0 h2)
          (qz_aload_n rfl <|
            qz_getR (k1 := 11) kg_8 fl_Printer_9 rfl rfl <|
            qz_bipush rfl <|
            qz_nnd 1 rfl <|
            qz_invvV [qz_i 32] rfl (cn_Text_add (h2 l0 0) 32 h2) mw_Text_add vw_Text_add ⟨_, rfl, rfl, by decide⟩ rfl rfl ln_Printer_40 rfl fun _ h4 =>
            qz_aload_n rfl <|
            qz_aload_n rfl <|
            qz_nnd 0 rfl <|
            qz_getR (k1 := 40) kg_4 fl_Printer_91 rfl rfl <|
            qz_iload rfl <|
            qz_nnd 1 rfl <|
            qz_iald (k0 := 40) rfl rfl rfl <|
            qz_invvV [qz_i (h4 (h4 l2 0) l5)] rfl (cn_Printer_writeType l0 (h4 (h4 l2 0) l5) h4) mw_Printer_writeType vw_Printer_writeType ⟨_, rfl, rfl, by decide⟩ rfl rfl ln_Printer_95 rfl fun _ h6 =>
            qz_iinc rfl (by decide) fun x7 =>
            qz_goto rfl ca_Printer_writeSlots_18 <|
            qz_fgt [1, 0, 1, 0, 1, 1] <| jk18 l0 l2 l4 x7 h6))
theorem jb_Printer_writeSlots_18 (G : qz_G) : ∀ (n : Nat) (l0 l2 l4 l5 : Int) (h : qz_H), qz_J yd_Printer_writeSlots G bk_Printer_writeSlots_18 18 [qz_r true 8 l0, qz_u, qz_r false 4 l2, qz_u, qz_i l4, qz_i l5] [] h 0 0 (fn_Printer_writeSlots_18 n l0 l2 l4 l5 h)
  | 0, _, _, _, _, _ => qz_none
  | n + 1, l0, l2, l4, l5, h => jb_Printer_writeSlots_18_b G (fn_Printer_writeSlots_18 n) (jb_Printer_writeSlots_18 G n) l0 l2 l4 l5 h
set_option maxRecDepth 20000 in
theorem cn_Printer_writeSlots (l0 : Int) (l1 : Int) (l2 : Int) (l3 : Int) (l4 : Int) (h : qz_H) : qz_C yd_Printer_writeSlots [qz_r true 8 l0, qz_r false 13 l1, qz_r false 4 l2, qz_i l3, qz_i l4] h (fn_Printer_writeSlots l0 l1 l2 l3 l4 h) := by
  refine qz_con (is := bk_Printer_writeSlots_0) (ls := [qz_r true 8 l0, qz_r false 13 l1, qz_r false 4 l2, qz_i l3, qz_i l4, qz_u]) mw_Printer_writeSlots.2.2.2 ca_Printer_writeSlots_0 rfl rfl fun G => ?_
  unfold fn_Printer_writeSlots bk_Printer_writeSlots_0; exact
    qz_iload_n rfl <|
    qz_iload rfl <|
    qz_icmp_lt rfl ca_Printer_writeSlots_7
      (qz_aload_n rfl <|
        qz_getR (k1 := 11) kg_8 fl_Printer_9 rfl rfl <|
        qz_aload_n rfl <|
        qz_nnd 1 rfl <|
        qz_invvV [qz_r false 13 l1] rfl (cn_Text_addAll (h l0 0) l1 h) mw_Text_addAll vw_Text_addAll ⟨_, rfl, rfl, by decide⟩ rfl rfl ln_Printer_23 rfl fun _ h2 =>
        qz_iload_n rfl <|
        qz_istore (by decide) fun x3 =>
        qz_fall rfl ca_Printer_writeSlots_18 <|
        qz_fgt [1, 0, 1, 0, 1, 1] <| jb_Printer_writeSlots_18 G qz_NF l0 l2 l4 x3 h2)
      (qz_return ⟨rfl, rfl⟩ rfl)
set_option maxRecDepth 20000 in
def fn_Printer_writeResult (l0 : Int) (l1 : Int) (h : qz_H) : Option qz_R :=
  qz_ck ((h l0 0 : Int) ≠ 0) <|
  qz_bc (fn_Text_addAll (h l0 0) (-61) h) fun _ h2 =>
  qz_bc (fn_Printer_writeType l0 l1 h2) fun _ h4 =>
  qz_ck ((h4 l0 0 : Int) ≠ 0) <|
  qz_bc (fn_Text_add (h4 l0 0) 41 h4) fun _ h6 =>
  some (0, h6)
def bk_Printer_writeResult_0 : List (Instr × Nat) := [(.aload_n 0, 1), (.getfield 9, 3), (.ldc 98, 2), (.invokevirtual 23, 3), (.aload_n 0, 1), (.iload_n 1, 1), (.invokevirtual 95, 3), (.aload_n 0, 1), (.getfield 9, 3), (.bipush 41, 2), (.invokevirtual 40, 3), (.return_, 1)]
theorem ca_Printer_writeResult_0 : qz_ca yd_Printer_writeResult.2.1 0 bk_Printer_writeResult_0 := qz_cab_ok _ _ (by decide +kernel)
set_option maxRecDepth 20000 in
theorem cn_Printer_writeResult (l0 : Int) (l1 : Int) (h : qz_H) : qz_C yd_Printer_writeResult [qz_r true 8 l0, qz_i l1] h (fn_Printer_writeResult l0 l1 h) := by
  refine qz_con (is := bk_Printer_writeResult_0) (ls := [qz_r true 8 l0, qz_i l1]) mw_Printer_writeResult.2.2.2 ca_Printer_writeResult_0 rfl rfl fun G => ?_
  unfold fn_Printer_writeResult bk_Printer_writeResult_0; exact
    qz_aload_n rfl <|
    qz_getR (k1 := 11) kg_8 fl_Printer_9 rfl rfl <|
    qz_ldcS ss_Printer_98 rfl <|
    qz_nnd 1 rfl <|
    qz_wkS [2] <|
    qz_invvV [qz_r false 13 (-61)] rfl (cn_Text_addAll (h l0 0) (-61) h) mw_Text_addAll vw_Text_addAll ⟨_, rfl, rfl, by decide⟩ rfl rfl ln_Printer_23 rfl fun _ h2 =>
    qz_aload_n rfl <|
    qz_iload_n rfl <|
    qz_invvV [qz_i l1] rfl (cn_Printer_writeType l0 l1 h2) mw_Printer_writeType vw_Printer_writeType ⟨_, rfl, rfl, by decide⟩ rfl rfl ln_Printer_95 rfl fun _ h4 =>
    qz_aload_n rfl <|
    qz_getR (k1 := 11) kg_8 fl_Printer_9 rfl rfl <|
    qz_bipush rfl <|
    qz_nnd 1 rfl <|
    qz_invvV [qz_i 41] rfl (cn_Text_add (h4 l0 0) 41 h4) mw_Text_add vw_Text_add ⟨_, rfl, rfl, by decide⟩ rfl rfl ln_Printer_40 rfl fun _ h6 =>
    qz_return ⟨rfl, rfl⟩ rfl
def fn_Text_addNumber_48_b (k48 : Int → Int → Int → qz_H → Option qz_R) (l0 : Int) (l1 : Int) (l3 : Int) (h : qz_H) : Option qz_R :=
  if qz_cmp l3 0 ≤ 0 then
    some (0, h)
  else
    qz_ck ((l3 : Int) ≠ 0) <|
    qz_ck ((10 : Int) ≠ 0) <|
    qz_bc (fn_Text_add l0 (qz_i2c (qz_w (qz_x (48 + (qz_absJ (qz_remJ (qz_divJ l1 l3) 10)))))) h) fun _ h2 =>
    qz_ck ((10 : Int) ≠ 0) <|
    qz_bn (qz_divJ l3 10 : Int) fun x3 =>
    k48 l0 l1 x3 h2
def fn_Text_addNumber_48 : Nat → Int → Int → Int → qz_H → Option qz_R
  | 0, _, _, _, _ => none
  | n + 1, l0, l1, l3, h => fn_Text_addNumber_48_b (fn_Text_addNumber_48 n) l0 l1 l3 h
def fn_Text_addNumber_17_b (k17 : Int → Int → Int → Int → qz_H → Option qz_R) (l0 : Int) (l1 : Int) (l3 : Int) (l5 : Int) (h : qz_H) : Option qz_R :=
  if 18 ≤ l5 then
    fn_Text_addNumber_48 qz_NF l0 l1 l3 h
  else
    qz_ck ((l3 : Int) ≠ 0) <|
    qz_ck ((10 : Int) ≠ 0) <|
    if qz_cmp (qz_divJ (qz_divJ l1 l3) 10) 0 = 0 then
      fn_Text_addNumber_48 qz_NF l0 l1 l3 h
    else
      qz_bn (qz_x (l3 * 10) : Int) fun x1 =>
      qz_bn (qz_w (l5 + 1)) fun x2 =>
      k17 l0 l1 x1 x2 h
def fn_Text_addNumber_17 : Nat → Int → Int → Int → Int → qz_H → Option qz_R
  | 0, _, _, _, _, _ => none
  | n + 1, l0, l1, l3, l5, h => fn_Text_addNumber_17_b (fn_Text_addNumber_17 n) l0 l1 l3 l5 h
def fn_Text_addNumber_12 (l0 : Int) (l1 : Int) (h : qz_H) : Option qz_R :=
  qz_bn (1 : Int) fun x1 =>
  qz_bn (0 : Int) fun x2 =>
  fn_Text_addNumber_17 qz_NF l0 l1 x1 x2 h
set_option maxRecDepth 20000 in
def fn_Text_addNumber (l0 : Int) (l1 : Int) (h : qz_H) : Option qz_R :=
  if 0 ≤ qz_cmp l1 0 then
    fn_Text_addNumber_12 l0 l1 h
  else
    qz_bc (fn_Text_add l0 45 h) fun _ h2 =>
    fn_Text_addNumber_12 l0 l1 h2
def bk_Text_addNumber_0 : List (Instr × Nat) := [(.lload_n 1, 1), (.lconst 0, 1), (.lcmp, 1), (.ifCond .ge 9, 3), (.aload_n 0, 1), (.bipush 45, 2), (.invokevirtual 28, 3)]
def bk_Text_addNumber_12 : List (Instr × Nat) := [(.lconst 1, 1), (.lstore_n 3, 1), (.iconst 0, 1), (.istore 5, 2)]
def bk_Text_addNumber_17 : List (Instr × Nat) := [(.iload 5, 2), (.bipush 18, 2), (.if_icmp .ge 27, 3), (.lload_n 1, 1), (.lload_n 3, 1), (.ldiv, 1), (.ldc2_w 32, 3), (.ldiv, 1), (.lconst 0, 1), (.lcmp, 1), (.ifCond .eq 15, 3), (.lload_n 3, 1), (.ldc2_w 32, 3), (.lmul, 1), (.lstore_n 3, 1), (.iinc 5 1, 3), (.goto (-28), 3)]
def bk_Text_addNumber_48 : List (Instr × Nat) := [(.lload_n 3, 1), (.lconst 0, 1), (.lcmp, 1), (.ifCond .le 32, 3), (.aload_n 0, 1), (.ldc2_w 34, 3), (.lload_n 1, 1), (.lload_n 3, 1), (.ldiv, 1), (.ldc2_w 32, 3), (.lrem, 1), (.invokestatic 36, 3), (.ladd, 1), (.l2i, 1), (.i2c, 1), (.invokevirtual 28, 3), (.lload_n 3, 1), (.ldc2_w 32, 3), (.ldiv, 1), (.lstore_n 3, 1), (.goto (-32), 3)]
def bk_Text_addNumber_83 : List (Instr × Nat) := [(.return_, 1)]
theorem ca_Text_addNumber_0 : qz_ca yd_Text_addNumber.2.1 0 bk_Text_addNumber_0 := qz_cab_ok _ _ (by decide +kernel)
theorem ca_Text_addNumber_12 : qz_ca yd_Text_addNumber.2.1 12 bk_Text_addNumber_12 := qz_cab_ok _ _ (by decide +kernel)
theorem ca_Text_addNumber_17 : qz_ca yd_Text_addNumber.2.1 17 bk_Text_addNumber_17 := qz_cab_ok _ _ (by decide +kernel)
theorem ca_Text_addNumber_48 : qz_ca yd_Text_addNumber.2.1 48 bk_Text_addNumber_48 := qz_cab_ok _ _ (by decide +kernel)
theorem ca_Text_addNumber_83 : qz_ca yd_Text_addNumber.2.1 83 bk_Text_addNumber_83 := qz_cab_ok _ _ (by decide +kernel)
set_option maxRecDepth 20000 in
theorem jb_Text_addNumber_48_b (G : qz_G) (k48 : Int → Int → Int → qz_H → Option qz_R) (jk48 : ∀ (l0 : Int) (l1 : Int) (l3 : Int) (h : qz_H), qz_J yd_Text_addNumber G bk_Text_addNumber_48 48 [qz_r true 11 l0, qz_j l1, qz_u, qz_j l3, qz_u, qz_u] [] h 0 0 (k48 l0 l1 l3 h)) (l0 : Int) (l1 : Int) (l3 : Int) (h : qz_H) : qz_J yd_Text_addNumber G bk_Text_addNumber_48 48 [qz_r true 11 l0, qz_j l1, qz_u, qz_j l3, qz_u, qz_u] [] h 0 0 (fn_Text_addNumber_48_b k48 l0 l1 l3 h) := by
  unfold fn_Text_addNumber_48_b bk_Text_addNumber_48; exact
    qz_lload_n rfl <|
    qz_lconst rfl <|
    qz_lcmp <|
    qz_if_le rfl ca_Text_addNumber_83
      (qz_return ⟨rfl, rfl⟩ rfl)
      (qz_aload_n rfl <|
        qz_ldc2 wc_Text_34 rfl <|
        qz_lload_n rfl <|
        qz_lload_n rfl <|
        qz_ldiv <|
        qz_ldc2 wc_Text_32 rfl <|
        qz_lrem <|
        qz_mabsJ ma_Text_36 rfl <|
        qz_ladd <|
        qz_l2i <|
        qz_ins_i2c <|
        qz_invvV [qz_i (qz_i2c (qz_w (qz_x (48 + (qz_absJ (qz_remJ (qz_divJ l1 l3) 10))))))] rfl (cn_Text_add l0 (qz_i2c (qz_w (qz_x (48 + (qz_absJ (qz_remJ (qz_divJ l1 l3) 10)))))) h) mw_Text_add vw_Text_add ⟨_, rfl, rfl, by decide⟩ rfl rfl ln_Text_28 rfl fun _ h2 =>
        qz_lload_n rfl <|
        qz_ldc2 wc_Text_32 rfl <|
        qz_ldiv <|
        qz_lstore_n (by decide) fun x3 =>
        qz_goto rfl ca_Text_addNumber_48 <|
        qz_fgt [1, 1, 0, 1, 0, 0] <| jk48 l0 l1 x3 h2)
theorem jb_Text_addNumber_48 (G : qz_G) : ∀ (n : Nat) (l0 l1 l3 : Int) (h : qz_H), qz_J yd_Text_addNumber G bk_Text_addNumber_48 48 [qz_r true 11 l0, qz_j l1, qz_u, qz_j l3, qz_u, qz_u] [] h 0 0 (fn_Text_addNumber_48 n l0 l1 l3 h)
  | 0, _, _, _, _ => qz_none
  | n + 1, l0, l1, l3, h => jb_Text_addNumber_48_b G (fn_Text_addNumber_48 n) (jb_Text_addNumber_48 G n) l0 l1 l3 h
set_option maxRecDepth 20000 in
theorem jb_Text_addNumber_17_b (G : qz_G) (k17 : Int → Int → Int → Int → qz_H → Option qz_R) (jk17 : ∀ (l0 : Int) (l1 : Int) (l3 : Int) (l5 : Int) (h : qz_H), qz_J yd_Text_addNumber G bk_Text_addNumber_17 17 [qz_r true 11 l0, qz_j l1, qz_u, qz_j l3, qz_u, qz_i l5] [] h 0 0 (k17 l0 l1 l3 l5 h)) (l0 : Int) (l1 : Int) (l3 : Int) (l5 : Int) (h : qz_H) : qz_J yd_Text_addNumber G bk_Text_addNumber_17 17 [qz_r true 11 l0, qz_j l1, qz_u, qz_j l3, qz_u, qz_i l5] [] h 0 0 (fn_Text_addNumber_17_b k17 l0 l1 l3 l5 h) := by
  unfold fn_Text_addNumber_17_b bk_Text_addNumber_17; exact
    qz_iload rfl <|
    qz_bipush rfl <|
    qz_icmp_ge rfl ca_Text_addNumber_48
      (qz_fgt [1, 1, 0, 1, 0, 0] <| jb_Text_addNumber_48 G qz_NF l0 l1 l3 h)
      (qz_lload_n rfl <|
        qz_lload_n rfl <|
        qz_ldiv <|
        qz_ldc2 wc_Text_32 rfl <|
        qz_ldiv <|
        qz_lconst rfl <|
        qz_lcmp <|
        qz_if_eq rfl ca_Text_addNumber_48
          (qz_fgt [1, 1, 0, 1, 0, 0] <| jb_Text_addNumber_48 G qz_NF l0 l1 l3 h)
          (qz_lload_n rfl <|
            qz_ldc2 wc_Text_32 rfl <|
            qz_lmul <|
            qz_lstore_n (by decide) fun x1 =>
            qz_iinc rfl (by decide) fun x2 =>
            qz_goto rfl ca_Text_addNumber_17 <|
            qz_fgt [1, 1, 0, 1, 0, 1] <| jk17 l0 l1 x1 x2 h))
theorem jb_Text_addNumber_17 (G : qz_G) : ∀ (n : Nat) (l0 l1 l3 l5 : Int) (h : qz_H), qz_J yd_Text_addNumber G bk_Text_addNumber_17 17 [qz_r true 11 l0, qz_j l1, qz_u, qz_j l3, qz_u, qz_i l5] [] h 0 0 (fn_Text_addNumber_17 n l0 l1 l3 l5 h)
  | 0, _, _, _, _, _ => qz_none
  | n + 1, l0, l1, l3, l5, h => jb_Text_addNumber_17_b G (fn_Text_addNumber_17 n) (jb_Text_addNumber_17 G n) l0 l1 l3 l5 h
set_option maxRecDepth 20000 in
theorem jb_Text_addNumber_12 (G : qz_G) (l0 : Int) (l1 : Int) (h : qz_H) : qz_J yd_Text_addNumber G bk_Text_addNumber_12 12 [qz_r true 11 l0, qz_j l1, qz_u, qz_u, qz_u, qz_u] [] h 0 0 (fn_Text_addNumber_12 l0 l1 h) := by
  unfold fn_Text_addNumber_12 bk_Text_addNumber_12; exact
    qz_lconst rfl <|
    qz_lstore_n (by decide) fun x1 =>
    qz_iconst rfl <|
    qz_istore (by decide) fun x2 =>
    qz_fall rfl ca_Text_addNumber_17 <|
    qz_fgt [1, 1, 0, 1, 0, 1] <| jb_Text_addNumber_17 G qz_NF l0 l1 x1 x2 h
set_option maxRecDepth 20000 in
theorem cn_Text_addNumber (l0 : Int) (l1 : Int) (h : qz_H) : qz_C yd_Text_addNumber [qz_r true 11 l0, qz_j l1] h (fn_Text_addNumber l0 l1 h) := by
  refine qz_con (is := bk_Text_addNumber_0) (ls := [qz_r true 11 l0, qz_j l1, qz_u, qz_u, qz_u, qz_u]) mw_Text_addNumber.2.2.2 ca_Text_addNumber_0 rfl rfl fun G => ?_
  unfold fn_Text_addNumber bk_Text_addNumber_0; exact
    qz_lload_n rfl <|
    qz_lconst rfl <|
    qz_lcmp <|
    qz_if_ge rfl ca_Text_addNumber_12
      (qz_fgt [1, 1, 0, 0, 0, 0] <| jb_Text_addNumber_12 G l0 l1 h)
      (qz_aload_n rfl <|
        qz_bipush rfl <|
        qz_invvV [qz_i 45] rfl (cn_Text_add l0 45 h) mw_Text_add vw_Text_add ⟨_, rfl, rfl, by decide⟩ rfl rfl ln_Text_28 rfl fun _ h2 =>
        qz_fall rfl ca_Text_addNumber_12 <|
        qz_fgt [1, 1, 0, 0, 0, 0] <| jb_Text_addNumber_12 G l0 l1 h2)
def fn_Printer_writeInstruction_75 (h : qz_H) : Option qz_R :=
  some (0, h)
set_option maxRecDepth 20000 in
def fn_Printer_writeInstruction (l0 : Int) (l1 : Int) (l2 : Int) (h : qz_H) : Option qz_R :=
  qz_ck ((h l0 0 : Int) ≠ 0) <|
  qz_bc (fn_Text_add (h l0 0) 32 h) fun _ h2 =>
  qz_ck ((l1 : Int) ≠ 0) <|
  qz_ck ((h2 l0 0 : Int) ≠ 0) <|
  qz_bc (fn_Text_addAll (h2 l0 0) (h2 l1 0) h2) fun _ h4 =>
  qz_ck ((l1 : Int) ≠ 0) <|
  qz_bc (fn_Op_awaitsOperand l1 h4) fun r5 h6 =>
  if r5 = 0 then
    qz_ck ((l1 : Int) ≠ 0) <|
    qz_bc (fn_Op_opensBlock l1 h6) fun r7 h8 =>
    if r7 = 0 then
      fn_Printer_writeInstruction_75 h8
    else
      if qz_cmp l2 0 = 0 then
        fn_Printer_writeInstruction_75 h8
      else
        qz_ck ((h8 l0 0 : Int) ≠ 0) <|
        qz_bc (fn_Text_add (h8 l0 0) 32 h8) fun _ h10 =>
        qz_bc (fn_Printer_writeResult l0 (qz_w l2) h10) fun _ h12 =>
        fn_Printer_writeInstruction_75 h12
  else
    qz_ck ((h6 l0 0 : Int) ≠ 0) <|
    qz_bc (fn_Text_add (h6 l0 0) 32 h6) fun _ h14 =>
    qz_ck ((h14 l0 0 : Int) ≠ 0) <|
    qz_bc (fn_Text_addNumber (h14 l0 0) l2 h14) fun _ h16 =>
    fn_Printer_writeInstruction_75 h16
def bk_Printer_writeInstruction_0 : List (Instr × Nat) := [(.aload_n 0, 1), (.getfield 9, 3), (.bipush 32, 2), (.invokevirtual 40, 3), (.aload_n 0, 1), (.getfield 9, 3), (.aload_n 1, 1), (.getfield 104, 3), (.invokevirtual 23, 3), (.aload_n 1, 1), (.invokevirtual 110, 3), (.ifCond .eq 23, 3), (.aload_n 0, 1), (.getfield 9, 3), (.bipush 32, 2), (.invokevirtual 40, 3), (.aload_n 0, 1), (.getfield 9, 3), (.lload_n 2, 1), (.invokevirtual 114, 3), (.goto 31, 3)]
def bk_Printer_writeInstruction_47 : List (Instr × Nat) := [(.aload_n 1, 1), (.invokevirtual 118, 3), (.ifCond .eq 24, 3), (.lload_n 2, 1), (.lconst 0, 1), (.lcmp, 1), (.ifCond .eq 18, 3), (.aload_n 0, 1), (.getfield 9, 3), (.bipush 32, 2), (.invokevirtual 40, 3), (.aload_n 0, 1), (.lload_n 2, 1), (.l2i, 1), (.invokevirtual 60, 3)]
def bk_Printer_writeInstruction_75 : List (Instr × Nat) := [(.return_, 1)]
theorem ca_Printer_writeInstruction_0 : qz_ca yd_Printer_writeInstruction.2.1 0 bk_Printer_writeInstruction_0 := qz_cab_ok _ _ (by decide +kernel)
theorem ca_Printer_writeInstruction_47 : qz_ca yd_Printer_writeInstruction.2.1 47 bk_Printer_writeInstruction_47 := qz_cab_ok _ _ (by decide +kernel)
theorem ca_Printer_writeInstruction_75 : qz_ca yd_Printer_writeInstruction.2.1 75 bk_Printer_writeInstruction_75 := qz_cab_ok _ _ (by decide +kernel)
set_option maxRecDepth 20000 in
theorem jb_Printer_writeInstruction_75 (G : qz_G) (h : qz_H) : qz_J yd_Printer_writeInstruction G bk_Printer_writeInstruction_75 75 [qz_u, qz_u, qz_u, qz_u] [] h 0 0 (fn_Printer_writeInstruction_75 h) := by
  unfold fn_Printer_writeInstruction_75 bk_Printer_writeInstruction_75; exact
    qz_return ⟨rfl, rfl⟩ rfl
set_option maxRecDepth 20000 in
theorem cn_Printer_writeInstruction (l0 : Int) (l1 : Int) (l2 : Int) (h : qz_H) : qz_C yd_Printer_writeInstruction [qz_r true 8 l0, qz_r false 7 l1, qz_j l2] h (fn_Printer_writeInstruction l0 l1 l2 h) := by
  refine qz_con (is := bk_Printer_writeInstruction_0) (ls := [qz_r true 8 l0, qz_r false 7 l1, qz_j l2, qz_u]) mw_Printer_writeInstruction.2.2.2 ca_Printer_writeInstruction_0 rfl rfl fun G => ?_
  unfold fn_Printer_writeInstruction bk_Printer_writeInstruction_0; exact
    qz_aload_n rfl <|
    qz_getR (k1 := 11) kg_8 fl_Printer_9 rfl rfl <|
    qz_bipush rfl <|
    qz_nnd 1 rfl <|
    qz_invvV [qz_i 32] rfl (cn_Text_add (h l0 0) 32 h) mw_Text_add vw_Text_add ⟨_, rfl, rfl, by decide⟩ rfl rfl ln_Printer_40 rfl fun _ h2 =>
    qz_aload_n rfl <|
    qz_getR (k1 := 11) kg_8 fl_Printer_9 rfl rfl <|
    qz_aload_n rfl <|
    qz_nnd 0 rfl <|
    qz_getR (k1 := 13) kg_7 fl_Printer_104 rfl rfl <|
    qz_nnd 1 rfl <|
    qz_invvV [qz_r false 13 (h2 l1 0)] rfl (cn_Text_addAll (h2 l0 0) (h2 l1 0) h2) mw_Text_addAll vw_Text_addAll ⟨_, rfl, rfl, by decide⟩ rfl rfl ln_Printer_23 rfl fun _ h4 =>
    qz_aload_n rfl <|
    qz_nnd 0 rfl <|
    qz_invvI [] rfl (cn_Op_awaitsOperand l1 h4) mw_Op_awaitsOperand vw_Op_awaitsOperand ⟨_, rfl, rfl, by decide⟩ rfl rfl ln_Printer_110 rfl fun r5 h6 =>
    qz_if_eq rfl ca_Printer_writeInstruction_47
      (qz_aload_n rfl <|
        qz_nnd 0 rfl <|
        qz_invvI [] rfl (cn_Op_opensBlock l1 h6) mw_Op_opensBlock vw_Op_opensBlock ⟨_, rfl, rfl, by decide⟩ rfl rfl ln_Printer_118 rfl fun r7 h8 =>
        qz_if_eq rfl ca_Printer_writeInstruction_75
          (qz_fgt [0, 0, 0, 0] <| jb_Printer_writeInstruction_75 G h8)
          (qz_lload_n rfl <|
            qz_lconst rfl <|
            qz_lcmp <|
            qz_if_eq rfl ca_Printer_writeInstruction_75
              (qz_fgt [0, 0, 0, 0] <| jb_Printer_writeInstruction_75 G h8)
              (qz_aload_n rfl <|
                qz_getR (k1 := 11) kg_8 fl_Printer_9 rfl rfl <|
                qz_bipush rfl <|
                qz_nnd 1 rfl <|
                qz_invvV [qz_i 32] rfl (cn_Text_add (h8 l0 0) 32 h8) mw_Text_add vw_Text_add ⟨_, rfl, rfl, by decide⟩ rfl rfl ln_Printer_40 rfl fun _ h10 =>
                qz_aload_n rfl <|
                qz_lload_n rfl <|
                qz_l2i <|
                qz_invvV [qz_i (qz_w l2)] rfl (cn_Printer_writeResult l0 (qz_w l2) h10) mw_Printer_writeResult vw_Printer_writeResult ⟨_, rfl, rfl, by decide⟩ rfl rfl ln_Printer_60 rfl fun _ h12 =>
                qz_fall rfl ca_Printer_writeInstruction_75 <|
                qz_fgt [0, 0, 0, 0] <| jb_Printer_writeInstruction_75 G h12)))
      (qz_aload_n rfl <|
        qz_getR (k1 := 11) kg_8 fl_Printer_9 rfl rfl <|
        qz_bipush rfl <|
        qz_nnd 1 rfl <|
        qz_invvV [qz_i 32] rfl (cn_Text_add (h6 l0 0) 32 h6) mw_Text_add vw_Text_add ⟨_, rfl, rfl, by decide⟩ rfl rfl ln_Printer_40 rfl fun _ h14 =>
        qz_aload_n rfl <|
        qz_getR (k1 := 11) kg_8 fl_Printer_9 rfl rfl <|
        qz_lload_n rfl <|
        qz_nnd 1 rfl <|
        qz_invvV [qz_j l2] rfl (cn_Text_addNumber (h14 l0 0) l2 h14) mw_Text_addNumber vw_Text_addNumber ⟨_, rfl, rfl, by decide⟩ rfl rfl ln_Printer_114 rfl fun _ h16 =>
        qz_goto rfl ca_Printer_writeInstruction_75 <|
        qz_fgt [0, 0, 0, 0] <| jb_Printer_writeInstruction_75 G h16)
def fn_Printer_writeFunction_104 (l0 : Int) (h : qz_H) : Option qz_R :=
  qz_ck ((h l0 0 : Int) ≠ 0) <|
  qz_bc (fn_Text_add (h l0 0) 41 h) fun _ h2 =>
  some (0, h2)
def fn_Printer_writeFunction_53_b (k53 : Int → Int → Int → Int → qz_H → Option qz_R) (l0 : Int) (l1 : Int) (l2 : Int) (l3 : Int) (h : qz_H) : Option qz_R :=
  qz_ck ((l2 : Int) ≠ 0) <|
  if h l2 5 ≤ l3 then
    fn_Printer_writeFunction_104 l0 h
  else
    qz_ck ((l2 : Int) ≠ 0) <|
    if 64 ≤ qz_w ((h l2 4) + l3) then
      fn_Printer_writeFunction_104 l0 h
    else
      qz_ck ((l1 : Int) ≠ 0) <|
      qz_ck ((l2 : Int) ≠ 0) <|
      qz_ck ((h l1 1 : Int) ≠ 0) <|
      qz_ck ((0 : Int) ≤ qz_w ((h l2 4) + l3) ∧ qz_w ((h l2 4) + l3) < h (h l1 1) (-1)) <|
      qz_ck ((l1 : Int) ≠ 0) <|
      qz_ck ((l2 : Int) ≠ 0) <|
      qz_ck ((h l1 2 : Int) ≠ 0) <|
      qz_ck ((0 : Int) ≤ qz_w ((h l2 4) + l3) ∧ qz_w ((h l2 4) + l3) < h (h l1 2) (-1)) <|
      qz_bc (fn_Printer_writeInstruction l0 (h (h l1 1) (qz_w ((h l2 4) + l3))) (h (h l1 2) (qz_w ((h l2 4) + l3))) h) fun _ h2 =>
      qz_bn (qz_w (l3 + 1)) fun x3 =>
      k53 l0 l1 l2 x3 h2
def fn_Printer_writeFunction_53 : Nat → Int → Int → Int → Int → qz_H → Option qz_R
  | 0, _, _, _, _, _ => none
  | n + 1, l0, l1, l2, l3, h => fn_Printer_writeFunction_53_b (fn_Printer_writeFunction_53 n) l0 l1 l2 l3 h
def fn_Printer_writeFunction_36 (l0 : Int) (l1 : Int) (l2 : Int) (h : qz_H) : Option qz_R :=
  qz_ck ((l2 : Int) ≠ 0) <|
  qz_ck ((l2 : Int) ≠ 0) <|
  qz_bc (fn_Printer_writeSlots l0 (-63) l2 (h l2 1) (h l2 2) h) fun _ h2 =>
  qz_bn (0 : Int) fun x3 =>
  fn_Printer_writeFunction_53 qz_NF l0 l1 l2 x3 h2
set_option maxRecDepth 20000 in
def fn_Printer_writeFunction (l0 : Int) (l1 : Int) (l2 : Int) (h : qz_H) : Option qz_R :=
  qz_ck ((h l0 0 : Int) ≠ 0) <|
  qz_bc (fn_Text_addAll (h l0 0) (-57) h) fun _ h2 =>
  qz_ck ((l2 : Int) ≠ 0) <|
  qz_bc (fn_Printer_writeSlots l0 (-59) l2 0 (h2 l2 1) h2) fun _ h4 =>
  qz_ck ((l2 : Int) ≠ 0) <|
  if h4 l2 3 = 0 then
    fn_Printer_writeFunction_36 l0 l1 l2 h4
  else
    qz_ck ((l2 : Int) ≠ 0) <|
    qz_bc (fn_Printer_writeResult l0 (h4 l2 3) h4) fun _ h6 =>
    fn_Printer_writeFunction_36 l0 l1 l2 h6
def bk_Printer_writeFunction_0 : List (Instr × Nat) := [(.aload_n 0, 1), (.getfield 9, 3), (.ldc 44, 2), (.invokevirtual 23, 3), (.aload_n 0, 1), (.ldc 46, 2), (.aload_n 2, 1), (.iconst 0, 1), (.aload_n 2, 1), (.getfield 48, 3), (.invokevirtual 53, 3), (.aload_n 2, 1), (.getfield 57, 3), (.ifCond .eq 11, 3), (.aload_n 0, 1), (.aload_n 2, 1), (.getfield 57, 3), (.invokevirtual 60, 3)]
def bk_Printer_writeFunction_36 : List (Instr × Nat) := [(.aload_n 0, 1), (.ldc 64, 2), (.aload_n 2, 1), (.aload_n 2, 1), (.getfield 48, 3), (.aload_n 2, 1), (.getfield 66, 3), (.invokevirtual 53, 3), (.iconst 0, 1), (.istore_n 3, 1)]
def bk_Printer_writeFunction_53 : List (Instr × Nat) := [(.iload_n 3, 1), (.aload_n 2, 1), (.getfield 69, 3), (.if_icmp .ge 46, 3), (.aload_n 2, 1), (.getfield 72, 3), (.iload_n 3, 1), (.iadd, 1), (.bipush 64, 2), (.if_icmp .ge 35, 3), (.aload_n 0, 1), (.aload_n 1, 1), (.getfield 75, 3), (.aload_n 2, 1), (.getfield 72, 3), (.iload_n 3, 1), (.iadd, 1), (.aaload, 1), (.aload_n 1, 1), (.getfield 79, 3), (.aload_n 2, 1), (.getfield 72, 3), (.iload_n 3, 1), (.iadd, 1), (.laload, 1), (.invokevirtual 83, 3), (.iinc 3 1, 3), (.goto (-48), 3)]
def bk_Printer_writeFunction_104 : List (Instr × Nat) := [(.aload_n 0, 1), (.getfield 9, 3), (.bipush 41, 2), (.invokevirtual 40, 3), (.return_, 1)]
theorem ca_Printer_writeFunction_0 : qz_ca yd_Printer_writeFunction.2.1 0 bk_Printer_writeFunction_0 := qz_cab_ok _ _ (by decide +kernel)
theorem ca_Printer_writeFunction_36 : qz_ca yd_Printer_writeFunction.2.1 36 bk_Printer_writeFunction_36 := qz_cab_ok _ _ (by decide +kernel)
theorem ca_Printer_writeFunction_53 : qz_ca yd_Printer_writeFunction.2.1 53 bk_Printer_writeFunction_53 := qz_cab_ok _ _ (by decide +kernel)
theorem ca_Printer_writeFunction_104 : qz_ca yd_Printer_writeFunction.2.1 104 bk_Printer_writeFunction_104 := qz_cab_ok _ _ (by decide +kernel)
set_option maxRecDepth 20000 in
theorem jb_Printer_writeFunction_104 (G : qz_G) (l0 : Int) (h : qz_H) : qz_J yd_Printer_writeFunction G bk_Printer_writeFunction_104 104 [qz_r true 8 l0, qz_u, qz_u, qz_u] [] h 0 0 (fn_Printer_writeFunction_104 l0 h) := by
  unfold fn_Printer_writeFunction_104 bk_Printer_writeFunction_104; exact
    qz_aload_n rfl <|
    qz_getR (k1 := 11) kg_8 fl_Printer_9 rfl rfl <|
    qz_bipush rfl <|
    qz_nnd 1 rfl <|
    qz_invvV [qz_i 41] rfl (cn_Text_add (h l0 0) 41 h) mw_Text_add vw_Text_add ⟨_, rfl, rfl, by decide⟩ rfl rfl ln_Printer_40 rfl fun _ h2 =>
    qz_return ⟨rfl, rfl⟩ rfl
set_option maxRecDepth 20000 in
theorem jb_Printer_writeFunction_53_b (G : qz_G) (k53 : Int → Int → Int → Int → qz_H → Option qz_R) (jk53 : ∀ (l0 : Int) (l1 : Int) (l2 : Int) (l3 : Int) (h : qz_H), qz_J yd_Printer_writeFunction G bk_Printer_writeFunction_53 53 [qz_r true 8 l0, qz_r false 6 l1, qz_r false 4 l2, qz_i l3] [] h 0 0 (k53 l0 l1 l2 l3 h)) (l0 : Int) (l1 : Int) (l2 : Int) (l3 : Int) (h : qz_H) : qz_J yd_Printer_writeFunction G bk_Printer_writeFunction_53 53 [qz_r true 8 l0, qz_r false 6 l1, qz_r false 4 l2, qz_i l3] [] h 0 0 (fn_Printer_writeFunction_53_b k53 l0 l1 l2 l3 h) := by
  unfold fn_Printer_writeFunction_53_b bk_Printer_writeFunction_53; exact
    qz_iload_n rfl <|
    qz_aload_n rfl <|
    qz_nnd 0 rfl <|
    qz_getI kg_4 fl_Printer_69 rfl rfl <|
    qz_icmp_ge rfl ca_Printer_writeFunction_104
      (qz_fgt [1, 0, 0, 0] <| jb_Printer_writeFunction_104 G l0 h)
      (qz_aload_n rfl <|
        qz_nnd 0 rfl <|
        qz_getI kg_4 fl_Printer_72 rfl rfl <|
        qz_iload_n rfl <|
        qz_iadd <|
        qz_bipush rfl <|
        qz_icmp_ge rfl ca_Printer_writeFunction_104
          (qz_fgt [1, 0, 0, 0] <| jb_Printer_writeFunction_104 G l0 h)
          (qz_aload_n rfl <|
            qz_aload_n rfl <|
            qz_nnd 0 rfl <|
            qz_getR (k1 := 46) kg_6 fl_Printer_75 rfl rfl <|
            qz_aload_n rfl <|
            qz_nnd 0 rfl <|
            qz_getI kg_4 fl_Printer_72 rfl rfl <|
            qz_iload_n rfl <|
            qz_iadd <|
            qz_nnd 1 rfl <|
            qz_aald (k0 := 46) (k1 := 7) rfl rfl rfl <|
            qz_aload_n rfl <|
            qz_nnd 0 rfl <|
            qz_getR (k1 := 41) kg_6 fl_Printer_79 rfl rfl <|
            qz_aload_n rfl <|
            qz_nnd 0 rfl <|
            qz_getI kg_4 fl_Printer_72 rfl rfl <|
            qz_iload_n rfl <|
            qz_iadd <|
            qz_nnd 1 rfl <|
            qz_lald (k0 := 41) rfl rfl rfl <|
            qz_invvV [qz_r false 7 (h (h l1 1) (qz_w ((h l2 4) + l3))), qz_j (h (h l1 2) (qz_w ((h l2 4) + l3)))] rfl (cn_Printer_writeInstruction l0 (h (h l1 1) (qz_w ((h l2 4) + l3))) (h (h l1 2) (qz_w ((h l2 4) + l3))) h) mw_Printer_writeInstruction vw_Printer_writeInstruction ⟨_, rfl, rfl, by decide⟩ rfl rfl ln_Printer_83 rfl fun _ h2 =>
            qz_iinc rfl (by decide) fun x3 =>
            qz_goto rfl ca_Printer_writeFunction_53 <|
            qz_fgt [1, 1, 1, 1] <| jk53 l0 l1 l2 x3 h2))
theorem jb_Printer_writeFunction_53 (G : qz_G) : ∀ (n : Nat) (l0 l1 l2 l3 : Int) (h : qz_H), qz_J yd_Printer_writeFunction G bk_Printer_writeFunction_53 53 [qz_r true 8 l0, qz_r false 6 l1, qz_r false 4 l2, qz_i l3] [] h 0 0 (fn_Printer_writeFunction_53 n l0 l1 l2 l3 h)
  | 0, _, _, _, _, _ => qz_none
  | n + 1, l0, l1, l2, l3, h => jb_Printer_writeFunction_53_b G (fn_Printer_writeFunction_53 n) (jb_Printer_writeFunction_53 G n) l0 l1 l2 l3 h
set_option maxRecDepth 20000 in
theorem jb_Printer_writeFunction_36 (G : qz_G) (l0 : Int) (l1 : Int) (l2 : Int) (h : qz_H) : qz_J yd_Printer_writeFunction G bk_Printer_writeFunction_36 36 [qz_r true 8 l0, qz_r false 6 l1, qz_r false 4 l2, qz_u] [] h 0 0 (fn_Printer_writeFunction_36 l0 l1 l2 h) := by
  unfold fn_Printer_writeFunction_36 bk_Printer_writeFunction_36; exact
    qz_aload_n rfl <|
    qz_ldcS ss_Printer_64 rfl <|
    qz_aload_n rfl <|
    qz_aload_n rfl <|
    qz_nnd 0 rfl <|
    qz_getI kg_4 fl_Printer_48 rfl rfl <|
    qz_aload_n rfl <|
    qz_nnd 0 rfl <|
    qz_getI kg_4 fl_Printer_66 rfl rfl <|
    qz_wkS [1, 1, 1, 2] <|
    qz_invvV [qz_r false 13 (-63), qz_r false 4 l2, qz_i (h l2 1), qz_i (h l2 2)] rfl (cn_Printer_writeSlots l0 (-63) l2 (h l2 1) (h l2 2) h) mw_Printer_writeSlots vw_Printer_writeSlots ⟨_, rfl, rfl, by decide⟩ rfl rfl ln_Printer_53 rfl fun _ h2 =>
    qz_iconst rfl <|
    qz_istore_n (by decide) fun x3 =>
    qz_fall rfl ca_Printer_writeFunction_53 <|
    qz_fgt [1, 1, 1, 1] <| jb_Printer_writeFunction_53 G qz_NF l0 l1 l2 x3 h2
set_option maxRecDepth 20000 in
theorem cn_Printer_writeFunction (l0 : Int) (l1 : Int) (l2 : Int) (h : qz_H) : qz_C yd_Printer_writeFunction [qz_r true 8 l0, qz_r false 6 l1, qz_r false 4 l2] h (fn_Printer_writeFunction l0 l1 l2 h) := by
  refine qz_con (is := bk_Printer_writeFunction_0) (ls := [qz_r true 8 l0, qz_r false 6 l1, qz_r false 4 l2, qz_u]) mw_Printer_writeFunction.2.2.2 ca_Printer_writeFunction_0 rfl rfl fun G => ?_
  unfold fn_Printer_writeFunction bk_Printer_writeFunction_0; exact
    qz_aload_n rfl <|
    qz_getR (k1 := 11) kg_8 fl_Printer_9 rfl rfl <|
    qz_ldcS ss_Printer_44 rfl <|
    qz_nnd 1 rfl <|
    qz_wkS [2] <|
    qz_invvV [qz_r false 13 (-57)] rfl (cn_Text_addAll (h l0 0) (-57) h) mw_Text_addAll vw_Text_addAll ⟨_, rfl, rfl, by decide⟩ rfl rfl ln_Printer_23 rfl fun _ h2 =>
    qz_aload_n rfl <|
    qz_ldcS ss_Printer_46 rfl <|
    qz_aload_n rfl <|
    qz_iconst rfl <|
    qz_aload_n rfl <|
    qz_nnd 0 rfl <|
    qz_getI kg_4 fl_Printer_48 rfl rfl <|
    qz_wkS [1, 1, 1, 2] <|
    qz_invvV [qz_r false 13 (-59), qz_r false 4 l2, qz_i 0, qz_i (h2 l2 1)] rfl (cn_Printer_writeSlots l0 (-59) l2 0 (h2 l2 1) h2) mw_Printer_writeSlots vw_Printer_writeSlots ⟨_, rfl, rfl, by decide⟩ rfl rfl ln_Printer_53 rfl fun _ h4 =>
    qz_aload_n rfl <|
    qz_nnd 0 rfl <|
    qz_getI kg_4 fl_Printer_57 rfl rfl <|
    qz_if_eq rfl ca_Printer_writeFunction_36
      (qz_fgt [1, 1, 1, 0] <| jb_Printer_writeFunction_36 G l0 l1 l2 h4)
      (qz_aload_n rfl <|
        qz_aload_n rfl <|
        qz_nnd 0 rfl <|
        qz_getI kg_4 fl_Printer_57 rfl rfl <|
        qz_invvV [qz_i (h4 l2 3)] rfl (cn_Printer_writeResult l0 (h4 l2 3) h4) mw_Printer_writeResult vw_Printer_writeResult ⟨_, rfl, rfl, by decide⟩ rfl rfl ln_Printer_60 rfl fun _ h6 =>
        qz_fall rfl ca_Printer_writeFunction_36 <|
        qz_fgt [1, 1, 1, 0] <| jb_Printer_writeFunction_36 G l0 l1 l2 h6)
def fn_Printer_write_54 (l0 : Int) (h : qz_H) : Option qz_R :=
  qz_ck ((h l0 0 : Int) ≠ 0) <|
  qz_bc (fn_Text_add (h l0 0) 41 h) fun _ h2 =>
  some (0, h2)
def fn_Printer_write_24_b (k24 : Int → Int → Int → qz_H → Option qz_R) (l0 : Int) (l1 : Int) (l3 : Int) (h : qz_H) : Option qz_R :=
  qz_ck ((l1 : Int) ≠ 0) <|
  if h l1 3 ≤ l3 then
    fn_Printer_write_54 l0 h
  else
    if 4 ≤ l3 then
      fn_Printer_write_54 l0 h
    else
      qz_ck ((l1 : Int) ≠ 0) <|
      qz_ck ((h l1 0 : Int) ≠ 0) <|
      qz_ck ((0 : Int) ≤ l3 ∧ l3 < h (h l1 0) (-1)) <|
      qz_bc (fn_Printer_writeFunction l0 l1 (h (h l1 0) l3) h) fun _ h2 =>
      qz_bn (qz_w (l3 + 1)) fun x3 =>
      k24 l0 l1 x3 h2
def fn_Printer_write_24 : Nat → Int → Int → Int → qz_H → Option qz_R
  | 0, _, _, _, _ => none
  | n + 1, l0, l1, l3, h => fn_Printer_write_24_b (fn_Printer_write_24 n) l0 l1 l3 h
set_option maxRecDepth 20000 in
def fn_Printer_write (l0 : Int) (l1 : Int) (l2 : Int) (h : qz_H) : Option qz_R :=
  qz_ck ((0 : Int) < l0) <|
  qz_bn (qz_up h l0 0 l2) fun h1 =>
  qz_ck ((h1 l0 0 : Int) ≠ 0) <|
  qz_ck ((0 : Int) < h1 l0 0) <|
  qz_bn (qz_up h1 (h1 l0 0) 1 0) fun h2 =>
  qz_ck ((h2 l0 0 : Int) ≠ 0) <|
  qz_bc (fn_Text_addAll (h2 l0 0) (-55) h2) fun _ h4 =>
  qz_bn (0 : Int) fun x5 =>
  fn_Printer_write_24 qz_NF l0 l1 x5 h4
def bk_Printer_write_0 : List (Instr × Nat) := [(.aload_n 0, 1), (.aload_n 2, 1), (.putfield 9, 3), (.aload_n 0, 1), (.getfield 9, 3), (.iconst 0, 1), (.putfield 15, 3), (.aload_n 0, 1), (.getfield 9, 3), (.ldc 21, 2), (.invokevirtual 23, 3), (.iconst 0, 1), (.istore_n 3, 1)]
def bk_Printer_write_24 : List (Instr × Nat) := [(.iload_n 3, 1), (.aload_n 1, 1), (.getfield 27, 3), (.if_icmp .ge 25, 3), (.iload_n 3, 1), (.iconst 4, 1), (.if_icmp .ge 20, 3), (.aload_n 0, 1), (.aload_n 1, 1), (.aload_n 1, 1), (.getfield 32, 3), (.iload_n 3, 1), (.aaload, 1), (.invokevirtual 36, 3), (.iinc 3 1, 3), (.goto (-27), 3)]
def bk_Printer_write_54 : List (Instr × Nat) := [(.aload_n 0, 1), (.getfield 9, 3), (.bipush 41, 2), (.invokevirtual 40, 3), (.return_, 1)]
theorem ca_Printer_write_0 : qz_ca yd_Printer_write.2.1 0 bk_Printer_write_0 := qz_cab_ok _ _ (by decide +kernel)
theorem ca_Printer_write_24 : qz_ca yd_Printer_write.2.1 24 bk_Printer_write_24 := qz_cab_ok _ _ (by decide +kernel)
theorem ca_Printer_write_54 : qz_ca yd_Printer_write.2.1 54 bk_Printer_write_54 := qz_cab_ok _ _ (by decide +kernel)
set_option maxRecDepth 20000 in
theorem jb_Printer_write_54 (G : qz_G) (l0 : Int) (h : qz_H) : qz_J yd_Printer_write G bk_Printer_write_54 54 [qz_r true 8 l0, qz_u, qz_u, qz_u] [] h 0 0 (fn_Printer_write_54 l0 h) := by
  unfold fn_Printer_write_54 bk_Printer_write_54; exact
    qz_aload_n rfl <|
    qz_getR (k1 := 11) kg_8 fl_Printer_9 rfl rfl <|
    qz_bipush rfl <|
    qz_nnd 1 rfl <|
    qz_invvV [qz_i 41] rfl (cn_Text_add (h l0 0) 41 h) mw_Text_add vw_Text_add ⟨_, rfl, rfl, by decide⟩ rfl rfl ln_Printer_40 rfl fun _ h2 =>
    qz_return ⟨rfl, rfl⟩ rfl
set_option maxRecDepth 20000 in
theorem jb_Printer_write_24_b (G : qz_G) (k24 : Int → Int → Int → qz_H → Option qz_R) (jk24 : ∀ (l0 : Int) (l1 : Int) (l3 : Int) (h : qz_H), qz_J yd_Printer_write G bk_Printer_write_24 24 [qz_r true 8 l0, qz_r false 6 l1, qz_u, qz_i l3] [] h 0 0 (k24 l0 l1 l3 h)) (l0 : Int) (l1 : Int) (l3 : Int) (h : qz_H) : qz_J yd_Printer_write G bk_Printer_write_24 24 [qz_r true 8 l0, qz_r false 6 l1, qz_u, qz_i l3] [] h 0 0 (fn_Printer_write_24_b k24 l0 l1 l3 h) := by
  unfold fn_Printer_write_24_b bk_Printer_write_24; exact
    qz_iload_n rfl <|
    qz_aload_n rfl <|
    qz_nnd 0 rfl <|
    qz_getI kg_6 fl_Printer_27 rfl rfl <|
    qz_icmp_ge rfl ca_Printer_write_54
      (qz_fgt [1, 0, 0, 0] <| jb_Printer_write_54 G l0 h)
      (qz_iload_n rfl <|
        qz_iconst rfl <|
        qz_icmp_ge rfl ca_Printer_write_54
          (qz_fgt [1, 0, 0, 0] <| jb_Printer_write_54 G l0 h)
          (qz_aload_n rfl <|
            qz_aload_n rfl <|
            qz_aload_n rfl <|
            qz_nnd 0 rfl <|
            qz_getR (k1 := 45) kg_6 fl_Printer_32 rfl rfl <|
            qz_iload_n rfl <|
            qz_nnd 1 rfl <|
            qz_aald (k0 := 45) (k1 := 4) rfl rfl rfl <|
            qz_invvV [qz_r false 6 l1, qz_r false 4 (h (h l1 0) l3)] rfl (cn_Printer_writeFunction l0 l1 (h (h l1 0) l3) h) mw_Printer_writeFunction vw_Printer_writeFunction ⟨_, rfl, rfl, by decide⟩ rfl rfl ln_Printer_36 rfl fun _ h2 =>
            qz_iinc rfl (by decide) fun x3 =>
            qz_goto rfl ca_Printer_write_24 <|
            qz_fgt [1, 1, 0, 1] <| jk24 l0 l1 x3 h2))
theorem jb_Printer_write_24 (G : qz_G) : ∀ (n : Nat) (l0 l1 l3 : Int) (h : qz_H), qz_J yd_Printer_write G bk_Printer_write_24 24 [qz_r true 8 l0, qz_r false 6 l1, qz_u, qz_i l3] [] h 0 0 (fn_Printer_write_24 n l0 l1 l3 h)
  | 0, _, _, _, _ => qz_none
  | n + 1, l0, l1, l3, h => jb_Printer_write_24_b G (fn_Printer_write_24 n) (jb_Printer_write_24 G n) l0 l1 l3 h
set_option maxRecDepth 20000 in
theorem cn_Printer_write (l0 : Int) (l1 : Int) (l2 : Int) (h : qz_H) : qz_C yd_Printer_write [qz_r true 8 l0, qz_r false 6 l1, qz_r false 11 l2] h (fn_Printer_write l0 l1 l2 h) := by
  refine qz_con (is := bk_Printer_write_0) (ls := [qz_r true 8 l0, qz_r false 6 l1, qz_r false 11 l2, qz_u]) mw_Printer_write.2.2.2 ca_Printer_write_0 rfl rfl fun G => ?_
  unfold fn_Printer_write bk_Printer_write_0; exact
    qz_aload_n rfl <|
    qz_aload_n rfl <|
    qz_putR (k1 := 11) kw_8 fp_Printer_9_Printer_write rfl rfl fun h1 =>
    qz_aload_n rfl <|
    qz_getR (k1 := 11) kg_8 fl_Printer_9 rfl rfl <|
    qz_iconst rfl <|
    qz_nnd 1 rfl <|
    qz_putI kw_11 fp_Printer_15_Printer_write rfl rfl fun h2 =>
    qz_aload_n rfl <|
    qz_getR (k1 := 11) kg_8 fl_Printer_9 rfl rfl <|
    qz_ldcS ss_Printer_21 rfl <|
    qz_nnd 1 rfl <|
    qz_wkS [2] <|
    qz_invvV [qz_r false 13 (-55)] rfl (cn_Text_addAll (h2 l0 0) (-55) h2) mw_Text_addAll vw_Text_addAll ⟨_, rfl, rfl, by decide⟩ rfl rfl ln_Printer_23 rfl fun _ h4 =>
    qz_iconst rfl <|
    qz_istore_n (by decide) fun x5 =>
    qz_fall rfl ca_Printer_write_24 <|
    qz_fgt [1, 1, 0, 1] <| jb_Printer_write_24 G qz_NF l0 l1 x5 h4
set_option maxRecDepth 20000 in
def fn_Scanner_begin (l0 : Int) (l1 : Int) (h : qz_H) : Option qz_R :=
  qz_ck ((0 : Int) < l0) <|
  qz_bn (qz_up h l0 0 l1) fun h1 =>
  qz_ck ((0 : Int) < l0) <|
  qz_bn (qz_up h1 l0 1 3) fun h2 =>
  qz_ck ((0 : Int) < l0) <|
  qz_bn (qz_up h2 l0 2 0) fun h3 =>
  qz_ck ((0 : Int) < l0) <|
  qz_bn (qz_up h3 l0 3 0) fun h4 =>
  some (0, h4)
def bk_Scanner_begin_0 : List (Instr × Nat) := [(.aload_n 0, 1), (.aload_n 1, 1), (.putfield 9, 3), (.aload_n 0, 1), (.iconst 3, 1), (.putfield 15, 3), (.aload_n 0, 1), (.iconst 0, 1), (.putfield 19, 3), (.aload_n 0, 1), (.iconst 0, 1), (.putfield 22, 3), (.return_, 1)]
theorem ca_Scanner_begin_0 : qz_ca yd_Scanner_begin.2.1 0 bk_Scanner_begin_0 := qz_cab_ok _ _ (by decide +kernel)
set_option maxRecDepth 20000 in
theorem cn_Scanner_begin (l0 : Int) (l1 : Int) (h : qz_H) : qz_C yd_Scanner_begin [qz_r true 10 l0, qz_r false 11 l1] h (fn_Scanner_begin l0 l1 h) := by
  refine qz_con (is := bk_Scanner_begin_0) (ls := [qz_r true 10 l0, qz_r false 11 l1]) mw_Scanner_begin.2.2.2 ca_Scanner_begin_0 rfl rfl fun G => ?_
  unfold fn_Scanner_begin bk_Scanner_begin_0; exact
    qz_aload_n rfl <|
    qz_aload_n rfl <|
    qz_putR (k1 := 11) kw_10 fp_Scanner_9_Scanner_begin rfl rfl fun h1 =>
    qz_aload_n rfl <|
    qz_iconst rfl <|
    qz_putI kw_10 fp_Scanner_15_Scanner_begin rfl rfl fun h2 =>
    qz_aload_n rfl <|
    qz_iconst rfl <|
    qz_putI kw_10 fp_Scanner_19_Scanner_begin rfl rfl fun h3 =>
    qz_aload_n rfl <|
    qz_iconst rfl <|
    qz_putI kw_10 fp_Scanner_22_Scanner_begin rfl rfl fun h4 =>
    qz_return ⟨rfl, rfl⟩ rfl
def fn_Scanner_behindLine_32 (l2 : Int) (h : qz_H) : Option qz_R :=
  some (l2, h)
def fn_Scanner_behindLine_2_b (k2 : Int → Int → qz_H → Option qz_R) (l0 : Int) (l2 : Int) (h : qz_H) : Option qz_R :=
  qz_ck ((h l0 0 : Int) ≠ 0) <|
  if h (h l0 0) 1 ≤ l2 then
    fn_Scanner_behindLine_32 l2 h
  else
    qz_ck ((h l0 0 : Int) ≠ 0) <|
    qz_bc (fn_Text_at (h l0 0) l2 h) fun r1 h2 =>
    if r1 = 10 then
      fn_Scanner_behindLine_32 l2 h2
    else
      qz_bn (qz_w (l2 + 1)) fun x3 =>
      k2 l0 x3 h2
def fn_Scanner_behindLine_2 : Nat → Int → Int → qz_H → Option qz_R
  | 0, _, _, _ => none
  | n + 1, l0, l2, h => fn_Scanner_behindLine_2_b (fn_Scanner_behindLine_2 n) l0 l2 h
set_option maxRecDepth 20000 in
def fn_Scanner_behindLine (l0 : Int) (l1 : Int) (h : qz_H) : Option qz_R :=
  qz_bn (l1 : Int) fun x1 =>
  fn_Scanner_behindLine_2 qz_NF l0 x1 h
def bk_Scanner_behindLine_0 : List (Instr × Nat) := [(.iload_n 1, 1), (.istore_n 2, 1)]
def bk_Scanner_behindLine_2 : List (Instr × Nat) := [(.iload_n 2, 1), (.aload_n 0, 1), (.getfield 9, 3), (.getfield 35, 3), (.if_icmp .ge 22, 3), (.aload_n 0, 1), (.getfield 9, 3), (.iload_n 2, 1), (.invokevirtual 29, 3), (.bipush 10, 2), (.if_icmp .eq 9, 3), (.iinc 2 1, 3), (.goto (-27), 3)]
def bk_Scanner_behindLine_32 : List (Instr × Nat) := [(.iload_n 2, 1), (.ireturn, 1)]
theorem ca_Scanner_behindLine_0 : qz_ca yd_Scanner_behindLine.2.1 0 bk_Scanner_behindLine_0 := qz_cab_ok _ _ (by decide +kernel)
theorem ca_Scanner_behindLine_2 : qz_ca yd_Scanner_behindLine.2.1 2 bk_Scanner_behindLine_2 := qz_cab_ok _ _ (by decide +kernel)
theorem ca_Scanner_behindLine_32 : qz_ca yd_Scanner_behindLine.2.1 32 bk_Scanner_behindLine_32 := qz_cab_ok _ _ (by decide +kernel)
set_option maxRecDepth 20000 in
theorem jb_Scanner_behindLine_32 (G : qz_G) (l2 : Int) (h : qz_H) : qz_J yd_Scanner_behindLine G bk_Scanner_behindLine_32 32 [qz_u, qz_u, qz_i l2] [] h 0 0 (fn_Scanner_behindLine_32 l2 h) := by
  unfold fn_Scanner_behindLine_32 bk_Scanner_behindLine_32; exact
    qz_iload_n rfl <|
    qz_ireturn ⟨rfl, rfl⟩ rfl
set_option maxRecDepth 20000 in
theorem jb_Scanner_behindLine_2_b (G : qz_G) (k2 : Int → Int → qz_H → Option qz_R) (jk2 : ∀ (l0 : Int) (l2 : Int) (h : qz_H), qz_J yd_Scanner_behindLine G bk_Scanner_behindLine_2 2 [qz_r true 10 l0, qz_u, qz_i l2] [] h 0 0 (k2 l0 l2 h)) (l0 : Int) (l2 : Int) (h : qz_H) : qz_J yd_Scanner_behindLine G bk_Scanner_behindLine_2 2 [qz_r true 10 l0, qz_u, qz_i l2] [] h 0 0 (fn_Scanner_behindLine_2_b k2 l0 l2 h) := by
  unfold fn_Scanner_behindLine_2_b bk_Scanner_behindLine_2; exact
    qz_iload_n rfl <|
    qz_aload_n rfl <|
    qz_getR (k1 := 11) kg_10 fl_Scanner_9 rfl rfl <|
    qz_nnd 0 rfl <|
    qz_getI kg_11 fl_Scanner_35 rfl rfl <|
    qz_icmp_ge rfl ca_Scanner_behindLine_32
      (qz_fgt [0, 0, 1] <| jb_Scanner_behindLine_32 G l2 h)
      (qz_aload_n rfl <|
        qz_getR (k1 := 11) kg_10 fl_Scanner_9 rfl rfl <|
        qz_iload_n rfl <|
        qz_nnd 1 rfl <|
        qz_invvI [qz_i l2] rfl (cn_Text_at (h l0 0) l2 h) mw_Text_at vw_Text_at ⟨_, rfl, rfl, by decide⟩ rfl rfl ln_Scanner_29 rfl fun r1 h2 =>
        qz_bipush rfl <|
        qz_icmp_eq rfl ca_Scanner_behindLine_32
          (qz_fgt [0, 0, 1] <| jb_Scanner_behindLine_32 G l2 h2)
          (qz_iinc rfl (by decide) fun x3 =>
            qz_goto rfl ca_Scanner_behindLine_2 <|
            qz_fgt [1, 0, 1] <| jk2 l0 x3 h2))
theorem jb_Scanner_behindLine_2 (G : qz_G) : ∀ (n : Nat) (l0 l2 : Int) (h : qz_H), qz_J yd_Scanner_behindLine G bk_Scanner_behindLine_2 2 [qz_r true 10 l0, qz_u, qz_i l2] [] h 0 0 (fn_Scanner_behindLine_2 n l0 l2 h)
  | 0, _, _, _ => qz_none
  | n + 1, l0, l2, h => jb_Scanner_behindLine_2_b G (fn_Scanner_behindLine_2 n) (jb_Scanner_behindLine_2 G n) l0 l2 h
set_option maxRecDepth 20000 in
theorem cn_Scanner_behindLine (l0 : Int) (l1 : Int) (h : qz_H) : qz_C yd_Scanner_behindLine [qz_r true 10 l0, qz_i l1] h (fn_Scanner_behindLine l0 l1 h) := by
  refine qz_con (is := bk_Scanner_behindLine_0) (ls := [qz_r true 10 l0, qz_i l1, qz_u]) mw_Scanner_behindLine.2.2.2 ca_Scanner_behindLine_0 rfl rfl fun G => ?_
  unfold fn_Scanner_behindLine bk_Scanner_behindLine_0; exact
    qz_iload_n rfl <|
    qz_istore_n (by decide) fun x1 =>
    qz_fall rfl ca_Scanner_behindLine_2 <|
    qz_fgt [1, 0, 1] <| jb_Scanner_behindLine_2 G qz_NF l0 x1 h
def fn_Scanner_behindComment_80 (k4 : Int → Int → Int → Int → qz_H → Option qz_R) (l0 : Int) (l1 : Int) (l2 : Int) (l3 : Int) (h : qz_H) : Option qz_R :=
  if ¬ l2 = 0 then
    qz_bn (qz_w (l3 + 1)) fun x1 =>
    k4 l0 l1 l2 x1 h
  else
    some (qz_w (l3 + 1), h)
def fn_Scanner_behindComment_60 (k4 : Int → Int → Int → Int → qz_H → Option qz_R) (l0 : Int) (l1 : Int) (l2 : Int) (l3 : Int) (l4 : Int) (l5 : Int) (h : qz_H) : Option qz_R :=
  if ¬ l4 = 59 then
    fn_Scanner_behindComment_80 k4 l0 l1 l2 l3 h
  else
    if ¬ l5 = 41 then
      fn_Scanner_behindComment_80 k4 l0 l1 l2 l3 h
    else
      qz_bn (qz_w (l2 + (-1))) fun x1 =>
      qz_bn (qz_w (l3 + 1)) fun x2 =>
      fn_Scanner_behindComment_80 k4 l0 l1 x1 x2 h
def fn_Scanner_behindComment_4_b (k4 : Int → Int → Int → Int → qz_H → Option qz_R) (l0 : Int) (l1 : Int) (l2 : Int) (l3 : Int) (h : qz_H) : Option qz_R :=
  qz_ck ((h l0 0 : Int) ≠ 0) <|
  if h (h l0 0) 1 ≤ l3 then
    some (l1, h)
  else
    qz_ck ((h l0 0 : Int) ≠ 0) <|
    qz_bc (fn_Text_at (h l0 0) l3 h) fun r1 h2 =>
    qz_bn (r1 : Int) fun x3 =>
    qz_ck ((h2 l0 0 : Int) ≠ 0) <|
    qz_bc (fn_Text_at (h2 l0 0) (qz_w (l3 + 1)) h2) fun r4 h5 =>
    qz_bn (r4 : Int) fun x6 =>
    if ¬ x3 = 40 then
      fn_Scanner_behindComment_60 k4 l0 l1 l2 l3 x3 x6 h5
    else
      if ¬ x6 = 59 then
        fn_Scanner_behindComment_60 k4 l0 l1 l2 l3 x3 x6 h5
      else
        qz_bn (qz_w (l2 + 1)) fun x7 =>
        qz_bn (qz_w (l3 + 1)) fun x8 =>
        fn_Scanner_behindComment_80 k4 l0 l1 x7 x8 h5
def fn_Scanner_behindComment_4 : Nat → Int → Int → Int → Int → qz_H → Option qz_R
  | 0, _, _, _, _, _ => none
  | n + 1, l0, l1, l2, l3, h => fn_Scanner_behindComment_4_b (fn_Scanner_behindComment_4 n) l0 l1 l2 l3 h
set_option maxRecDepth 20000 in
def fn_Scanner_behindComment (l0 : Int) (l1 : Int) (h : qz_H) : Option qz_R :=
  qz_bn (0 : Int) fun x1 =>
  qz_bn (l1 : Int) fun x2 =>
  fn_Scanner_behindComment_4 qz_NF l0 l1 x1 x2 h
def bk_Scanner_behindComment_0 : List (Instr × Nat) := [(.iconst 0, 1), (.istore_n 2, 1), (.iload_n 1, 1), (.istore_n 3, 1)]
def bk_Scanner_behindComment_4 : List (Instr × Nat) := [(.iload_n 3, 1), (.aload_n 0, 1), (.getfield 9, 3), (.getfield 35, 3), (.if_icmp .ge 82, 3), (.aload_n 0, 1), (.getfield 9, 3), (.iload_n 3, 1), (.invokevirtual 29, 3), (.istore 4, 2), (.aload_n 0, 1), (.getfield 9, 3), (.iload_n 3, 1), (.iconst 1, 1), (.iadd, 1), (.invokevirtual 29, 3), (.istore 5, 2), (.iload 4, 2), (.bipush 40, 2), (.if_icmp .ne 19, 3), (.iload 5, 2), (.bipush 59, 2), (.if_icmp .ne 12, 3), (.iinc 2 1, 3), (.iinc 3 1, 3), (.goto 23, 3)]
def bk_Scanner_behindComment_94 : List (Instr × Nat) := [(.iload_n 1, 1), (.ireturn, 1)]
def bk_Scanner_behindComment_60 : List (Instr × Nat) := [(.iload 4, 2), (.bipush 59, 2), (.if_icmp .ne 16, 3), (.iload 5, 2), (.bipush 41, 2), (.if_icmp .ne 9, 3), (.iinc 2 (-1), 3), (.iinc 3 1, 3)]
def bk_Scanner_behindComment_80 : List (Instr × Nat) := [(.iload_n 2, 1), (.ifCond .ne 7, 3), (.iload_n 3, 1), (.iconst 1, 1), (.iadd, 1), (.ireturn, 1)]
def bk_Scanner_behindComment_88 : List (Instr × Nat) := [(.iinc 3 1, 3), (.goto (-87), 3)]
theorem ca_Scanner_behindComment_0 : qz_ca yd_Scanner_behindComment.2.1 0 bk_Scanner_behindComment_0 := qz_cab_ok _ _ (by decide +kernel)
theorem ca_Scanner_behindComment_4 : qz_ca yd_Scanner_behindComment.2.1 4 bk_Scanner_behindComment_4 := qz_cab_ok _ _ (by decide +kernel)
theorem ca_Scanner_behindComment_94 : qz_ca yd_Scanner_behindComment.2.1 94 bk_Scanner_behindComment_94 := qz_cab_ok _ _ (by decide +kernel)
theorem ca_Scanner_behindComment_60 : qz_ca yd_Scanner_behindComment.2.1 60 bk_Scanner_behindComment_60 := qz_cab_ok _ _ (by decide +kernel)
theorem ca_Scanner_behindComment_80 : qz_ca yd_Scanner_behindComment.2.1 80 bk_Scanner_behindComment_80 := qz_cab_ok _ _ (by decide +kernel)
theorem ca_Scanner_behindComment_88 : qz_ca yd_Scanner_behindComment.2.1 88 bk_Scanner_behindComment_88 := qz_cab_ok _ _ (by decide +kernel)
set_option maxRecDepth 20000 in
theorem jb_Scanner_behindComment_80 (G : qz_G) (k4 : Int → Int → Int → Int → qz_H → Option qz_R) (jk4 : ∀ (l0 : Int) (l1 : Int) (l2 : Int) (l3 : Int) (h : qz_H), qz_J yd_Scanner_behindComment G bk_Scanner_behindComment_4 4 [qz_r true 10 l0, qz_i l1, qz_i l2, qz_i l3, qz_u, qz_u] [] h 0 0 (k4 l0 l1 l2 l3 h)) (l0 : Int) (l1 : Int) (l2 : Int) (l3 : Int) (h : qz_H) : qz_J yd_Scanner_behindComment G bk_Scanner_behindComment_80 80 [qz_r true 10 l0, qz_i l1, qz_i l2, qz_i l3, qz_u, qz_u] [] h 0 0 (fn_Scanner_behindComment_80 k4 l0 l1 l2 l3 h) := by
  unfold fn_Scanner_behindComment_80 bk_Scanner_behindComment_80; exact
    qz_iload_n rfl <|
    qz_if_ne rfl ca_Scanner_behindComment_88
      (qz_iinc rfl (by decide) fun x1 =>
        qz_goto rfl ca_Scanner_behindComment_4 <|
        qz_fgt [1, 1, 1, 1, 0, 0] <| jk4 l0 l1 l2 x1 h)
      (qz_iload_n rfl <|
        qz_iconst rfl <|
        qz_iadd <|
        qz_ireturn ⟨rfl, rfl⟩ rfl)
set_option maxRecDepth 20000 in
theorem jb_Scanner_behindComment_60 (G : qz_G) (k4 : Int → Int → Int → Int → qz_H → Option qz_R) (jk4 : ∀ (l0 : Int) (l1 : Int) (l2 : Int) (l3 : Int) (h : qz_H), qz_J yd_Scanner_behindComment G bk_Scanner_behindComment_4 4 [qz_r true 10 l0, qz_i l1, qz_i l2, qz_i l3, qz_u, qz_u] [] h 0 0 (k4 l0 l1 l2 l3 h)) (l0 : Int) (l1 : Int) (l2 : Int) (l3 : Int) (l4 : Int) (l5 : Int) (h : qz_H) : qz_J yd_Scanner_behindComment G bk_Scanner_behindComment_60 60 [qz_r true 10 l0, qz_i l1, qz_i l2, qz_i l3, qz_i l4, qz_i l5] [] h 0 0 (fn_Scanner_behindComment_60 k4 l0 l1 l2 l3 l4 l5 h) := by
  unfold fn_Scanner_behindComment_60 bk_Scanner_behindComment_60; exact
    qz_iload rfl <|
    qz_bipush rfl <|
    qz_icmp_ne rfl ca_Scanner_behindComment_80
      (qz_fgt [1, 1, 1, 1, 0, 0] <| jb_Scanner_behindComment_80 G k4 jk4 l0 l1 l2 l3 h)
      (qz_iload rfl <|
        qz_bipush rfl <|
        qz_icmp_ne rfl ca_Scanner_behindComment_80
          (qz_fgt [1, 1, 1, 1, 0, 0] <| jb_Scanner_behindComment_80 G k4 jk4 l0 l1 l2 l3 h)
          (qz_iinc rfl (by decide) fun x1 =>
            qz_iinc rfl (by decide) fun x2 =>
            qz_fall rfl ca_Scanner_behindComment_80 <|
            qz_fgt [1, 1, 1, 1, 0, 0] <| jb_Scanner_behindComment_80 G k4 jk4 l0 l1 x1 x2 h))
set_option maxRecDepth 20000 in
theorem jb_Scanner_behindComment_4_b (G : qz_G) (k4 : Int → Int → Int → Int → qz_H → Option qz_R) (jk4 : ∀ (l0 : Int) (l1 : Int) (l2 : Int) (l3 : Int) (h : qz_H), qz_J yd_Scanner_behindComment G bk_Scanner_behindComment_4 4 [qz_r true 10 l0, qz_i l1, qz_i l2, qz_i l3, qz_u, qz_u] [] h 0 0 (k4 l0 l1 l2 l3 h)) (l0 : Int) (l1 : Int) (l2 : Int) (l3 : Int) (h : qz_H) : qz_J yd_Scanner_behindComment G bk_Scanner_behindComment_4 4 [qz_r true 10 l0, qz_i l1, qz_i l2, qz_i l3, qz_u, qz_u] [] h 0 0 (fn_Scanner_behindComment_4_b k4 l0 l1 l2 l3 h) := by
  unfold fn_Scanner_behindComment_4_b bk_Scanner_behindComment_4; exact
    qz_iload_n rfl <|
    qz_aload_n rfl <|
    qz_getR (k1 := 11) kg_10 fl_Scanner_9 rfl rfl <|
    qz_nnd 0 rfl <|
    qz_getI kg_11 fl_Scanner_35 rfl rfl <|
    qz_icmp_ge rfl ca_Scanner_behindComment_94
      (qz_iload_n rfl <|
        qz_ireturn ⟨rfl, rfl⟩ rfl)
      (qz_aload_n rfl <|
        qz_getR (k1 := 11) kg_10 fl_Scanner_9 rfl rfl <|
        qz_iload_n rfl <|
        qz_nnd 1 rfl <|
        qz_invvI [qz_i l3] rfl (cn_Text_at (h l0 0) l3 h) mw_Text_at vw_Text_at ⟨_, rfl, rfl, by decide⟩ rfl rfl ln_Scanner_29 rfl fun r1 h2 =>
        qz_istore (by decide) fun x3 =>
        qz_aload_n rfl <|
        qz_getR (k1 := 11) kg_10 fl_Scanner_9 rfl rfl <|
        qz_iload_n rfl <|
        qz_iconst rfl <|
        qz_iadd <|
        qz_nnd 1 rfl <|
        qz_invvI [qz_i (qz_w (l3 + 1))] rfl (cn_Text_at (h2 l0 0) (qz_w (l3 + 1)) h2) mw_Text_at vw_Text_at ⟨_, rfl, rfl, by decide⟩ rfl rfl ln_Scanner_29 rfl fun r4 h5 =>
        qz_istore (by decide) fun x6 =>
        qz_iload rfl <|
        qz_bipush rfl <|
        qz_icmp_ne rfl ca_Scanner_behindComment_60
          (qz_fgt [1, 1, 1, 1, 1, 1] <| jb_Scanner_behindComment_60 G k4 jk4 l0 l1 l2 l3 x3 x6 h5)
          (qz_iload rfl <|
            qz_bipush rfl <|
            qz_icmp_ne rfl ca_Scanner_behindComment_60
              (qz_fgt [1, 1, 1, 1, 1, 1] <| jb_Scanner_behindComment_60 G k4 jk4 l0 l1 l2 l3 x3 x6 h5)
              (qz_iinc rfl (by decide) fun x7 =>
                qz_iinc rfl (by decide) fun x8 =>
                qz_goto rfl ca_Scanner_behindComment_80 <|
                qz_fgt [1, 1, 1, 1, 0, 0] <| jb_Scanner_behindComment_80 G k4 jk4 l0 l1 x7 x8 h5)))
theorem jb_Scanner_behindComment_4 (G : qz_G) : ∀ (n : Nat) (l0 l1 l2 l3 : Int) (h : qz_H), qz_J yd_Scanner_behindComment G bk_Scanner_behindComment_4 4 [qz_r true 10 l0, qz_i l1, qz_i l2, qz_i l3, qz_u, qz_u] [] h 0 0 (fn_Scanner_behindComment_4 n l0 l1 l2 l3 h)
  | 0, _, _, _, _, _ => qz_none
  | n + 1, l0, l1, l2, l3, h => jb_Scanner_behindComment_4_b G (fn_Scanner_behindComment_4 n) (jb_Scanner_behindComment_4 G n) l0 l1 l2 l3 h
set_option maxRecDepth 20000 in
theorem cn_Scanner_behindComment (l0 : Int) (l1 : Int) (h : qz_H) : qz_C yd_Scanner_behindComment [qz_r true 10 l0, qz_i l1] h (fn_Scanner_behindComment l0 l1 h) := by
  refine qz_con (is := bk_Scanner_behindComment_0) (ls := [qz_r true 10 l0, qz_i l1, qz_u, qz_u, qz_u, qz_u]) mw_Scanner_behindComment.2.2.2 ca_Scanner_behindComment_0 rfl rfl fun G => ?_
  unfold fn_Scanner_behindComment bk_Scanner_behindComment_0; exact
    qz_iconst rfl <|
    qz_istore_n (by decide) fun x1 =>
    qz_iload_n rfl <|
    qz_istore_n (by decide) fun x2 =>
    qz_fall rfl ca_Scanner_behindComment_4 <|
    qz_fgt [1, 1, 1, 1, 0, 0] <| jb_Scanner_behindComment_4 G qz_NF l0 l1 x1 x2 h
def fn_Scanner_behindGap_42 (l1 : Int) (h : qz_H) : Option qz_R :=
  some (qz_w (l1 + 1), h)
def fn_Scanner_behindGap_81 (s0 : Int) (h : qz_H) : Option qz_R :=
  some (s0, h)
def fn_Scanner_behindGap_80 (l1 : Int) (h : qz_H) : Option qz_R :=
  fn_Scanner_behindGap_81 l1 h
def fn_Scanner_behindGap_62 (l0 : Int) (l1 : Int) (l2 : Int) (l3 : Int) (h : qz_H) : Option qz_R :=
  if ¬ l2 = 40 then
    fn_Scanner_behindGap_80 l1 h
  else
    if l3 = 0 then
      fn_Scanner_behindGap_80 l1 h
    else
      qz_bc (fn_Scanner_behindComment l0 l1 h) fun r1 h2 =>
      fn_Scanner_behindGap_81 r1 h2
def fn_Scanner_behindGap_29 (l0 : Int) (l1 : Int) (l2 : Int) (s0 : Int) (h : qz_H) : Option qz_R :=
  qz_bn (s0 : Int) fun x1 =>
  if l2 = 32 then
    fn_Scanner_behindGap_42 l1 h
  else
    if ¬ l2 = 10 then
      if ¬ l2 = 59 then
        fn_Scanner_behindGap_62 l0 l1 l2 x1 h
      else
        if x1 = 0 then
          fn_Scanner_behindGap_62 l0 l1 l2 x1 h
        else
          qz_bc (fn_Scanner_behindLine l0 l1 h) fun r2 h3 =>
          some (r2, h3)
    else
      fn_Scanner_behindGap_42 l1 h
set_option maxRecDepth 20000 in
def fn_Scanner_behindGap (l0 : Int) (l1 : Int) (h : qz_H) : Option qz_R :=
  qz_ck ((h l0 0 : Int) ≠ 0) <|
  qz_bc (fn_Text_at (h l0 0) l1 h) fun r1 h2 =>
  qz_bn (r1 : Int) fun x3 =>
  qz_ck ((h2 l0 0 : Int) ≠ 0) <|
  qz_bc (fn_Text_at (h2 l0 0) (qz_w (l1 + 1)) h2) fun r4 h5 =>
  if ¬ r4 = 59 then
    fn_Scanner_behindGap_29 l0 l1 x3 0 h5
  else
    fn_Scanner_behindGap_29 l0 l1 x3 1 h5
def bk_Scanner_behindGap_0 : List (Instr × Nat) := [(.aload_n 0, 1), (.getfield 9, 3), (.iload_n 1, 1), (.invokevirtual 29, 3), (.istore_n 2, 1), (.aload_n 0, 1), (.getfield 9, 3), (.iload_n 1, 1), (.iconst 1, 1), (.iadd, 1), (.invokevirtual 29, 3), (.bipush 59, 2), (.if_icmp .ne 7, 3), (.iconst 1, 1), (.goto 4, 3)]
def bk_Scanner_behindGap_28 : List (Instr × Nat) := [(.iconst 0, 1)]
def bk_Scanner_behindGap_29 : List (Instr × Nat) := [(.istore_n 3, 1), (.iload_n 2, 1), (.bipush 32, 2), (.if_icmp .eq 9, 3), (.iload_n 2, 1), (.bipush 10, 2), (.if_icmp .ne 7, 3)]
def bk_Scanner_behindGap_42 : List (Instr × Nat) := [(.iload_n 1, 1), (.iconst 1, 1), (.iadd, 1), (.ireturn, 1)]
def bk_Scanner_behindGap_46 : List (Instr × Nat) := [(.iload_n 2, 1), (.bipush 59, 2), (.if_icmp .ne 13, 3), (.iload_n 3, 1), (.ifCond .eq 9, 3), (.aload_n 0, 1), (.iload_n 1, 1), (.invokevirtual 56, 3), (.ireturn, 1)]
def bk_Scanner_behindGap_62 : List (Instr × Nat) := [(.iload_n 2, 1), (.bipush 40, 2), (.if_icmp .ne 15, 3), (.iload_n 3, 1), (.ifCond .eq 11, 3), (.aload_n 0, 1), (.iload_n 1, 1), (.invokevirtual 59, 3), (.goto 4, 3)]
def bk_Scanner_behindGap_80 : List (Instr × Nat) := [(.iload_n 1, 1)]
def bk_Scanner_behindGap_81 : List (Instr × Nat) := [(.ireturn, 1)]
theorem ca_Scanner_behindGap_0 : qz_ca yd_Scanner_behindGap.2.1 0 bk_Scanner_behindGap_0 := qz_cab_ok _ _ (by decide +kernel)
theorem ca_Scanner_behindGap_28 : qz_ca yd_Scanner_behindGap.2.1 28 bk_Scanner_behindGap_28 := qz_cab_ok _ _ (by decide +kernel)
theorem ca_Scanner_behindGap_29 : qz_ca yd_Scanner_behindGap.2.1 29 bk_Scanner_behindGap_29 := qz_cab_ok _ _ (by decide +kernel)
theorem ca_Scanner_behindGap_42 : qz_ca yd_Scanner_behindGap.2.1 42 bk_Scanner_behindGap_42 := qz_cab_ok _ _ (by decide +kernel)
theorem ca_Scanner_behindGap_46 : qz_ca yd_Scanner_behindGap.2.1 46 bk_Scanner_behindGap_46 := qz_cab_ok _ _ (by decide +kernel)
theorem ca_Scanner_behindGap_62 : qz_ca yd_Scanner_behindGap.2.1 62 bk_Scanner_behindGap_62 := qz_cab_ok _ _ (by decide +kernel)
theorem ca_Scanner_behindGap_80 : qz_ca yd_Scanner_behindGap.2.1 80 bk_Scanner_behindGap_80 := qz_cab_ok _ _ (by decide +kernel)
theorem ca_Scanner_behindGap_81 : qz_ca yd_Scanner_behindGap.2.1 81 bk_Scanner_behindGap_81 := qz_cab_ok _ _ (by decide +kernel)
set_option maxRecDepth 20000 in
theorem jb_Scanner_behindGap_42 (G : qz_G) (l1 : Int) (h : qz_H) : qz_J yd_Scanner_behindGap G bk_Scanner_behindGap_42 42 [qz_u, qz_i l1, qz_u, qz_u] [] h 0 0 (fn_Scanner_behindGap_42 l1 h) := by
  unfold fn_Scanner_behindGap_42 bk_Scanner_behindGap_42; exact
    qz_iload_n rfl <|
    qz_iconst rfl <|
    qz_iadd <|
    qz_ireturn ⟨rfl, rfl⟩ rfl
set_option maxRecDepth 20000 in
theorem jb_Scanner_behindGap_81 (G : qz_G) (s0 : Int) (h : qz_H) : qz_J yd_Scanner_behindGap G bk_Scanner_behindGap_81 81 [qz_u, qz_u, qz_u, qz_u] [qz_i s0] h 0 0 (fn_Scanner_behindGap_81 s0 h) := by
  unfold fn_Scanner_behindGap_81 bk_Scanner_behindGap_81; exact
    qz_ireturn ⟨rfl, rfl⟩ rfl
set_option maxRecDepth 20000 in
theorem jb_Scanner_behindGap_80 (G : qz_G) (l1 : Int) (h : qz_H) : qz_J yd_Scanner_behindGap G bk_Scanner_behindGap_80 80 [qz_u, qz_i l1, qz_u, qz_u] [] h 0 0 (fn_Scanner_behindGap_80 l1 h) := by
  unfold fn_Scanner_behindGap_80 bk_Scanner_behindGap_80; exact
    qz_iload_n rfl <|
    qz_fall rfl ca_Scanner_behindGap_81 <|
    qz_fgt [0, 0, 0, 0] <| jb_Scanner_behindGap_81 G l1 h
set_option maxRecDepth 20000 in
theorem jb_Scanner_behindGap_62 (G : qz_G) (l0 : Int) (l1 : Int) (l2 : Int) (l3 : Int) (h : qz_H) : qz_J yd_Scanner_behindGap G bk_Scanner_behindGap_62 62 [qz_r true 10 l0, qz_i l1, qz_i l2, qz_i l3] [] h 0 0 (fn_Scanner_behindGap_62 l0 l1 l2 l3 h) := by
  unfold fn_Scanner_behindGap_62 bk_Scanner_behindGap_62; exact
    qz_iload_n rfl <|
    qz_bipush rfl <|
    qz_icmp_ne rfl ca_Scanner_behindGap_80
      (qz_fgt [0, 1, 0, 0] <| jb_Scanner_behindGap_80 G l1 h)
      (qz_iload_n rfl <|
        qz_if_eq rfl ca_Scanner_behindGap_80
          (qz_fgt [0, 1, 0, 0] <| jb_Scanner_behindGap_80 G l1 h)
          (qz_aload_n rfl <|
            qz_iload_n rfl <|
            qz_invvI [qz_i l1] rfl (cn_Scanner_behindComment l0 l1 h) mw_Scanner_behindComment vw_Scanner_behindComment ⟨_, rfl, rfl, by decide⟩ rfl rfl ln_Scanner_59 rfl fun r1 h2 =>
            qz_goto rfl ca_Scanner_behindGap_81 <|
            qz_fgt [0, 0, 0, 0] <| jb_Scanner_behindGap_81 G r1 h2))
set_option maxRecDepth 20000 in
theorem jb_Scanner_behindGap_29 (G : qz_G) (l0 : Int) (l1 : Int) (l2 : Int) (s0 : Int) (h : qz_H) : qz_J yd_Scanner_behindGap G bk_Scanner_behindGap_29 29 [qz_r true 10 l0, qz_i l1, qz_i l2, qz_u] [qz_i s0] h 0 0 (fn_Scanner_behindGap_29 l0 l1 l2 s0 h) := by
  unfold fn_Scanner_behindGap_29 bk_Scanner_behindGap_29; exact
    qz_istore_n (by decide) fun x1 =>
    qz_iload_n rfl <|
    qz_bipush rfl <|
    qz_icmp_eq rfl ca_Scanner_behindGap_42
      (qz_fgt [0, 1, 0, 0] <| jb_Scanner_behindGap_42 G l1 h)
      (qz_iload_n rfl <|
        qz_bipush rfl <|
        qz_icmp_ne rfl ca_Scanner_behindGap_46
          (qz_iload_n rfl <|
            qz_bipush rfl <|
            qz_icmp_ne rfl ca_Scanner_behindGap_62
              (qz_fgt [1, 1, 1, 1] <| jb_Scanner_behindGap_62 G l0 l1 l2 x1 h)
              (qz_iload_n rfl <|
                qz_if_eq rfl ca_Scanner_behindGap_62
                  (qz_fgt [1, 1, 1, 1] <| jb_Scanner_behindGap_62 G l0 l1 l2 x1 h)
                  (qz_aload_n rfl <|
                    qz_iload_n rfl <|
                    qz_invvI [qz_i l1] rfl (cn_Scanner_behindLine l0 l1 h) mw_Scanner_behindLine vw_Scanner_behindLine ⟨_, rfl, rfl, by decide⟩ rfl rfl ln_Scanner_56 rfl fun r2 h3 =>
                    qz_ireturn ⟨rfl, rfl⟩ rfl)))
          (qz_fall rfl ca_Scanner_behindGap_42 <|
            qz_fgt [0, 1, 0, 0] <| jb_Scanner_behindGap_42 G l1 h))
set_option maxRecDepth 20000 in
theorem cn_Scanner_behindGap (l0 : Int) (l1 : Int) (h : qz_H) : qz_C yd_Scanner_behindGap [qz_r true 10 l0, qz_i l1] h (fn_Scanner_behindGap l0 l1 h) := by
  refine qz_con (is := bk_Scanner_behindGap_0) (ls := [qz_r true 10 l0, qz_i l1, qz_u, qz_u]) mw_Scanner_behindGap.2.2.2 ca_Scanner_behindGap_0 rfl rfl fun G => ?_
  unfold fn_Scanner_behindGap bk_Scanner_behindGap_0; exact
    qz_aload_n rfl <|
    qz_getR (k1 := 11) kg_10 fl_Scanner_9 rfl rfl <|
    qz_iload_n rfl <|
    qz_nnd 1 rfl <|
    qz_invvI [qz_i l1] rfl (cn_Text_at (h l0 0) l1 h) mw_Text_at vw_Text_at ⟨_, rfl, rfl, by decide⟩ rfl rfl ln_Scanner_29 rfl fun r1 h2 =>
    qz_istore_n (by decide) fun x3 =>
    qz_aload_n rfl <|
    qz_getR (k1 := 11) kg_10 fl_Scanner_9 rfl rfl <|
    qz_iload_n rfl <|
    qz_iconst rfl <|
    qz_iadd <|
    qz_nnd 1 rfl <|
    qz_invvI [qz_i (qz_w (l1 + 1))] rfl (cn_Text_at (h2 l0 0) (qz_w (l1 + 1)) h2) mw_Text_at vw_Text_at ⟨_, rfl, rfl, by decide⟩ rfl rfl ln_Scanner_29 rfl fun r4 h5 =>
    qz_bipush rfl <|
    qz_icmp_ne rfl ca_Scanner_behindGap_28
      (qz_iconst rfl <|
        qz_fall rfl ca_Scanner_behindGap_29 <|
        qz_fgt [1, 1, 1, 0] <| jb_Scanner_behindGap_29 G l0 l1 x3 0 h5)
      (qz_iconst rfl <|
        qz_goto rfl ca_Scanner_behindGap_29 <|
        qz_fgt [1, 1, 1, 0] <| jb_Scanner_behindGap_29 G l0 l1 x3 1 h5)
def fn_Scanner_behindGaps_4_b (k4 : Int → Int → Int → qz_H → Option qz_R) (l0 : Int) (l2 : Int) (l3 : Int) (h : qz_H) : Option qz_R :=
  if 320 < l3 then
    some (l2, h)
  else
    qz_bc (fn_Scanner_behindGap l0 l2 h) fun r1 h2 =>
    qz_bn (r1 : Int) fun x3 =>
    if ¬ x3 = l2 then
      qz_bn (x3 : Int) fun x4 =>
      qz_bn (qz_w (l3 + 1)) fun x5 =>
      k4 l0 x4 x5 h2
    else
      some (l2, h2)
def fn_Scanner_behindGaps_4 : Nat → Int → Int → Int → qz_H → Option qz_R
  | 0, _, _, _, _ => none
  | n + 1, l0, l2, l3, h => fn_Scanner_behindGaps_4_b (fn_Scanner_behindGaps_4 n) l0 l2 l3 h
set_option maxRecDepth 20000 in
def fn_Scanner_behindGaps (l0 : Int) (l1 : Int) (h : qz_H) : Option qz_R :=
  qz_bn (l1 : Int) fun x1 =>
  qz_bn (0 : Int) fun x2 =>
  fn_Scanner_behindGaps_4 qz_NF l0 x1 x2 h
def bk_Scanner_behindGaps_0 : List (Instr × Nat) := [(.iload_n 1, 1), (.istore_n 2, 1), (.iconst 0, 1), (.istore_n 3, 1)]
def bk_Scanner_behindGaps_4 : List (Instr × Nat) := [(.iload_n 3, 1), (.sipush 320, 3), (.if_icmp .gt 27, 3), (.aload_n 0, 1), (.iload_n 2, 1), (.invokevirtual 53, 3), (.istore 4, 2), (.iload 4, 2), (.iload_n 2, 1), (.if_icmp .ne 5, 3), (.iload_n 2, 1), (.ireturn, 1)]
def bk_Scanner_behindGaps_35 : List (Instr × Nat) := [(.iload_n 2, 1), (.ireturn, 1)]
def bk_Scanner_behindGaps_26 : List (Instr × Nat) := [(.iload 4, 2), (.istore_n 2, 1), (.iinc 3 1, 3), (.goto (-28), 3)]
theorem ca_Scanner_behindGaps_0 : qz_ca yd_Scanner_behindGaps.2.1 0 bk_Scanner_behindGaps_0 := qz_cab_ok _ _ (by decide +kernel)
theorem ca_Scanner_behindGaps_4 : qz_ca yd_Scanner_behindGaps.2.1 4 bk_Scanner_behindGaps_4 := qz_cab_ok _ _ (by decide +kernel)
theorem ca_Scanner_behindGaps_35 : qz_ca yd_Scanner_behindGaps.2.1 35 bk_Scanner_behindGaps_35 := qz_cab_ok _ _ (by decide +kernel)
theorem ca_Scanner_behindGaps_26 : qz_ca yd_Scanner_behindGaps.2.1 26 bk_Scanner_behindGaps_26 := qz_cab_ok _ _ (by decide +kernel)
set_option maxRecDepth 20000 in
theorem jb_Scanner_behindGaps_4_b (G : qz_G) (k4 : Int → Int → Int → qz_H → Option qz_R) (jk4 : ∀ (l0 : Int) (l2 : Int) (l3 : Int) (h : qz_H), qz_J yd_Scanner_behindGaps G bk_Scanner_behindGaps_4 4 [qz_r true 10 l0, qz_u, qz_i l2, qz_i l3, qz_u] [] h 0 0 (k4 l0 l2 l3 h)) (l0 : Int) (l2 : Int) (l3 : Int) (h : qz_H) : qz_J yd_Scanner_behindGaps G bk_Scanner_behindGaps_4 4 [qz_r true 10 l0, qz_u, qz_i l2, qz_i l3, qz_u] [] h 0 0 (fn_Scanner_behindGaps_4_b k4 l0 l2 l3 h) := by
  unfold fn_Scanner_behindGaps_4_b bk_Scanner_behindGaps_4; exact
    qz_iload_n rfl <|
    qz_sipush rfl <|
    qz_icmp_gt rfl ca_Scanner_behindGaps_35
      (qz_iload_n rfl <|
        qz_ireturn ⟨rfl, rfl⟩ rfl)
      (qz_aload_n rfl <|
        qz_iload_n rfl <|
        qz_invvI [qz_i l2] rfl (cn_Scanner_behindGap l0 l2 h) mw_Scanner_behindGap vw_Scanner_behindGap ⟨_, rfl, rfl, by decide⟩ rfl rfl ln_Scanner_53 rfl fun r1 h2 =>
        qz_istore (by decide) fun x3 =>
        qz_iload rfl <|
        qz_iload_n rfl <|
        qz_icmp_ne rfl ca_Scanner_behindGaps_26
          (qz_iload rfl <|
            qz_istore_n (by decide) fun x4 =>
            qz_iinc rfl (by decide) fun x5 =>
            qz_goto rfl ca_Scanner_behindGaps_4 <|
            qz_fgt [1, 0, 1, 1, 0] <| jk4 l0 x4 x5 h2)
          (qz_iload_n rfl <|
            qz_ireturn ⟨rfl, rfl⟩ rfl))
theorem jb_Scanner_behindGaps_4 (G : qz_G) : ∀ (n : Nat) (l0 l2 l3 : Int) (h : qz_H), qz_J yd_Scanner_behindGaps G bk_Scanner_behindGaps_4 4 [qz_r true 10 l0, qz_u, qz_i l2, qz_i l3, qz_u] [] h 0 0 (fn_Scanner_behindGaps_4 n l0 l2 l3 h)
  | 0, _, _, _, _ => qz_none
  | n + 1, l0, l2, l3, h => jb_Scanner_behindGaps_4_b G (fn_Scanner_behindGaps_4 n) (jb_Scanner_behindGaps_4 G n) l0 l2 l3 h
set_option maxRecDepth 20000 in
theorem cn_Scanner_behindGaps (l0 : Int) (l1 : Int) (h : qz_H) : qz_C yd_Scanner_behindGaps [qz_r true 10 l0, qz_i l1] h (fn_Scanner_behindGaps l0 l1 h) := by
  refine qz_con (is := bk_Scanner_behindGaps_0) (ls := [qz_r true 10 l0, qz_i l1, qz_u, qz_u, qz_u]) mw_Scanner_behindGaps.2.2.2 ca_Scanner_behindGaps_0 rfl rfl fun G => ?_
  unfold fn_Scanner_behindGaps bk_Scanner_behindGaps_0; exact
    qz_iload_n rfl <|
    qz_istore_n (by decide) fun x1 =>
    qz_iconst rfl <|
    qz_istore_n (by decide) fun x2 =>
    qz_fall rfl ca_Scanner_behindGaps_4 <|
    qz_fgt [1, 0, 1, 1, 0] <| jb_Scanner_behindGaps_4 G qz_NF l0 x1 x2 h
def fn_Scanner_isOfWord_81 (s0 : Int) (h : qz_H) : Option qz_R :=
  qz_ck ((s0 : Int) = 0 ∨ (s0 : Int) = 1) (some (s0, h))
def fn_Scanner_isOfWord_80 (h : qz_H) : Option qz_R :=
  fn_Scanner_isOfWord_81 0 h
def fn_Scanner_isOfWord_41 (l0 : Int) (s0 : Int) (h : qz_H) : Option qz_R :=
  qz_bn (s0 : Int) fun x1 =>
  if l0 ≤ 32 then
    fn_Scanner_isOfWord_80 h
  else
    if 126 < l0 then
      fn_Scanner_isOfWord_80 h
    else
      if ¬ x1 = 0 then
        fn_Scanner_isOfWord_80 h
      else
        if l0 = 34 then
          fn_Scanner_isOfWord_80 h
        else
          if l0 = 44 then
            fn_Scanner_isOfWord_80 h
          else
            if l0 = 59 then
              fn_Scanner_isOfWord_80 h
            else
              fn_Scanner_isOfWord_81 1 h
def fn_Scanner_isOfWord_36 (l0 : Int) (h : qz_H) : Option qz_R :=
  fn_Scanner_isOfWord_41 l0 1 h
set_option maxRecDepth 20000 in
def fn_Scanner_isOfWord (l0 : Int) (h : qz_H) : Option qz_R :=
  if l0 = 40 then
    fn_Scanner_isOfWord_36 l0 h
  else
    if l0 = 41 then
      fn_Scanner_isOfWord_36 l0 h
    else
      if l0 = 91 then
        fn_Scanner_isOfWord_36 l0 h
      else
        if l0 = 93 then
          fn_Scanner_isOfWord_36 l0 h
        else
          if l0 = 123 then
            fn_Scanner_isOfWord_36 l0 h
          else
            if ¬ l0 = 125 then
              fn_Scanner_isOfWord_41 l0 0 h
            else
              fn_Scanner_isOfWord_36 l0 h
def bk_Scanner_isOfWord_0 : List (Instr × Nat) := [(.iload_n 0, 1), (.bipush 40, 2), (.if_icmp .eq 33, 3), (.iload_n 0, 1), (.bipush 41, 2), (.if_icmp .eq 27, 3), (.iload_n 0, 1), (.bipush 91, 2), (.if_icmp .eq 21, 3), (.iload_n 0, 1), (.bipush 93, 2), (.if_icmp .eq 15, 3), (.iload_n 0, 1), (.bipush 123, 2), (.if_icmp .eq 9, 3), (.iload_n 0, 1), (.bipush 125, 2), (.if_icmp .ne 7, 3)]
def bk_Scanner_isOfWord_36 : List (Instr × Nat) := [(.iconst 1, 1), (.goto 4, 3)]
def bk_Scanner_isOfWord_40 : List (Instr × Nat) := [(.iconst 0, 1)]
def bk_Scanner_isOfWord_41 : List (Instr × Nat) := [(.istore_n 1, 1), (.iload_n 0, 1), (.bipush 32, 2), (.if_icmp .le 35, 3), (.iload_n 0, 1), (.bipush 126, 2), (.if_icmp .gt 29, 3), (.iload_n 1, 1), (.ifCond .ne 25, 3), (.iload_n 0, 1), (.bipush 34, 2), (.if_icmp .eq 19, 3), (.iload_n 0, 1), (.bipush 44, 2), (.if_icmp .eq 13, 3), (.iload_n 0, 1), (.bipush 59, 2), (.if_icmp .eq 7, 3), (.iconst 1, 1), (.goto 4, 3)]
def bk_Scanner_isOfWord_80 : List (Instr × Nat) := [(.iconst 0, 1)]
def bk_Scanner_isOfWord_81 : List (Instr × Nat) := [(.ireturn, 1)]
theorem ca_Scanner_isOfWord_0 : qz_ca yd_Scanner_isOfWord.2.1 0 bk_Scanner_isOfWord_0 := qz_cab_ok _ _ (by decide +kernel)
theorem ca_Scanner_isOfWord_36 : qz_ca yd_Scanner_isOfWord.2.1 36 bk_Scanner_isOfWord_36 := qz_cab_ok _ _ (by decide +kernel)
theorem ca_Scanner_isOfWord_40 : qz_ca yd_Scanner_isOfWord.2.1 40 bk_Scanner_isOfWord_40 := qz_cab_ok _ _ (by decide +kernel)
theorem ca_Scanner_isOfWord_41 : qz_ca yd_Scanner_isOfWord.2.1 41 bk_Scanner_isOfWord_41 := qz_cab_ok _ _ (by decide +kernel)
theorem ca_Scanner_isOfWord_80 : qz_ca yd_Scanner_isOfWord.2.1 80 bk_Scanner_isOfWord_80 := qz_cab_ok _ _ (by decide +kernel)
theorem ca_Scanner_isOfWord_81 : qz_ca yd_Scanner_isOfWord.2.1 81 bk_Scanner_isOfWord_81 := qz_cab_ok _ _ (by decide +kernel)
set_option maxRecDepth 20000 in
theorem jb_Scanner_isOfWord_81 (G : qz_G) (s0 : Int) (h : qz_H) : qz_J yd_Scanner_isOfWord G bk_Scanner_isOfWord_81 81 [qz_u, qz_u] [qz_i s0] h 0 0 (fn_Scanner_isOfWord_81 s0 h) := by
  unfold fn_Scanner_isOfWord_81 bk_Scanner_isOfWord_81; exact
    qz_zreturn ⟨rfl, rfl⟩ rfl
set_option maxRecDepth 20000 in
theorem jb_Scanner_isOfWord_80 (G : qz_G) (h : qz_H) : qz_J yd_Scanner_isOfWord G bk_Scanner_isOfWord_80 80 [qz_u, qz_u] [] h 0 0 (fn_Scanner_isOfWord_80 h) := by
  unfold fn_Scanner_isOfWord_80 bk_Scanner_isOfWord_80; exact
    qz_iconst rfl <|
    qz_fall rfl ca_Scanner_isOfWord_81 <|
    qz_fgt [0, 0] <| jb_Scanner_isOfWord_81 G 0 h
set_option maxRecDepth 20000 in
theorem jb_Scanner_isOfWord_41 (G : qz_G) (l0 : Int) (s0 : Int) (h : qz_H) : qz_J yd_Scanner_isOfWord G bk_Scanner_isOfWord_41 41 [qz_i l0, qz_u] [qz_i s0] h 0 0 (fn_Scanner_isOfWord_41 l0 s0 h) := by
  unfold fn_Scanner_isOfWord_41 bk_Scanner_isOfWord_41; exact
    qz_istore_n (by decide) fun x1 =>
    qz_iload_n rfl <|
    qz_bipush rfl <|
    qz_icmp_le rfl ca_Scanner_isOfWord_80
      (qz_fgt [0, 0] <| jb_Scanner_isOfWord_80 G h)
      (qz_iload_n rfl <|
        qz_bipush rfl <|
        qz_icmp_gt rfl ca_Scanner_isOfWord_80
          (qz_fgt [0, 0] <| jb_Scanner_isOfWord_80 G h)
          (qz_iload_n rfl <|
            qz_if_ne rfl ca_Scanner_isOfWord_80
              (qz_fgt [0, 0] <| jb_Scanner_isOfWord_80 G h)
              (qz_iload_n rfl <|
                qz_bipush rfl <|
                qz_icmp_eq rfl ca_Scanner_isOfWord_80
                  (qz_fgt [0, 0] <| jb_Scanner_isOfWord_80 G h)
                  (qz_iload_n rfl <|
                    qz_bipush rfl <|
                    qz_icmp_eq rfl ca_Scanner_isOfWord_80
                      (qz_fgt [0, 0] <| jb_Scanner_isOfWord_80 G h)
                      (qz_iload_n rfl <|
                        qz_bipush rfl <|
                        qz_icmp_eq rfl ca_Scanner_isOfWord_80
                          (qz_fgt [0, 0] <| jb_Scanner_isOfWord_80 G h)
                          (qz_iconst rfl <|
                            qz_goto rfl ca_Scanner_isOfWord_81 <|
                            qz_fgt [0, 0] <| jb_Scanner_isOfWord_81 G 1 h))))))
set_option maxRecDepth 20000 in
theorem jb_Scanner_isOfWord_36 (G : qz_G) (l0 : Int) (h : qz_H) : qz_J yd_Scanner_isOfWord G bk_Scanner_isOfWord_36 36 [qz_i l0, qz_u] [] h 0 0 (fn_Scanner_isOfWord_36 l0 h) := by
  unfold fn_Scanner_isOfWord_36 bk_Scanner_isOfWord_36; exact
    qz_iconst rfl <|
    qz_goto rfl ca_Scanner_isOfWord_41 <|
    qz_fgt [1, 0] <| jb_Scanner_isOfWord_41 G l0 1 h
set_option maxRecDepth 20000 in
theorem cn_Scanner_isOfWord (l0 : Int) (h : qz_H) : qz_C yd_Scanner_isOfWord [qz_i l0] h (fn_Scanner_isOfWord l0 h) := by
  refine qz_con (is := bk_Scanner_isOfWord_0) (ls := [qz_i l0, qz_u]) mw_Scanner_isOfWord.2.2.2 ca_Scanner_isOfWord_0 rfl rfl fun G => ?_
  unfold fn_Scanner_isOfWord bk_Scanner_isOfWord_0; exact
    qz_iload_n rfl <|
    qz_bipush rfl <|
    qz_icmp_eq rfl ca_Scanner_isOfWord_36
      (qz_fgt [1, 0] <| jb_Scanner_isOfWord_36 G l0 h)
      (qz_iload_n rfl <|
        qz_bipush rfl <|
        qz_icmp_eq rfl ca_Scanner_isOfWord_36
          (qz_fgt [1, 0] <| jb_Scanner_isOfWord_36 G l0 h)
          (qz_iload_n rfl <|
            qz_bipush rfl <|
            qz_icmp_eq rfl ca_Scanner_isOfWord_36
              (qz_fgt [1, 0] <| jb_Scanner_isOfWord_36 G l0 h)
              (qz_iload_n rfl <|
                qz_bipush rfl <|
                qz_icmp_eq rfl ca_Scanner_isOfWord_36
                  (qz_fgt [1, 0] <| jb_Scanner_isOfWord_36 G l0 h)
                  (qz_iload_n rfl <|
                    qz_bipush rfl <|
                    qz_icmp_eq rfl ca_Scanner_isOfWord_36
                      (qz_fgt [1, 0] <| jb_Scanner_isOfWord_36 G l0 h)
                      (qz_iload_n rfl <|
                        qz_bipush rfl <|
                        qz_icmp_ne rfl ca_Scanner_isOfWord_40
                          (qz_iconst rfl <|
                            qz_fall rfl ca_Scanner_isOfWord_41 <|
                            qz_fgt [1, 0] <| jb_Scanner_isOfWord_41 G l0 0 h)
                          (qz_fall rfl ca_Scanner_isOfWord_36 <|
                            qz_fgt [1, 0] <| jb_Scanner_isOfWord_36 G l0 h))))))
def fn_Scanner_behindWord_33 (l2 : Int) (h : qz_H) : Option qz_R :=
  some (l2, h)
def fn_Scanner_behindWord_2_b (k2 : Int → Int → qz_H → Option qz_R) (l0 : Int) (l2 : Int) (h : qz_H) : Option qz_R :=
  qz_ck ((h l0 0 : Int) ≠ 0) <|
  if h (h l0 0) 1 ≤ l2 then
    fn_Scanner_behindWord_33 l2 h
  else
    qz_ck ((h l0 0 : Int) ≠ 0) <|
    qz_bc (fn_Text_at (h l0 0) l2 h) fun r1 h2 =>
    qz_bc (fn_Scanner_isOfWord r1 h2) fun r3 h4 =>
    if r3 = 0 then
      fn_Scanner_behindWord_33 l2 h4
    else
      qz_bn (qz_w (l2 + 1)) fun x5 =>
      k2 l0 x5 h4
def fn_Scanner_behindWord_2 : Nat → Int → Int → qz_H → Option qz_R
  | 0, _, _, _ => none
  | n + 1, l0, l2, h => fn_Scanner_behindWord_2_b (fn_Scanner_behindWord_2 n) l0 l2 h
set_option maxRecDepth 20000 in
def fn_Scanner_behindWord (l0 : Int) (l1 : Int) (h : qz_H) : Option qz_R :=
  qz_bn (l1 : Int) fun x1 =>
  fn_Scanner_behindWord_2 qz_NF l0 x1 h
def bk_Scanner_behindWord_0 : List (Instr × Nat) := [(.iload_n 1, 1), (.istore_n 2, 1)]
def bk_Scanner_behindWord_2 : List (Instr × Nat) := [(.iload_n 2, 1), (.aload_n 0, 1), (.getfield 9, 3), (.getfield 35, 3), (.if_icmp .ge 23, 3), (.aload_n 0, 1), (.getfield 9, 3), (.iload_n 2, 1), (.invokevirtual 29, 3), (.invokestatic 38, 3), (.ifCond .eq 9, 3), (.iinc 2 1, 3), (.goto (-28), 3)]
def bk_Scanner_behindWord_33 : List (Instr × Nat) := [(.iload_n 2, 1), (.ireturn, 1)]
theorem ca_Scanner_behindWord_0 : qz_ca yd_Scanner_behindWord.2.1 0 bk_Scanner_behindWord_0 := qz_cab_ok _ _ (by decide +kernel)
theorem ca_Scanner_behindWord_2 : qz_ca yd_Scanner_behindWord.2.1 2 bk_Scanner_behindWord_2 := qz_cab_ok _ _ (by decide +kernel)
theorem ca_Scanner_behindWord_33 : qz_ca yd_Scanner_behindWord.2.1 33 bk_Scanner_behindWord_33 := qz_cab_ok _ _ (by decide +kernel)
set_option maxRecDepth 20000 in
theorem jb_Scanner_behindWord_33 (G : qz_G) (l2 : Int) (h : qz_H) : qz_J yd_Scanner_behindWord G bk_Scanner_behindWord_33 33 [qz_u, qz_u, qz_i l2] [] h 0 0 (fn_Scanner_behindWord_33 l2 h) := by
  unfold fn_Scanner_behindWord_33 bk_Scanner_behindWord_33; exact
    qz_iload_n rfl <|
    qz_ireturn ⟨rfl, rfl⟩ rfl
set_option maxRecDepth 20000 in
theorem jb_Scanner_behindWord_2_b (G : qz_G) (k2 : Int → Int → qz_H → Option qz_R) (jk2 : ∀ (l0 : Int) (l2 : Int) (h : qz_H), qz_J yd_Scanner_behindWord G bk_Scanner_behindWord_2 2 [qz_r true 10 l0, qz_u, qz_i l2] [] h 0 0 (k2 l0 l2 h)) (l0 : Int) (l2 : Int) (h : qz_H) : qz_J yd_Scanner_behindWord G bk_Scanner_behindWord_2 2 [qz_r true 10 l0, qz_u, qz_i l2] [] h 0 0 (fn_Scanner_behindWord_2_b k2 l0 l2 h) := by
  unfold fn_Scanner_behindWord_2_b bk_Scanner_behindWord_2; exact
    qz_iload_n rfl <|
    qz_aload_n rfl <|
    qz_getR (k1 := 11) kg_10 fl_Scanner_9 rfl rfl <|
    qz_nnd 0 rfl <|
    qz_getI kg_11 fl_Scanner_35 rfl rfl <|
    qz_icmp_ge rfl ca_Scanner_behindWord_33
      (qz_fgt [0, 0, 1] <| jb_Scanner_behindWord_33 G l2 h)
      (qz_aload_n rfl <|
        qz_getR (k1 := 11) kg_10 fl_Scanner_9 rfl rfl <|
        qz_iload_n rfl <|
        qz_nnd 1 rfl <|
        qz_invvI [qz_i l2] rfl (cn_Text_at (h l0 0) l2 h) mw_Text_at vw_Text_at ⟨_, rfl, rfl, by decide⟩ rfl rfl ln_Scanner_29 rfl fun r1 h2 =>
        qz_invsI [qz_i r1] rfl (cn_Scanner_isOfWord r1 h2) mw_Scanner_isOfWord vs_Scanner_isOfWord rfl rfl ln_Scanner_38 rfl fun r3 h4 =>
        qz_if_eq rfl ca_Scanner_behindWord_33
          (qz_fgt [0, 0, 1] <| jb_Scanner_behindWord_33 G l2 h4)
          (qz_iinc rfl (by decide) fun x5 =>
            qz_goto rfl ca_Scanner_behindWord_2 <|
            qz_fgt [1, 0, 1] <| jk2 l0 x5 h4))
theorem jb_Scanner_behindWord_2 (G : qz_G) : ∀ (n : Nat) (l0 l2 : Int) (h : qz_H), qz_J yd_Scanner_behindWord G bk_Scanner_behindWord_2 2 [qz_r true 10 l0, qz_u, qz_i l2] [] h 0 0 (fn_Scanner_behindWord_2 n l0 l2 h)
  | 0, _, _, _ => qz_none
  | n + 1, l0, l2, h => jb_Scanner_behindWord_2_b G (fn_Scanner_behindWord_2 n) (jb_Scanner_behindWord_2 G n) l0 l2 h
set_option maxRecDepth 20000 in
theorem cn_Scanner_behindWord (l0 : Int) (l1 : Int) (h : qz_H) : qz_C yd_Scanner_behindWord [qz_r true 10 l0, qz_i l1] h (fn_Scanner_behindWord l0 l1 h) := by
  refine qz_con (is := bk_Scanner_behindWord_0) (ls := [qz_r true 10 l0, qz_i l1, qz_u]) mw_Scanner_behindWord.2.2.2 ca_Scanner_behindWord_0 rfl rfl fun G => ?_
  unfold fn_Scanner_behindWord bk_Scanner_behindWord_0; exact
    qz_iload_n rfl <|
    qz_istore_n (by decide) fun x1 =>
    qz_fall rfl ca_Scanner_behindWord_2 <|
    qz_fgt [1, 0, 1] <| jb_Scanner_behindWord_2 G qz_NF l0 x1 h
