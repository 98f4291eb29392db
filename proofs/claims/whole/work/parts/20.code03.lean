set_option maxRecDepth 20000 in
def fn_Module_add (l0 : Int) (l1 : Int) (l2 : Int) (h : qz_H) : Option qz_R :=
  if h l0 4 < 64 then
    qz_ck ((l1 : Int) ≠ 0) <|
    qz_ck ((h l0 1 : Int) ≠ 0) <|
    qz_ck (0 < h l0 1 ∧ (0 : Int) ≤ h l0 4 ∧ h l0 4 < h (h l0 1) (-1)) <|
    qz_bn (qz_up h (h l0 1) (h l0 4) l1) fun h1 =>
    qz_ck ((h1 l0 2 : Int) ≠ 0) <|
    qz_ck (0 < h1 l0 2 ∧ (0 : Int) ≤ h1 l0 4 ∧ h1 l0 4 < h1 (h1 l0 2) (-1)) <|
    qz_bn (qz_up h1 (h1 l0 2) (h1 l0 4) l2) fun h2 =>
    qz_ck ((0 : Int) < l0) <|
    qz_bn (qz_up h2 l0 4 (qz_w ((h2 l0 4) + 1))) fun h3 =>
    qz_bc (fn_Module_latest l0 h3) fun r4 h5 =>
    qz_ck ((r4 : Int) ≠ 0) <|
    qz_ck ((r4 : Int) ≠ 0) <|
    qz_ck ((0 : Int) < r4) <|
    qz_bn (qz_up h5 r4 5 (qz_w ((h5 r4 5) + 1))) fun h6 =>
    qz_ck ((1 : Int) = 0 ∨ (1 : Int) = 1) (some (1, h6))
  else
    qz_ck ((0 : Int) = 0 ∨ (0 : Int) = 1) (some (0, h))
def bk_Module_add_0 : List (Instr × Nat) := [(.aload_n 0, 1), (.getfield 36, 3), (.bipush 64, 2), (.if_icmp .lt 5, 3), (.iconst 0, 1), (.ireturn, 1)]
def bk_Module_add_11 : List (Instr × Nat) := [(.aload_n 0, 1), (.getfield 19, 3), (.aload_n 0, 1), (.getfield 36, 3), (.aload_n 1, 1), (.aastore, 1), (.aload_n 0, 1), (.getfield 23, 3), (.aload_n 0, 1), (.getfield 36, 3), (.lload_n 2, 1), (.lastore, 1), (.aload_n 0, 1), (.dup, 1), (.getfield 36, 3), (.iconst 1, 1), (.iadd, 1), (.putfield 36, 3), (.aload_n 0, 1), (.invokevirtual 60, 3), (.dup, 1), (.getfield 45, 3), (.iconst 1, 1), (.iadd, 1), (.putfield 45, 3), (.iconst 1, 1), (.ireturn, 1)]
theorem ca_Module_add_0 : qz_ca yd_Module_add.2.1 0 bk_Module_add_0 := qz_cab_ok _ _ (by decide +kernel)
theorem ca_Module_add_11 : qz_ca yd_Module_add.2.1 11 bk_Module_add_11 := qz_cab_ok _ _ (by decide +kernel)
set_option maxRecDepth 20000 in
theorem cn_Module_add (l0 : Int) (l1 : Int) (l2 : Int) (h : qz_H) : qz_C yd_Module_add [qz_r true 6 l0, qz_r false 7 l1, qz_j l2] h (fn_Module_add l0 l1 l2 h) := by
  refine qz_con (is := bk_Module_add_0) (ls := [qz_r true 6 l0, qz_r false 7 l1, qz_j l2, qz_u]) mw_Module_add.2.2.2 ca_Module_add_0 rfl rfl rfl fun G => ?_
  unfold fn_Module_add bk_Module_add_0; exact
    qz_aload_n rfl <|
    qz_getI kg_6 fl_Module_36 rfl rfl <|
    qz_bipush rfl <|
    qz_icmp_lt rfl ca_Module_add_11
      (qz_aload_n rfl <|
        qz_getR (k1 := 46) kg_6 fl_Module_19 rfl rfl <|
        qz_aload_n rfl <|
        qz_getI kg_6 fl_Module_36 rfl rfl <|
        qz_aload_n rfl <|
        qz_nnd 0 rfl <|
        qz_nnd 2 rfl <|
        qz_aast (k0 := 46) (k1 := 7) rfl rfl rfl (by decide) ⟨_, rfl, rfl, by decide⟩ fun h1 =>
        qz_aload_n rfl <|
        qz_getR (k1 := 41) kg_6 fl_Module_23 rfl rfl <|
        qz_aload_n rfl <|
        qz_getI kg_6 fl_Module_36 rfl rfl <|
        qz_lload_n rfl <|
        qz_nnd 2 rfl <|
        qz_last rfl rfl rfl fun h2 =>
        qz_aload_n rfl <|
        qz_dup rfl <|
        qz_getI kg_6 fl_Module_36 rfl rfl <|
        qz_iconst rfl <|
        qz_iadd <|
        qz_putI kw_6 fp_Module_36_Module_add rfl rfl fun h3 =>
        qz_aload_n rfl <|
        qz_invvR [] rfl (cn_Module_latest l0 h3) mw_Module_latest vw_Module_latest ⟨_, rfl, rfl, by decide⟩ rfl rfl ln_Module_60 rfl fun r4 h5 =>
        qz_dup rfl <|
        qz_nnd 0 rfl <|
        qz_getI kg_4 fl_Module_45 rfl rfl <|
        qz_iconst rfl <|
        qz_iadd <|
        qz_nnd 1 rfl <|
        qz_putI kw_4 fp_Module_45_Module_add rfl rfl fun h6 =>
        qz_iconst rfl <|
        qz_zreturn ⟨rfl, rfl⟩ rfl)
      (qz_iconst rfl <|
        qz_zreturn ⟨rfl, rfl⟩ rfl)
def fn_Reader_inFolded_54 (s0 : Int) (h : qz_H) : Option qz_R :=
  some (s0, h)
set_option maxRecDepth 20000 in
def fn_Reader_inFolded (l0 : Int) (l1 : Int) (h : qz_H) : Option qz_R :=
  qz_ck ((h l0 0 : Int) ≠ 0) <|
  if ¬ h (h l0 0) 1 = 0 then
    qz_ck ((h l0 0 : Int) ≠ 0) <|
    if h (h l0 0) 1 = 1 then
      qz_ck ((l1 : Int) ≠ 0) <|
      qz_ck ((l1 : Int) ≠ 0) <|
      qz_ck ((h l0 4 : Int) ≠ 0) <|
      qz_bc (fn_Module_add (h l0 4) (h l1 3) (h l1 4) h) fun r1 h2 =>
      if r1 = 0 then
        fn_Reader_inFolded_54 2 h2
      else
        qz_bc (fn_Reader_close l0 h2) fun r3 h4 =>
        fn_Reader_inFolded_54 r3 h4
    else
      some (1, h)
  else
    qz_bc (fn_Reader_open l0 h) fun r5 h6 =>
    some (r5, h6)
def bk_Reader_inFolded_0 : List (Instr × Nat) := [(.aload_n 0, 1), (.getfield 33, 3), (.getfield 73, 3), (.ifCond .ne 8, 3), (.aload_n 0, 1), (.invokevirtual 118, 3), (.ireturn, 1)]
def bk_Reader_inFolded_15 : List (Instr × Nat) := [(.aload_n 0, 1), (.getfield 33, 3), (.getfield 73, 3), (.iconst 1, 1), (.if_icmp .eq 5, 3), (.iconst 1, 1), (.ireturn, 1)]
def bk_Reader_inFolded_28 : List (Instr × Nat) := [(.aload_n 0, 1), (.getfield 24, 3), (.aload_n 1, 1), (.getfield 163, 3), (.aload_n 1, 1), (.getfield 166, 3), (.invokevirtual 170, 3), (.ifCond .eq 10, 3), (.aload_n 0, 1), (.invokevirtual 121, 3), (.goto 4, 3)]
def bk_Reader_inFolded_53 : List (Instr × Nat) := [(.iconst 2, 1)]
def bk_Reader_inFolded_54 : List (Instr × Nat) := [(.ireturn, 1)]
theorem ca_Reader_inFolded_0 : qz_ca yd_Reader_inFolded.2.1 0 bk_Reader_inFolded_0 := qz_cab_ok _ _ (by decide +kernel)
theorem ca_Reader_inFolded_15 : qz_ca yd_Reader_inFolded.2.1 15 bk_Reader_inFolded_15 := qz_cab_ok _ _ (by decide +kernel)
theorem ca_Reader_inFolded_28 : qz_ca yd_Reader_inFolded.2.1 28 bk_Reader_inFolded_28 := qz_cab_ok _ _ (by decide +kernel)
theorem ca_Reader_inFolded_53 : qz_ca yd_Reader_inFolded.2.1 53 bk_Reader_inFolded_53 := qz_cab_ok _ _ (by decide +kernel)
theorem ca_Reader_inFolded_54 : qz_ca yd_Reader_inFolded.2.1 54 bk_Reader_inFolded_54 := qz_cab_ok _ _ (by decide +kernel)
set_option maxRecDepth 20000 in
theorem jb_Reader_inFolded_54 (G : qz_G) (s0 : Int) (h : qz_H) : qz_J yd_Reader_inFolded G bk_Reader_inFolded_54 54 [qz_u, qz_u] [qz_i s0] h 0 0 (fn_Reader_inFolded_54 s0 h) := by
  unfold fn_Reader_inFolded_54 bk_Reader_inFolded_54; exact
    qz_ireturn ⟨rfl, rfl⟩ rfl
set_option maxRecDepth 20000 in
theorem cn_Reader_inFolded (l0 : Int) (l1 : Int) (h : qz_H) : qz_C yd_Reader_inFolded [qz_r true 9 l0, qz_r false 5 l1] h (fn_Reader_inFolded l0 l1 h) := by
  refine qz_con (is := bk_Reader_inFolded_0) (ls := [qz_r true 9 l0, qz_r false 5 l1]) mw_Reader_inFolded.2.2.2 ca_Reader_inFolded_0 rfl rfl rfl fun G => ?_
  unfold fn_Reader_inFolded bk_Reader_inFolded_0; exact
    qz_aload_n rfl <|
    qz_getR (k1 := 10) kg_9 fl_Reader_33 rfl rfl <|
    qz_nnd 0 rfl <|
    qz_getI kg_10 fl_Reader_73 rfl rfl <|
    qz_if_ne rfl ca_Reader_inFolded_15
      (qz_aload_n rfl <|
        qz_getR (k1 := 10) kg_9 fl_Reader_33 rfl rfl <|
        qz_nnd 0 rfl <|
        qz_getI kg_10 fl_Reader_73 rfl rfl <|
        qz_iconst rfl <|
        qz_icmp_eq rfl ca_Reader_inFolded_28
          (qz_aload_n rfl <|
            qz_getR (k1 := 6) kg_9 fl_Reader_24 rfl rfl <|
            qz_aload_n rfl <|
            qz_nnd 0 rfl <|
            qz_getR (k1 := 7) kg_5 fl_Reader_163 rfl rfl <|
            qz_aload_n rfl <|
            qz_nnd 0 rfl <|
            qz_getJ kg_5 fl_Reader_166 rfl rfl <|
            qz_nnd 2 rfl <|
            qz_invvI [qz_r false 7 (h l1 3), qz_j (h l1 4)] rfl (cn_Module_add (h l0 4) (h l1 3) (h l1 4) h) mw_Module_add vw_Module_add ⟨_, rfl, rfl, by decide⟩ rfl rfl ln_Reader_170 rfl fun r1 h2 =>
            qz_if_eq rfl ca_Reader_inFolded_53
              (qz_iconst rfl <|
                qz_fall rfl ca_Reader_inFolded_54 <|
                qz_fgt [0, 0] <| jb_Reader_inFolded_54 G 2 h2)
              (qz_aload_n rfl <|
                qz_invvI [] rfl (cn_Reader_close l0 h2) mw_Reader_close vw_Reader_close ⟨_, rfl, rfl, by decide⟩ rfl rfl ln_Reader_121 rfl fun r3 h4 =>
                qz_goto rfl ca_Reader_inFolded_54 <|
                qz_fgt [0, 0] <| jb_Reader_inFolded_54 G r3 h4))
          (qz_iconst rfl <|
            qz_ireturn ⟨rfl, rfl⟩ rfl))
      (qz_aload_n rfl <|
        qz_invvI [] rfl (cn_Reader_open l0 h) mw_Reader_open vw_Reader_open ⟨_, rfl, rfl, by decide⟩ rfl rfl ln_Reader_118 rfl fun r5 h6 =>
        qz_ireturn ⟨rfl, rfl⟩ rfl)
def fn_Reader_instructionIn_42 (h : qz_H) : Option qz_R :=
  some (1, h)
def fn_Reader_instructionIn_126 (l0 : Int) (l1 : Int) (l2 : Int) (h : qz_H) : Option qz_R :=
  if ¬ l2 = (-7) then
    some (0, h)
  else
    qz_ck ((l1 : Int) ≠ 0) <|
    qz_ck ((0 : Int) < l0) <|
    qz_bn (qz_up h l0 7 (h l1 2)) fun h1 =>
    qz_bc (fn_Reader_close l0 h1) fun r2 h3 =>
    some (r2, h3)
def fn_Reader_instructionIn_104 (s0 : Int) (h : qz_H) : Option qz_R :=
  some (s0, h)
def fn_Reader_instructionIn_93 (s0 : Int) (s1 : Int) (h : qz_H) : Option qz_R :=
  qz_bc (fn_Reader_push s0 s1 h) fun r1 h2 =>
  if r1 = 0 then
    fn_Reader_instructionIn_104 2 h2
  else
    fn_Reader_instructionIn_104 0 h2
def fn_Reader_instructionIn_44 (l0 : Int) (l1 : Int) (l2 : Int) (h : qz_H) : Option qz_R :=
  qz_ck ((h l0 4 : Int) ≠ 0) <|
  qz_bc (fn_Module_add (h l0 4) l2 0 h) fun r1 h2 =>
  if ¬ r1 = 0 then
    qz_ck ((l1 : Int) ≠ 0) <|
    qz_ck ((0 : Int) < l1) <|
    qz_bn (qz_up h2 l1 1 4) fun h3 =>
    qz_ck ((l2 : Int) ≠ 0) <|
    qz_bc (fn_Op_awaitsOperand l2 h3) fun r4 h5 =>
    qz_ck ((r4 : Int) = 0 ∨ (r4 : Int) = 1) <|
    qz_ck ((0 : Int) < l0) <|
    qz_bn (qz_up h5 l0 6 r4) fun h6 =>
    qz_ck ((l2 : Int) ≠ 0) <|
    qz_bc (fn_Op_opensBlock l2 h6) fun r7 h8 =>
    if r7 = 0 then
      if ¬ l2 = (-6) then
        fn_Reader_instructionIn_126 l0 l1 l2 h8
      else
        qz_ck ((l1 : Int) ≠ 0) <|
        qz_ck ((0 : Int) < l0) <|
        qz_bn (qz_up h8 l0 7 (h8 l1 2)) fun h9 =>
        qz_ck ((l1 : Int) ≠ 0) <|
        qz_ck ((0 : Int) < l1) <|
        qz_bn (qz_up h9 l1 0 8) fun h10 =>
        fn_Reader_instructionIn_126 l0 l1 l2 h10
    else
      if ¬ l2 = (-5) then
        fn_Reader_instructionIn_93 l0 8 h8
      else
        fn_Reader_instructionIn_93 l0 9 h8
  else
    some (2, h2)
def fn_Reader_instructionIn_28 (l0 : Int) (l1 : Int) (l2 : Int) (h : qz_H) : Option qz_R :=
  if ¬ l2 = (-7) then
    fn_Reader_instructionIn_44 l0 l1 l2 h
  else
    qz_ck ((l1 : Int) ≠ 0) <|
    qz_bc (fn_Level_isBlock l1 h) fun r1 h2 =>
    if ¬ r1 = 0 then
      fn_Reader_instructionIn_44 l0 l1 l2 h2
    else
      fn_Reader_instructionIn_42 h2
set_option maxRecDepth 20000 in
def fn_Reader_instructionIn (l0 : Int) (l1 : Int) (h : qz_H) : Option qz_R :=
  qz_ck ((h l0 0 : Int) ≠ 0) <|
  qz_bn (h (h l0 0) 4 : Int) fun x1 =>
  if x1 = 0 then
    fn_Reader_instructionIn_42 h
  else
    if ¬ x1 = (-6) then
      fn_Reader_instructionIn_28 l0 l1 x1 h
    else
      qz_ck ((l1 : Int) ≠ 0) <|
      if ¬ h l1 0 = 9 then
        fn_Reader_instructionIn_42 h
      else
        fn_Reader_instructionIn_28 l0 l1 x1 h
def bk_Reader_instructionIn_0 : List (Instr × Nat) := [(.aload_n 0, 1), (.getfield 33, 3), (.getfield 154, 3), (.astore_n 2, 1), (.aload_n 2, 1), (.ifnull 33, 3), (.aload_n 2, 1), (.getstatic 238, 3), (.if_acmp .ne 12, 3), (.aload_n 1, 1), (.getfield 83, 3), (.bipush 9, 2), (.if_icmp .ne 17, 3)]
def bk_Reader_instructionIn_42 : List (Instr × Nat) := [(.iconst 1, 1), (.ireturn, 1)]
def bk_Reader_instructionIn_28 : List (Instr × Nat) := [(.aload_n 2, 1), (.getstatic 241, 3), (.if_acmp .ne 12, 3), (.aload_n 1, 1), (.invokevirtual 244, 3), (.ifCond .ne 5, 3)]
def bk_Reader_instructionIn_44 : List (Instr × Nat) := [(.aload_n 0, 1), (.getfield 24, 3), (.aload_n 2, 1), (.lconst 0, 1), (.invokevirtual 170, 3), (.ifCond .ne 5, 3), (.iconst 2, 1), (.ireturn, 1)]
def bk_Reader_instructionIn_58 : List (Instr × Nat) := [(.aload_n 1, 1), (.iconst 4, 1), (.putfield 115, 3), (.aload_n 0, 1), (.aload_n 2, 1), (.invokevirtual 164, 3), (.putfield 53, 3), (.aload_n 2, 1), (.invokevirtual 247, 3), (.ifCond .eq 30, 3), (.aload_n 0, 1), (.aload_n 2, 1), (.getstatic 250, 3), (.if_acmp .ne 8, 3), (.bipush 9, 2), (.goto 5, 3)]
def bk_Reader_instructionIn_105 : List (Instr × Nat) := [(.aload_n 2, 1), (.getstatic 238, 3), (.if_acmp .ne 17, 3), (.aload_n 0, 1), (.aload_n 1, 1), (.getfield 187, 3), (.putfield 57, 3), (.aload_n 1, 1), (.bipush 8, 2), (.putfield 83, 3)]
def bk_Reader_instructionIn_126 : List (Instr × Nat) := [(.aload_n 2, 1), (.getstatic 241, 3), (.if_acmp .ne 16, 3), (.aload_n 0, 1), (.aload_n 1, 1), (.getfield 187, 3), (.putfield 57, 3), (.aload_n 0, 1), (.invokevirtual 121, 3), (.ireturn, 1)]
def bk_Reader_instructionIn_91 : List (Instr × Nat) := [(.bipush 8, 2)]
def bk_Reader_instructionIn_93 : List (Instr × Nat) := [(.invokevirtual 105, 3), (.ifCond .eq 7, 3), (.iconst 0, 1), (.goto 4, 3)]
def bk_Reader_instructionIn_146 : List (Instr × Nat) := [(.iconst 0, 1), (.ireturn, 1)]
def bk_Reader_instructionIn_103 : List (Instr × Nat) := [(.iconst 2, 1)]
def bk_Reader_instructionIn_104 : List (Instr × Nat) := [(.ireturn, 1)]
theorem ca_Reader_instructionIn_0 : qz_ca yd_Reader_instructionIn.2.1 0 bk_Reader_instructionIn_0 := qz_cab_ok _ _ (by decide +kernel)
theorem ca_Reader_instructionIn_42 : qz_ca yd_Reader_instructionIn.2.1 42 bk_Reader_instructionIn_42 := qz_cab_ok _ _ (by decide +kernel)
theorem ca_Reader_instructionIn_28 : qz_ca yd_Reader_instructionIn.2.1 28 bk_Reader_instructionIn_28 := qz_cab_ok _ _ (by decide +kernel)
theorem ca_Reader_instructionIn_44 : qz_ca yd_Reader_instructionIn.2.1 44 bk_Reader_instructionIn_44 := qz_cab_ok _ _ (by decide +kernel)
theorem ca_Reader_instructionIn_58 : qz_ca yd_Reader_instructionIn.2.1 58 bk_Reader_instructionIn_58 := qz_cab_ok _ _ (by decide +kernel)
theorem ca_Reader_instructionIn_105 : qz_ca yd_Reader_instructionIn.2.1 105 bk_Reader_instructionIn_105 := qz_cab_ok _ _ (by decide +kernel)
theorem ca_Reader_instructionIn_126 : qz_ca yd_Reader_instructionIn.2.1 126 bk_Reader_instructionIn_126 := qz_cab_ok _ _ (by decide +kernel)
theorem ca_Reader_instructionIn_91 : qz_ca yd_Reader_instructionIn.2.1 91 bk_Reader_instructionIn_91 := qz_cab_ok _ _ (by decide +kernel)
theorem ca_Reader_instructionIn_93 : qz_ca yd_Reader_instructionIn.2.1 93 bk_Reader_instructionIn_93 := qz_cab_ok _ _ (by decide +kernel)
theorem ca_Reader_instructionIn_146 : qz_ca yd_Reader_instructionIn.2.1 146 bk_Reader_instructionIn_146 := qz_cab_ok _ _ (by decide +kernel)
theorem ca_Reader_instructionIn_103 : qz_ca yd_Reader_instructionIn.2.1 103 bk_Reader_instructionIn_103 := qz_cab_ok _ _ (by decide +kernel)
theorem ca_Reader_instructionIn_104 : qz_ca yd_Reader_instructionIn.2.1 104 bk_Reader_instructionIn_104 := qz_cab_ok _ _ (by decide +kernel)
set_option maxRecDepth 20000 in
theorem jb_Reader_instructionIn_42 (G : qz_G) (h : qz_H) : qz_J yd_Reader_instructionIn G bk_Reader_instructionIn_42 42 [qz_u, qz_u, qz_u] [] h 0 0 (fn_Reader_instructionIn_42 h) := by
  unfold fn_Reader_instructionIn_42 bk_Reader_instructionIn_42; exact
    qz_iconst rfl <|
    qz_ireturn ⟨rfl, rfl⟩ rfl
set_option maxRecDepth 20000 in
theorem jb_Reader_instructionIn_126 (G : qz_G) (l0 : Int) (l1 : Int) (l2 : Int) (h : qz_H) : qz_J yd_Reader_instructionIn G bk_Reader_instructionIn_126 126 [qz_r true 9 l0, qz_r false 5 l1, qz_r false 7 l2] [] h 0 0 (fn_Reader_instructionIn_126 l0 l1 l2 h) := by
  unfold fn_Reader_instructionIn_126 bk_Reader_instructionIn_126; exact
    qz_aload_n rfl <|
    qz_getsR sz_Op_END sl_Reader_241 rfl <|
    qz_acmp_ne rfl ca_Reader_instructionIn_146
      (qz_iconst rfl <|
        qz_ireturn ⟨rfl, rfl⟩ rfl)
      (qz_aload_n rfl <|
        qz_aload_n rfl <|
        qz_nnd 0 rfl <|
        qz_getI kg_5 fl_Reader_187 rfl rfl <|
        qz_putI kw_9 fp_Reader_57_Reader_instructionIn rfl rfl fun h1 =>
        qz_aload_n rfl <|
        qz_invvI [] rfl (cn_Reader_close l0 h1) mw_Reader_close vw_Reader_close ⟨_, rfl, rfl, by decide⟩ rfl rfl ln_Reader_121 rfl fun r2 h3 =>
        qz_ireturn ⟨rfl, rfl⟩ rfl)
set_option maxRecDepth 20000 in
theorem jb_Reader_instructionIn_104 (G : qz_G) (s0 : Int) (h : qz_H) : qz_J yd_Reader_instructionIn G bk_Reader_instructionIn_104 104 [qz_u, qz_u, qz_u] [qz_i s0] h 0 0 (fn_Reader_instructionIn_104 s0 h) := by
  unfold fn_Reader_instructionIn_104 bk_Reader_instructionIn_104; exact
    qz_ireturn ⟨rfl, rfl⟩ rfl
set_option maxRecDepth 20000 in
theorem jb_Reader_instructionIn_93 (G : qz_G) (s0 : Int) (s1 : Int) (h : qz_H) : qz_J yd_Reader_instructionIn G bk_Reader_instructionIn_93 93 [qz_u, qz_u, qz_u] [qz_i s1, qz_r true 9 s0] h 0 0 (fn_Reader_instructionIn_93 s0 s1 h) := by
  unfold fn_Reader_instructionIn_93 bk_Reader_instructionIn_93; exact
    qz_invvI [qz_i s1] rfl (cn_Reader_push s0 s1 h) mw_Reader_push vw_Reader_push ⟨_, rfl, rfl, by decide⟩ rfl rfl ln_Reader_105 rfl fun r1 h2 =>
    qz_if_eq rfl ca_Reader_instructionIn_103
      (qz_iconst rfl <|
        qz_fall rfl ca_Reader_instructionIn_104 <|
        qz_fgt [0, 0, 0] <| jb_Reader_instructionIn_104 G 2 h2)
      (qz_iconst rfl <|
        qz_goto rfl ca_Reader_instructionIn_104 <|
        qz_fgt [0, 0, 0] <| jb_Reader_instructionIn_104 G 0 h2)
set_option maxRecDepth 20000 in
theorem jb_Reader_instructionIn_44 (G : qz_G) (l0 : Int) (l1 : Int) (l2 : Int) (h : qz_H) : qz_J yd_Reader_instructionIn G bk_Reader_instructionIn_44 44 [qz_r true 9 l0, qz_r false 5 l1, qz_r false 7 l2] [] h 0 0 (fn_Reader_instructionIn_44 l0 l1 l2 h) := by
  unfold fn_Reader_instructionIn_44 bk_Reader_instructionIn_44; exact
    qz_aload_n rfl <|
    qz_getR (k1 := 6) kg_9 fl_Reader_24 rfl rfl <|
    qz_aload_n rfl <|
    qz_lconst rfl <|
    qz_nnd 2 rfl <|
    qz_invvI [qz_r false 7 l2, qz_j 0] rfl (cn_Module_add (h l0 4) l2 0 h) mw_Module_add vw_Module_add ⟨_, rfl, rfl, by decide⟩ rfl rfl ln_Reader_170 rfl fun r1 h2 =>
    qz_if_ne rfl ca_Reader_instructionIn_58
      (qz_aload_n rfl <|
        qz_iconst rfl <|
        qz_nnd 1 rfl <|
        qz_putI kw_5 fp_Reader_115_Reader_instructionIn rfl rfl fun h3 =>
        qz_aload_n rfl <|
        qz_aload_n rfl <|
        qz_nnd 0 rfl <|
        qz_invvI [] rfl (cn_Op_awaitsOperand l2 h3) mw_Op_awaitsOperand vw_Op_awaitsOperand ⟨_, rfl, rfl, by decide⟩ rfl rfl ln_Reader_164 rfl fun r4 h5 =>
        qz_putZ kw_9 fp_Reader_53_Reader_instructionIn rfl rfl fun h6 =>
        qz_aload_n rfl <|
        qz_nnd 0 rfl <|
        qz_invvI [] rfl (cn_Op_opensBlock l2 h6) mw_Op_opensBlock vw_Op_opensBlock ⟨_, rfl, rfl, by decide⟩ rfl rfl ln_Reader_247 rfl fun r7 h8 =>
        qz_if_eq rfl ca_Reader_instructionIn_105
          (qz_aload_n rfl <|
            qz_getsR sz_Op_ELSE sl_Reader_238 rfl <|
            qz_acmp_ne rfl ca_Reader_instructionIn_126
              (qz_fgt [1, 1, 1] <| jb_Reader_instructionIn_126 G l0 l1 l2 h8)
              (qz_aload_n rfl <|
                qz_aload_n rfl <|
                qz_nnd 0 rfl <|
                qz_getI kg_5 fl_Reader_187 rfl rfl <|
                qz_putI kw_9 fp_Reader_57_Reader_instructionIn rfl rfl fun h9 =>
                qz_aload_n rfl <|
                qz_bipush rfl <|
                qz_nnd 1 rfl <|
                qz_putI kw_5 fp_Reader_83_Reader_instructionIn rfl rfl fun h10 =>
                qz_fall rfl ca_Reader_instructionIn_126 <|
                qz_fgt [1, 1, 1] <| jb_Reader_instructionIn_126 G l0 l1 l2 h10))
          (qz_aload_n rfl <|
            qz_aload_n rfl <|
            qz_getsR sz_Op_IF sl_Reader_250 rfl <|
            qz_acmp_ne rfl ca_Reader_instructionIn_91
              (qz_bipush rfl <|
                qz_fall rfl ca_Reader_instructionIn_93 <|
                qz_fgt [0, 0, 0] <| jb_Reader_instructionIn_93 G l0 8 h8)
              (qz_bipush rfl <|
                qz_goto rfl ca_Reader_instructionIn_93 <|
                qz_fgt [0, 0, 0] <| jb_Reader_instructionIn_93 G l0 9 h8)))
      (qz_iconst rfl <|
        qz_ireturn ⟨rfl, rfl⟩ rfl)
set_option maxRecDepth 20000 in
theorem jb_Reader_instructionIn_28 (G : qz_G) (l0 : Int) (l1 : Int) (l2 : Int) (h : qz_H) : qz_J yd_Reader_instructionIn G bk_Reader_instructionIn_28 28 [qz_r true 9 l0, qz_r false 5 l1, qz_r false 7 l2] [] h 0 0 (fn_Reader_instructionIn_28 l0 l1 l2 h) := by
  unfold fn_Reader_instructionIn_28 bk_Reader_instructionIn_28; exact
    qz_aload_n rfl <|
    qz_getsR sz_Op_END sl_Reader_241 rfl <|
    qz_acmp_ne rfl ca_Reader_instructionIn_44
      (qz_fgt [1, 1, 1] <| jb_Reader_instructionIn_44 G l0 l1 l2 h)
      (qz_aload_n rfl <|
        qz_nnd 0 rfl <|
        qz_invvI [] rfl (cn_Level_isBlock l1 h) mw_Level_isBlock vw_Level_isBlock ⟨_, rfl, rfl, by decide⟩ rfl rfl ln_Reader_244 rfl fun r1 h2 =>
        qz_if_ne rfl ca_Reader_instructionIn_44
          (qz_fgt [1, 1, 1] <| jb_Reader_instructionIn_44 G l0 l1 l2 h2)
          (qz_fall rfl ca_Reader_instructionIn_42 <|
            qz_fgt [0, 0, 0] <| jb_Reader_instructionIn_42 G h2))
set_option maxRecDepth 20000 in
theorem cn_Reader_instructionIn (l0 : Int) (l1 : Int) (h : qz_H) : qz_C yd_Reader_instructionIn [qz_r true 9 l0, qz_r false 5 l1] h (fn_Reader_instructionIn l0 l1 h) := by
  refine qz_con (is := bk_Reader_instructionIn_0) (ls := [qz_r true 9 l0, qz_r false 5 l1, qz_u]) mw_Reader_instructionIn.2.2.2 ca_Reader_instructionIn_0 rfl rfl rfl fun G => ?_
  unfold fn_Reader_instructionIn bk_Reader_instructionIn_0; exact
    qz_aload_n rfl <|
    qz_getR (k1 := 10) kg_9 fl_Reader_33 rfl rfl <|
    qz_nnd 0 rfl <|
    qz_getR (k1 := 7) kg_10 fl_Reader_154 rfl rfl <|
    qz_astore_n (by decide) fun x1 =>
    qz_aload_n rfl <|
    qz_ifnull rfl ca_Reader_instructionIn_42
      (qz_fgt [0, 0, 0] <| jb_Reader_instructionIn_42 G h)
      (qz_aload_n rfl <|
        qz_getsR sz_Op_ELSE sl_Reader_238 rfl <|
        qz_acmp_ne rfl ca_Reader_instructionIn_28
          (qz_fgt [1, 1, 1] <| jb_Reader_instructionIn_28 G l0 l1 x1 h)
          (qz_aload_n rfl <|
            qz_nnd 0 rfl <|
            qz_getI kg_5 fl_Reader_83 rfl rfl <|
            qz_bipush rfl <|
            qz_icmp_ne rfl ca_Reader_instructionIn_42
              (qz_fgt [0, 0, 0] <| jb_Reader_instructionIn_42 G h)
              (qz_fall rfl ca_Reader_instructionIn_28 <|
                qz_fgt [1, 1, 1] <| jb_Reader_instructionIn_28 G l0 l1 x1 h)))
def fn_Reader_functionNamed_53 (h : qz_H) : Option qz_R :=
  some ((-1), h)
def fn_Reader_functionNamed_47 (k2 : Int → Int → Int → qz_H → Option qz_R) (l0 : Int) (l1 : Int) (l2 : Int) (h : qz_H) : Option qz_R :=
  qz_bn (qz_w (l2 + 1)) fun x1 =>
  k2 l0 l1 x1 h
def fn_Reader_functionNamed_2_b (k2 : Int → Int → Int → qz_H → Option qz_R) (l0 : Int) (l1 : Int) (l2 : Int) (h : qz_H) : Option qz_R :=
  qz_ck ((h l0 4 : Int) ≠ 0) <|
  if h (h l0 4) 3 ≤ l2 then
    fn_Reader_functionNamed_53 h
  else
    if 4 ≤ l2 then
      fn_Reader_functionNamed_53 h
    else
      qz_ck ((h l0 2 : Int) ≠ 0) <|
      qz_ck ((0 : Int) ≤ l2 ∧ l2 < h (h l0 2) (-1)) <|
      if h (h l0 2) l2 = (-1) then
        fn_Reader_functionNamed_47 k2 l0 l1 l2 h
      else
        qz_ck ((h l0 2 : Int) ≠ 0) <|
        qz_ck ((0 : Int) ≤ l2 ∧ l2 < h (h l0 2) (-1)) <|
        qz_ck ((h l0 0 : Int) ≠ 0) <|
        qz_bc (fn_Scanner_same (h l0 0) (h (h l0 2) l2) l1 h) fun r1 h2 =>
        if r1 = 0 then
          fn_Reader_functionNamed_47 k2 l0 l1 l2 h2
        else
          some (l2, h2)
def fn_Reader_functionNamed_2 : Nat → Int → Int → Int → qz_H → Option qz_R
  | 0, _, _, _, _ => none
  | n + 1, l0, l1, l2, h => fn_Reader_functionNamed_2_b (fn_Reader_functionNamed_2 n) l0 l1 l2 h
set_option maxRecDepth 20000 in
def fn_Reader_functionNamed (l0 : Int) (l1 : Int) (h : qz_H) : Option qz_R :=
  qz_bn (0 : Int) fun x1 =>
  fn_Reader_functionNamed_2 qz_NF l0 l1 x1 h
def bk_Reader_functionNamed_0 : List (Instr × Nat) := [(.iconst 0, 1), (.istore_n 2, 1)]
def bk_Reader_functionNamed_2 : List (Instr × Nat) := [(.iload_n 2, 1), (.aload_n 0, 1), (.getfield 24, 3), (.getfield 235, 3), (.if_icmp .ge 43, 3), (.iload_n 2, 1), (.iconst 4, 1), (.if_icmp .ge 38, 3), (.aload_n 0, 1), (.getfield 17, 3), (.iload_n 2, 1), (.iaload, 1), (.iconst (-1), 1), (.if_icmp .eq 22, 3), (.aload_n 0, 1), (.getfield 33, 3), (.aload_n 0, 1), (.getfield 17, 3), (.iload_n 2, 1), (.iaload, 1), (.iload_n 1, 1), (.invokevirtual 227, 3), (.ifCond .eq 5, 3), (.iload_n 2, 1), (.ireturn, 1)]
def bk_Reader_functionNamed_53 : List (Instr × Nat) := [(.iconst (-1), 1), (.ireturn, 1)]
def bk_Reader_functionNamed_47 : List (Instr × Nat) := [(.iinc 2 1, 3), (.goto (-48), 3)]
theorem ca_Reader_functionNamed_0 : qz_ca yd_Reader_functionNamed.2.1 0 bk_Reader_functionNamed_0 := qz_cab_ok _ _ (by decide +kernel)
theorem ca_Reader_functionNamed_2 : qz_ca yd_Reader_functionNamed.2.1 2 bk_Reader_functionNamed_2 := qz_cab_ok _ _ (by decide +kernel)
theorem ca_Reader_functionNamed_53 : qz_ca yd_Reader_functionNamed.2.1 53 bk_Reader_functionNamed_53 := qz_cab_ok _ _ (by decide +kernel)
theorem ca_Reader_functionNamed_47 : qz_ca yd_Reader_functionNamed.2.1 47 bk_Reader_functionNamed_47 := qz_cab_ok _ _ (by decide +kernel)
set_option maxRecDepth 20000 in
theorem jb_Reader_functionNamed_53 (G : qz_G) (h : qz_H) : qz_J yd_Reader_functionNamed G bk_Reader_functionNamed_53 53 [qz_u, qz_u, qz_u] [] h 0 0 (fn_Reader_functionNamed_53 h) := by
  unfold fn_Reader_functionNamed_53 bk_Reader_functionNamed_53; exact
    qz_iconst rfl <|
    qz_ireturn ⟨rfl, rfl⟩ rfl
set_option maxRecDepth 20000 in
theorem jb_Reader_functionNamed_47 (G : qz_G) (k2 : Int → Int → Int → qz_H → Option qz_R) (jk2 : ∀ (l0 : Int) (l1 : Int) (l2 : Int) (h : qz_H), qz_J yd_Reader_functionNamed G bk_Reader_functionNamed_2 2 [qz_r true 9 l0, qz_i l1, qz_i l2] [] h 0 0 (k2 l0 l1 l2 h)) (l0 : Int) (l1 : Int) (l2 : Int) (h : qz_H) : qz_J yd_Reader_functionNamed G bk_Reader_functionNamed_47 47 [qz_r true 9 l0, qz_i l1, qz_i l2] [] h 0 0 (fn_Reader_functionNamed_47 k2 l0 l1 l2 h) := by
  unfold fn_Reader_functionNamed_47 bk_Reader_functionNamed_47; exact
    qz_iinc rfl (by decide) fun x1 =>
    qz_goto rfl ca_Reader_functionNamed_2 <|
    qz_fgt [1, 1, 1] <| jk2 l0 l1 x1 h
set_option maxRecDepth 20000 in
theorem jb_Reader_functionNamed_2_b (G : qz_G) (k2 : Int → Int → Int → qz_H → Option qz_R) (jk2 : ∀ (l0 : Int) (l1 : Int) (l2 : Int) (h : qz_H), qz_J yd_Reader_functionNamed G bk_Reader_functionNamed_2 2 [qz_r true 9 l0, qz_i l1, qz_i l2] [] h 0 0 (k2 l0 l1 l2 h)) (l0 : Int) (l1 : Int) (l2 : Int) (h : qz_H) : qz_J yd_Reader_functionNamed G bk_Reader_functionNamed_2 2 [qz_r true 9 l0, qz_i l1, qz_i l2] [] h 0 0 (fn_Reader_functionNamed_2_b k2 l0 l1 l2 h) := by
  unfold fn_Reader_functionNamed_2_b bk_Reader_functionNamed_2; exact
    qz_iload_n rfl <|
    qz_aload_n rfl <|
    qz_getR (k1 := 6) kg_9 fl_Reader_24 rfl rfl <|
    qz_nnd 0 rfl <|
    qz_getI kg_6 fl_Reader_235 rfl rfl <|
    qz_icmp_ge rfl ca_Reader_functionNamed_53
      (qz_fgt [0, 0, 0] <| jb_Reader_functionNamed_53 G h)
      (qz_iload_n rfl <|
        qz_iconst rfl <|
        qz_icmp_ge rfl ca_Reader_functionNamed_53
          (qz_fgt [0, 0, 0] <| jb_Reader_functionNamed_53 G h)
          (qz_aload_n rfl <|
            qz_getR (k1 := 40) kg_9 fl_Reader_17 rfl rfl <|
            qz_iload_n rfl <|
            qz_nnd 1 rfl <|
            qz_iald (k0 := 40) rfl rfl rfl <|
            qz_iconst rfl <|
            qz_icmp_eq rfl ca_Reader_functionNamed_47
              (qz_fgt [1, 1, 1] <| jb_Reader_functionNamed_47 G k2 jk2 l0 l1 l2 h)
              (qz_aload_n rfl <|
                qz_getR (k1 := 10) kg_9 fl_Reader_33 rfl rfl <|
                qz_aload_n rfl <|
                qz_getR (k1 := 40) kg_9 fl_Reader_17 rfl rfl <|
                qz_iload_n rfl <|
                qz_nnd 1 rfl <|
                qz_iald (k0 := 40) rfl rfl rfl <|
                qz_iload_n rfl <|
                qz_nnd 2 rfl <|
                qz_invvI [qz_i (h (h l0 2) l2), qz_i l1] rfl (cn_Scanner_same (h l0 0) (h (h l0 2) l2) l1 h) mw_Scanner_same vw_Scanner_same ⟨_, rfl, rfl, by decide⟩ rfl rfl ln_Reader_227 rfl fun r1 h2 =>
                qz_if_eq rfl ca_Reader_functionNamed_47
                  (qz_fgt [1, 1, 1] <| jb_Reader_functionNamed_47 G k2 jk2 l0 l1 l2 h2)
                  (qz_iload_n rfl <|
                    qz_ireturn ⟨rfl, rfl⟩ rfl))))
theorem jb_Reader_functionNamed_2 (G : qz_G) : ∀ (n : Nat) (l0 l1 l2 : Int) (h : qz_H), qz_J yd_Reader_functionNamed G bk_Reader_functionNamed_2 2 [qz_r true 9 l0, qz_i l1, qz_i l2] [] h 0 0 (fn_Reader_functionNamed_2 n l0 l1 l2 h)
  | 0, _, _, _, _ => qz_none
  | n + 1, l0, l1, l2, h => jb_Reader_functionNamed_2_b G (fn_Reader_functionNamed_2 n) (jb_Reader_functionNamed_2 G n) l0 l1 l2 h
set_option maxRecDepth 20000 in
theorem cn_Reader_functionNamed (l0 : Int) (l1 : Int) (h : qz_H) : qz_C yd_Reader_functionNamed [qz_r true 9 l0, qz_i l1] h (fn_Reader_functionNamed l0 l1 h) := by
  refine qz_con (is := bk_Reader_functionNamed_0) (ls := [qz_r true 9 l0, qz_i l1, qz_u]) mw_Reader_functionNamed.2.2.2 ca_Reader_functionNamed_0 rfl rfl rfl fun G => ?_
  unfold fn_Reader_functionNamed bk_Reader_functionNamed_0; exact
    qz_iconst rfl <|
    qz_istore_n (by decide) fun x1 =>
    qz_fall rfl ca_Reader_functionNamed_2 <|
    qz_fgt [1, 1, 1] <| jb_Reader_functionNamed_2 G qz_NF l0 l1 x1 h
def fn_Reader_giveName_39 (h : qz_H) : Option qz_R :=
  some (1, h)
def fn_Reader_giveName_56 (l0 : Int) (l1 : Int) (h : qz_H) : Option qz_R :=
  qz_ck ((l1 : Int) ≠ 0) <|
  qz_ck ((0 : Int) < l1) <|
  qz_bn (qz_up h l1 1 1) fun h1 =>
  qz_ck ((h1 l0 0 : Int) ≠ 0) <|
  qz_ck ((l1 : Int) ≠ 0) <|
  qz_ck ((0 : Int) < l1) <|
  qz_bn (qz_up h1 l1 2 (h1 (h1 l0 0) 2)) fun h2 =>
  some (0, h2)
def fn_Reader_giveName_41 (l0 : Int) (l1 : Int) (l2 : Int) (h : qz_H) : Option qz_R :=
  if l2 = 0 then
    fn_Reader_giveName_56 l0 l1 h
  else
    qz_ck ((h l0 0 : Int) ≠ 0) <|
    qz_bc (fn_Reader_setFunctionName l0 (h (h l0 0) 2) h) fun _ h2 =>
    fn_Reader_giveName_56 l0 l1 h2
def fn_Reader_giveName_13 (l0 : Int) (l1 : Int) (s0 : Int) (h : qz_H) : Option qz_R :=
  qz_bn (s0 : Int) fun x1 =>
  qz_ck ((l1 : Int) ≠ 0) <|
  if ¬ h l1 1 = 0 then
    fn_Reader_giveName_39 h
  else
    if x1 = 0 then
      fn_Reader_giveName_41 l0 l1 x1 h
    else
      qz_ck ((h l0 0 : Int) ≠ 0) <|
      qz_bc (fn_Reader_functionNamed l0 (h (h l0 0) 2) h) fun r2 h3 =>
      if r2 < 0 then
        fn_Reader_giveName_41 l0 l1 x1 h3
      else
        fn_Reader_giveName_39 h3
set_option maxRecDepth 20000 in
def fn_Reader_giveName (l0 : Int) (l1 : Int) (h : qz_H) : Option qz_R :=
  qz_ck ((l1 : Int) ≠ 0) <|
  if ¬ h l1 0 = 3 then
    fn_Reader_giveName_13 l0 l1 0 h
  else
    fn_Reader_giveName_13 l0 l1 1 h
def bk_Reader_giveName_0 : List (Instr × Nat) := [(.aload_n 1, 1), (.getfield 83, 3), (.iconst 3, 1), (.if_icmp .ne 7, 3), (.iconst 1, 1), (.goto 4, 3)]
def bk_Reader_giveName_12 : List (Instr × Nat) := [(.iconst 0, 1)]
def bk_Reader_giveName_13 : List (Instr × Nat) := [(.istore_n 2, 1), (.aload_n 1, 1), (.getfield 115, 3), (.ifCond .ne 21, 3), (.iload_n 2, 1), (.ifCond .eq 19, 3), (.aload_n 0, 1), (.aload_n 0, 1), (.getfield 33, 3), (.getfield 63, 3), (.invokevirtual 231, 3), (.ifCond .lt 5, 3)]
def bk_Reader_giveName_39 : List (Instr × Nat) := [(.iconst 1, 1), (.ireturn, 1)]
def bk_Reader_giveName_41 : List (Instr × Nat) := [(.iload_n 2, 1), (.ifCond .eq 14, 3), (.aload_n 0, 1), (.aload_n 0, 1), (.getfield 33, 3), (.getfield 63, 3), (.invokevirtual 145, 3)]
def bk_Reader_giveName_56 : List (Instr × Nat) := [(.aload_n 1, 1), (.iconst 1, 1), (.putfield 115, 3), (.aload_n 1, 1), (.aload_n 0, 1), (.getfield 33, 3), (.getfield 63, 3), (.putfield 187, 3), (.iconst 0, 1), (.ireturn, 1)]
theorem ca_Reader_giveName_0 : qz_ca yd_Reader_giveName.2.1 0 bk_Reader_giveName_0 := qz_cab_ok _ _ (by decide +kernel)
theorem ca_Reader_giveName_12 : qz_ca yd_Reader_giveName.2.1 12 bk_Reader_giveName_12 := qz_cab_ok _ _ (by decide +kernel)
theorem ca_Reader_giveName_13 : qz_ca yd_Reader_giveName.2.1 13 bk_Reader_giveName_13 := qz_cab_ok _ _ (by decide +kernel)
theorem ca_Reader_giveName_39 : qz_ca yd_Reader_giveName.2.1 39 bk_Reader_giveName_39 := qz_cab_ok _ _ (by decide +kernel)
theorem ca_Reader_giveName_41 : qz_ca yd_Reader_giveName.2.1 41 bk_Reader_giveName_41 := qz_cab_ok _ _ (by decide +kernel)
theorem ca_Reader_giveName_56 : qz_ca yd_Reader_giveName.2.1 56 bk_Reader_giveName_56 := qz_cab_ok _ _ (by decide +kernel)
set_option maxRecDepth 20000 in
theorem jb_Reader_giveName_39 (G : qz_G) (h : qz_H) : qz_J yd_Reader_giveName G bk_Reader_giveName_39 39 [qz_u, qz_u, qz_u] [] h 0 0 (fn_Reader_giveName_39 h) := by
  unfold fn_Reader_giveName_39 bk_Reader_giveName_39; exact
    qz_iconst rfl <|
    qz_ireturn ⟨rfl, rfl⟩ rfl
set_option maxRecDepth 20000 in
theorem jb_Reader_giveName_56 (G : qz_G) (l0 : Int) (l1 : Int) (h : qz_H) : qz_J yd_Reader_giveName G bk_Reader_giveName_56 56 [qz_r true 9 l0, qz_r false 5 l1, qz_u] [] h 0 0 (fn_Reader_giveName_56 l0 l1 h) := by
  unfold fn_Reader_giveName_56 bk_Reader_giveName_56; exact
    qz_aload_n rfl <|
    qz_iconst rfl <|
    qz_nnd 1 rfl <|
    qz_putI kw_5 fp_Reader_115_Reader_giveName rfl rfl fun h1 =>
    qz_aload_n rfl <|
    qz_aload_n rfl <|
    qz_getR (k1 := 10) kg_9 fl_Reader_33 rfl rfl <|
    qz_nnd 0 rfl <|
    qz_getI kg_10 fl_Reader_63 rfl rfl <|
    qz_nnd 1 rfl <|
    qz_putI kw_5 fp_Reader_187_Reader_giveName rfl rfl fun h2 =>
    qz_iconst rfl <|
    qz_ireturn ⟨rfl, rfl⟩ rfl
set_option maxRecDepth 20000 in
theorem jb_Reader_giveName_41 (G : qz_G) (l0 : Int) (l1 : Int) (l2 : Int) (h : qz_H) : qz_J yd_Reader_giveName G bk_Reader_giveName_41 41 [qz_r true 9 l0, qz_r false 5 l1, qz_i l2] [] h 0 0 (fn_Reader_giveName_41 l0 l1 l2 h) := by
  unfold fn_Reader_giveName_41 bk_Reader_giveName_41; exact
    qz_iload_n rfl <|
    qz_if_eq rfl ca_Reader_giveName_56
      (qz_fgt [1, 1, 0] <| jb_Reader_giveName_56 G l0 l1 h)
      (qz_aload_n rfl <|
        qz_aload_n rfl <|
        qz_getR (k1 := 10) kg_9 fl_Reader_33 rfl rfl <|
        qz_nnd 0 rfl <|
        qz_getI kg_10 fl_Reader_63 rfl rfl <|
        qz_invvV [qz_i (h (h l0 0) 2)] rfl (cn_Reader_setFunctionName l0 (h (h l0 0) 2) h) mw_Reader_setFunctionName vw_Reader_setFunctionName ⟨_, rfl, rfl, by decide⟩ rfl rfl ln_Reader_145 rfl fun _ h2 =>
        qz_fall rfl ca_Reader_giveName_56 <|
        qz_fgt [1, 1, 0] <| jb_Reader_giveName_56 G l0 l1 h2)
set_option maxRecDepth 20000 in
theorem jb_Reader_giveName_13 (G : qz_G) (l0 : Int) (l1 : Int) (s0 : Int) (h : qz_H) : qz_J yd_Reader_giveName G bk_Reader_giveName_13 13 [qz_r true 9 l0, qz_r false 5 l1, qz_u] [qz_i s0] h 0 0 (fn_Reader_giveName_13 l0 l1 s0 h) := by
  unfold fn_Reader_giveName_13 bk_Reader_giveName_13; exact
    qz_istore_n (by decide) fun x1 =>
    qz_aload_n rfl <|
    qz_nnd 0 rfl <|
    qz_getI kg_5 fl_Reader_115 rfl rfl <|
    qz_if_ne rfl ca_Reader_giveName_39
      (qz_fgt [0, 0, 0] <| jb_Reader_giveName_39 G h)
      (qz_iload_n rfl <|
        qz_if_eq rfl ca_Reader_giveName_41
          (qz_fgt [1, 1, 1] <| jb_Reader_giveName_41 G l0 l1 x1 h)
          (qz_aload_n rfl <|
            qz_aload_n rfl <|
            qz_getR (k1 := 10) kg_9 fl_Reader_33 rfl rfl <|
            qz_nnd 0 rfl <|
            qz_getI kg_10 fl_Reader_63 rfl rfl <|
            qz_invvI [qz_i (h (h l0 0) 2)] rfl (cn_Reader_functionNamed l0 (h (h l0 0) 2) h) mw_Reader_functionNamed vw_Reader_functionNamed ⟨_, rfl, rfl, by decide⟩ rfl rfl ln_Reader_231 rfl fun r2 h3 =>
            qz_if_lt rfl ca_Reader_giveName_41
              (qz_fgt [1, 1, 1] <| jb_Reader_giveName_41 G l0 l1 x1 h3)
              (qz_fall rfl ca_Reader_giveName_39 <|
                qz_fgt [0, 0, 0] <| jb_Reader_giveName_39 G h3)))
set_option maxRecDepth 20000 in
theorem cn_Reader_giveName (l0 : Int) (l1 : Int) (h : qz_H) : qz_C yd_Reader_giveName [qz_r true 9 l0, qz_r false 5 l1] h (fn_Reader_giveName l0 l1 h) := by
  refine qz_con (is := bk_Reader_giveName_0) (ls := [qz_r true 9 l0, qz_r false 5 l1, qz_u]) mw_Reader_giveName.2.2.2 ca_Reader_giveName_0 rfl rfl rfl fun G => ?_
  unfold fn_Reader_giveName bk_Reader_giveName_0; exact
    qz_aload_n rfl <|
    qz_nnd 0 rfl <|
    qz_getI kg_5 fl_Reader_83 rfl rfl <|
    qz_iconst rfl <|
    qz_icmp_ne rfl ca_Reader_giveName_12
      (qz_iconst rfl <|
        qz_fall rfl ca_Reader_giveName_13 <|
        qz_fgt [1, 1, 0] <| jb_Reader_giveName_13 G l0 l1 0 h)
      (qz_iconst rfl <|
        qz_goto rfl ca_Reader_giveName_13 <|
        qz_fgt [1, 1, 0] <| jb_Reader_giveName_13 G l0 l1 1 h)
def fn_Reader_inBody_110 (s0 : Int) (h : qz_H) : Option qz_R :=
  some (s0, h)
def fn_Reader_inBody_109 (h : qz_H) : Option qz_R :=
  fn_Reader_inBody_110 1 h
def fn_Reader_inBody_53 (s0 : Int) (h : qz_H) : Option qz_R :=
  some (s0, h)
set_option maxRecDepth 20000 in
def fn_Reader_inBody (l0 : Int) (l1 : Int) (h : qz_H) : Option qz_R :=
  qz_bn (h l0 7 : Int) fun x1 =>
  qz_ck ((0 : Int) < l0) <|
  qz_bn (qz_up h l0 7 (-2)) fun h2 =>
  qz_ck ((h2 l0 0 : Int) ≠ 0) <|
  if ¬ h2 (h2 l0 0) 1 = 0 then
    qz_ck ((h2 l0 0 : Int) ≠ 0) <|
    if ¬ h2 (h2 l0 0) 1 = 1 then
      qz_ck ((h2 l0 0 : Int) ≠ 0) <|
      qz_bc (fn_Scanner_isName (h2 l0 0) h2) fun r3 h4 =>
      if ¬ r3 = 0 then
        if ¬ x1 = (-2) then
          if x1 = (-1) then
            fn_Reader_inBody_109 h4
          else
            qz_ck ((h4 l0 0 : Int) ≠ 0) <|
            qz_ck ((h4 l0 0 : Int) ≠ 0) <|
            qz_bc (fn_Scanner_same (h4 l0 0) x1 (h4 (h4 l0 0) 2) h4) fun r5 h6 =>
            if r5 = 0 then
              fn_Reader_inBody_109 h6
            else
              fn_Reader_inBody_110 0 h6
        else
          qz_bc (fn_Reader_giveName l0 l1 h4) fun r7 h8 =>
          some (r7, h8)
      else
        qz_bc (fn_Reader_instructionIn l0 l1 h4) fun r9 h10 =>
        some (r9, h10)
    else
      qz_ck ((l1 : Int) ≠ 0) <|
      if ¬ h2 l1 0 = 3 then
        fn_Reader_inBody_53 1 h2
      else
        qz_bc (fn_Reader_close l0 h2) fun r11 h12 =>
        fn_Reader_inBody_53 r11 h12
  else
    qz_bc (fn_Reader_open l0 h2) fun r13 h14 =>
    some (r13, h14)
def bk_Reader_inBody_0 : List (Instr × Nat) := [(.aload_n 0, 1), (.getfield 57, 3), (.istore_n 2, 1), (.aload_n 0, 1), (.bipush (-2), 2), (.putfield 57, 3), (.aload_n 0, 1), (.getfield 33, 3), (.getfield 73, 3), (.ifCond .ne 8, 3), (.aload_n 0, 1), (.invokevirtual 118, 3), (.ireturn, 1)]
def bk_Reader_inBody_26 : List (Instr × Nat) := [(.aload_n 0, 1), (.getfield 33, 3), (.getfield 73, 3), (.iconst 1, 1), (.if_icmp .ne 20, 3), (.aload_n 1, 1), (.getfield 83, 3), (.iconst 3, 1), (.if_icmp .ne 10, 3), (.aload_n 0, 1), (.invokevirtual 121, 3), (.goto 4, 3)]
def bk_Reader_inBody_54 : List (Instr × Nat) := [(.aload_n 0, 1), (.getfield 33, 3), (.invokevirtual 181, 3), (.ifCond .ne 9, 3), (.aload_n 0, 1), (.aload_n 1, 1), (.invokevirtual 221, 3), (.ireturn, 1)]
def bk_Reader_inBody_70 : List (Instr × Nat) := [(.iload_n 2, 1), (.bipush (-2), 2), (.if_icmp .ne 9, 3), (.aload_n 0, 1), (.aload_n 1, 1), (.invokevirtual 224, 3), (.ireturn, 1)]
def bk_Reader_inBody_82 : List (Instr × Nat) := [(.iload_n 2, 1), (.iconst (-1), 1), (.if_icmp .eq 25, 3), (.aload_n 0, 1), (.getfield 33, 3), (.iload_n 2, 1), (.aload_n 0, 1), (.getfield 33, 3), (.getfield 63, 3), (.invokevirtual 227, 3), (.ifCond .eq 7, 3), (.iconst 0, 1), (.goto 4, 3)]
def bk_Reader_inBody_109 : List (Instr × Nat) := [(.iconst 1, 1)]
def bk_Reader_inBody_110 : List (Instr × Nat) := [(.ireturn, 1)]
def bk_Reader_inBody_52 : List (Instr × Nat) := [(.iconst 1, 1)]
def bk_Reader_inBody_53 : List (Instr × Nat) := [(.ireturn, 1)]
theorem ca_Reader_inBody_0 : qz_ca yd_Reader_inBody.2.1 0 bk_Reader_inBody_0 := qz_cab_ok _ _ (by decide +kernel)
theorem ca_Reader_inBody_26 : qz_ca yd_Reader_inBody.2.1 26 bk_Reader_inBody_26 := qz_cab_ok _ _ (by decide +kernel)
theorem ca_Reader_inBody_54 : qz_ca yd_Reader_inBody.2.1 54 bk_Reader_inBody_54 := qz_cab_ok _ _ (by decide +kernel)
theorem ca_Reader_inBody_70 : qz_ca yd_Reader_inBody.2.1 70 bk_Reader_inBody_70 := qz_cab_ok _ _ (by decide +kernel)
theorem ca_Reader_inBody_82 : qz_ca yd_Reader_inBody.2.1 82 bk_Reader_inBody_82 := qz_cab_ok _ _ (by decide +kernel)
theorem ca_Reader_inBody_109 : qz_ca yd_Reader_inBody.2.1 109 bk_Reader_inBody_109 := qz_cab_ok _ _ (by decide +kernel)
theorem ca_Reader_inBody_110 : qz_ca yd_Reader_inBody.2.1 110 bk_Reader_inBody_110 := qz_cab_ok _ _ (by decide +kernel)
theorem ca_Reader_inBody_52 : qz_ca yd_Reader_inBody.2.1 52 bk_Reader_inBody_52 := qz_cab_ok _ _ (by decide +kernel)
theorem ca_Reader_inBody_53 : qz_ca yd_Reader_inBody.2.1 53 bk_Reader_inBody_53 := qz_cab_ok _ _ (by decide +kernel)
set_option maxRecDepth 20000 in
theorem jb_Reader_inBody_110 (G : qz_G) (s0 : Int) (h : qz_H) : qz_J yd_Reader_inBody G bk_Reader_inBody_110 110 [qz_u, qz_u, qz_u] [qz_i s0] h 0 0 (fn_Reader_inBody_110 s0 h) := by
  unfold fn_Reader_inBody_110 bk_Reader_inBody_110; exact
    qz_ireturn ⟨rfl, rfl⟩ rfl
set_option maxRecDepth 20000 in
theorem jb_Reader_inBody_109 (G : qz_G) (h : qz_H) : qz_J yd_Reader_inBody G bk_Reader_inBody_109 109 [qz_u, qz_u, qz_u] [] h 0 0 (fn_Reader_inBody_109 h) := by
  unfold fn_Reader_inBody_109 bk_Reader_inBody_109; exact
    qz_iconst rfl <|
    qz_fall rfl ca_Reader_inBody_110 <|
    qz_fgt [0, 0, 0] <| jb_Reader_inBody_110 G 1 h
set_option maxRecDepth 20000 in
theorem jb_Reader_inBody_53 (G : qz_G) (s0 : Int) (h : qz_H) : qz_J yd_Reader_inBody G bk_Reader_inBody_53 53 [qz_u, qz_u, qz_u] [qz_i s0] h 0 0 (fn_Reader_inBody_53 s0 h) := by
  unfold fn_Reader_inBody_53 bk_Reader_inBody_53; exact
    qz_ireturn ⟨rfl, rfl⟩ rfl
set_option maxRecDepth 20000 in
theorem cn_Reader_inBody (l0 : Int) (l1 : Int) (h : qz_H) : qz_C yd_Reader_inBody [qz_r true 9 l0, qz_r false 5 l1] h (fn_Reader_inBody l0 l1 h) := by
  refine qz_con (is := bk_Reader_inBody_0) (ls := [qz_r true 9 l0, qz_r false 5 l1, qz_u]) mw_Reader_inBody.2.2.2 ca_Reader_inBody_0 rfl rfl rfl fun G => ?_
  unfold fn_Reader_inBody bk_Reader_inBody_0; exact
    qz_aload_n rfl <|
    qz_getI kg_9 fl_Reader_57 rfl rfl <|
    qz_istore_n (by decide) fun x1 =>
    qz_aload_n rfl <|
    qz_bipush rfl <|
    qz_putI kw_9 fp_Reader_57_Reader_inBody rfl rfl fun h2 =>
    qz_aload_n rfl <|
    qz_getR (k1 := 10) kg_9 fl_Reader_33 rfl rfl <|
    qz_nnd 0 rfl <|
    qz_getI kg_10 fl_Reader_73 rfl rfl <|
    qz_if_ne rfl ca_Reader_inBody_26
      (qz_aload_n rfl <|
        qz_getR (k1 := 10) kg_9 fl_Reader_33 rfl rfl <|
        qz_nnd 0 rfl <|
        qz_getI kg_10 fl_Reader_73 rfl rfl <|
        qz_iconst rfl <|
        qz_icmp_ne rfl ca_Reader_inBody_54
          (qz_aload_n rfl <|
            qz_getR (k1 := 10) kg_9 fl_Reader_33 rfl rfl <|
            qz_nnd 0 rfl <|
            qz_invvI [] rfl (cn_Scanner_isName (h2 l0 0) h2) mw_Scanner_isName vw_Scanner_isName ⟨_, rfl, rfl, by decide⟩ rfl rfl ln_Reader_181 rfl fun r3 h4 =>
            qz_if_ne rfl ca_Reader_inBody_70
              (qz_iload_n rfl <|
                qz_bipush rfl <|
                qz_icmp_ne rfl ca_Reader_inBody_82
                  (qz_iload_n rfl <|
                    qz_iconst rfl <|
                    qz_icmp_eq rfl ca_Reader_inBody_109
                      (qz_fgt [0, 0, 0] <| jb_Reader_inBody_109 G h4)
                      (qz_aload_n rfl <|
                        qz_getR (k1 := 10) kg_9 fl_Reader_33 rfl rfl <|
                        qz_iload_n rfl <|
                        qz_aload_n rfl <|
                        qz_getR (k1 := 10) kg_9 fl_Reader_33 rfl rfl <|
                        qz_nnd 0 rfl <|
                        qz_getI kg_10 fl_Reader_63 rfl rfl <|
                        qz_nnd 2 rfl <|
                        qz_invvI [qz_i x1, qz_i (h4 (h4 l0 0) 2)] rfl (cn_Scanner_same (h4 l0 0) x1 (h4 (h4 l0 0) 2) h4) mw_Scanner_same vw_Scanner_same ⟨_, rfl, rfl, by decide⟩ rfl rfl ln_Reader_227 rfl fun r5 h6 =>
                        qz_if_eq rfl ca_Reader_inBody_109
                          (qz_fgt [0, 0, 0] <| jb_Reader_inBody_109 G h6)
                          (qz_iconst rfl <|
                            qz_goto rfl ca_Reader_inBody_110 <|
                            qz_fgt [0, 0, 0] <| jb_Reader_inBody_110 G 0 h6)))
                  (qz_aload_n rfl <|
                    qz_aload_n rfl <|
                    qz_invvI [qz_r false 5 l1] rfl (cn_Reader_giveName l0 l1 h4) mw_Reader_giveName vw_Reader_giveName ⟨_, rfl, rfl, by decide⟩ rfl rfl ln_Reader_224 rfl fun r7 h8 =>
                    qz_ireturn ⟨rfl, rfl⟩ rfl))
              (qz_aload_n rfl <|
                qz_aload_n rfl <|
                qz_invvI [qz_r false 5 l1] rfl (cn_Reader_instructionIn l0 l1 h4) mw_Reader_instructionIn vw_Reader_instructionIn ⟨_, rfl, rfl, by decide⟩ rfl rfl ln_Reader_221 rfl fun r9 h10 =>
                qz_ireturn ⟨rfl, rfl⟩ rfl))
          (qz_aload_n rfl <|
            qz_nnd 0 rfl <|
            qz_getI kg_5 fl_Reader_83 rfl rfl <|
            qz_iconst rfl <|
            qz_icmp_ne rfl ca_Reader_inBody_52
              (qz_iconst rfl <|
                qz_fall rfl ca_Reader_inBody_53 <|
                qz_fgt [0, 0, 0] <| jb_Reader_inBody_53 G 1 h2)
              (qz_aload_n rfl <|
                qz_invvI [] rfl (cn_Reader_close l0 h2) mw_Reader_close vw_Reader_close ⟨_, rfl, rfl, by decide⟩ rfl rfl ln_Reader_121 rfl fun r11 h12 =>
                qz_goto rfl ca_Reader_inBody_53 <|
                qz_fgt [0, 0, 0] <| jb_Reader_inBody_53 G r11 h12)))
      (qz_aload_n rfl <|
        qz_invvI [] rfl (cn_Reader_open l0 h2) mw_Reader_open vw_Reader_open ⟨_, rfl, rfl, by decide⟩ rfl rfl ln_Reader_118 rfl fun r13 h14 =>
        qz_ireturn ⟨rfl, rfl⟩ rfl)
set_option maxRecDepth 20000 in
def fn_Reader_judge (l0 : Int) (l1 : Int) (h : qz_H) : Option qz_R :=
  if h l0 6 = 0 then
    qz_ck ((l1 : Int) ≠ 0) <|
    qz_swt (h l1 0) [
      (0,
        qz_bc (fn_Reader_inText l0 l1 h) fun r1 h2 =>
        some (r1, h2)),
      (1,
        qz_bc (fn_Reader_behindOpening l0 l1 h) fun r3 h4 =>
        some (r3, h4)),
      (2,
        qz_bc (fn_Reader_inModule l0 h) fun r5 h6 =>
        some (r5, h6)),
      (3,
        qz_bc (fn_Reader_inBody l0 l1 h) fun r7 h8 =>
        some (r7, h8)),
      (4,
        qz_bc (fn_Reader_inDeclaration l0 l1 h) fun r9 h10 =>
        some (r9, h10)),
      (5,
        qz_bc (fn_Reader_inDeclaration l0 l1 h) fun r11 h12 =>
        some (r11, h12)),
      (6,
        qz_bc (fn_Reader_inResult l0 l1 h) fun r13 h14 =>
        some (r13, h14)),
      (7,
        qz_bc (fn_Reader_inFolded l0 l1 h) fun r15 h16 =>
        some (r15, h16))] <|
      qz_bc (fn_Reader_inBody l0 l1 h) fun r17 h18 =>
      some (r17, h18)
  else
    qz_bc (fn_Reader_inOperand l0 l1 h) fun r19 h20 =>
    some (r19, h20)
def bk_Reader_judge_0 : List (Instr × Nat) := [(.aload_n 0, 1), (.getfield 53, 3), (.ifCond .eq 9, 3), (.aload_n 0, 1), (.aload_n 1, 1), (.invokevirtual 80, 3), (.ireturn, 1)]
def bk_Reader_judge_13 : List (Instr × Nat) := [(.aload_n 1, 1), (.getfield 83, 3), (.tableswitch 82 0 7 #[47, 53, 59, 82, 64, 64, 70, 76], 47)]
def bk_Reader_judge_64 : List (Instr × Nat) := [(.aload_n 0, 1), (.aload_n 1, 1), (.invokevirtual 84, 3), (.ireturn, 1)]
def bk_Reader_judge_70 : List (Instr × Nat) := [(.aload_n 0, 1), (.aload_n 1, 1), (.invokevirtual 87, 3), (.ireturn, 1)]
def bk_Reader_judge_76 : List (Instr × Nat) := [(.aload_n 0, 1), (.invokevirtual 90, 3), (.ireturn, 1)]
def bk_Reader_judge_99 : List (Instr × Nat) := [(.aload_n 0, 1), (.aload_n 1, 1), (.invokevirtual 102, 3), (.ireturn, 1)]
def bk_Reader_judge_81 : List (Instr × Nat) := [(.aload_n 0, 1), (.aload_n 1, 1), (.invokevirtual 93, 3), (.ireturn, 1)]
def bk_Reader_judge_87 : List (Instr × Nat) := [(.aload_n 0, 1), (.aload_n 1, 1), (.invokevirtual 96, 3), (.ireturn, 1)]
def bk_Reader_judge_93 : List (Instr × Nat) := [(.aload_n 0, 1), (.aload_n 1, 1), (.invokevirtual 99, 3), (.ireturn, 1)]
theorem ca_Reader_judge_0 : qz_ca yd_Reader_judge.2.1 0 bk_Reader_judge_0 := qz_cab_ok _ _ (by decide +kernel)
theorem ca_Reader_judge_13 : qz_ca yd_Reader_judge.2.1 13 bk_Reader_judge_13 := qz_cab_ok _ _ (by decide +kernel)
theorem ca_Reader_judge_64 : qz_ca yd_Reader_judge.2.1 64 bk_Reader_judge_64 := qz_cab_ok _ _ (by decide +kernel)
theorem ca_Reader_judge_70 : qz_ca yd_Reader_judge.2.1 70 bk_Reader_judge_70 := qz_cab_ok _ _ (by decide +kernel)
theorem ca_Reader_judge_76 : qz_ca yd_Reader_judge.2.1 76 bk_Reader_judge_76 := qz_cab_ok _ _ (by decide +kernel)
theorem ca_Reader_judge_99 : qz_ca yd_Reader_judge.2.1 99 bk_Reader_judge_99 := qz_cab_ok _ _ (by decide +kernel)
theorem ca_Reader_judge_81 : qz_ca yd_Reader_judge.2.1 81 bk_Reader_judge_81 := qz_cab_ok _ _ (by decide +kernel)
theorem ca_Reader_judge_87 : qz_ca yd_Reader_judge.2.1 87 bk_Reader_judge_87 := qz_cab_ok _ _ (by decide +kernel)
theorem ca_Reader_judge_93 : qz_ca yd_Reader_judge.2.1 93 bk_Reader_judge_93 := qz_cab_ok _ _ (by decide +kernel)
set_option maxRecDepth 20000 in
theorem cn_Reader_judge (l0 : Int) (l1 : Int) (h : qz_H) : qz_C yd_Reader_judge [qz_r true 9 l0, qz_r false 5 l1] h (fn_Reader_judge l0 l1 h) := by
  refine qz_con (is := bk_Reader_judge_0) (ls := [qz_r true 9 l0, qz_r false 5 l1]) mw_Reader_judge.2.2.2 ca_Reader_judge_0 rfl rfl rfl fun G => ?_
  unfold fn_Reader_judge bk_Reader_judge_0; exact
    qz_aload_n rfl <|
    qz_getI kg_9 fl_Reader_53 rfl rfl <|
    qz_if_eq rfl ca_Reader_judge_13
      (qz_aload_n rfl <|
        qz_nnd 0 rfl <|
        qz_getI kg_5 fl_Reader_83 rfl rfl <|
        qz_tsw [(0, 64, bk_Reader_judge_64), (1, 70, bk_Reader_judge_70), (2, 76, bk_Reader_judge_76), (3, 99, bk_Reader_judge_99), (4, 81, bk_Reader_judge_81), (5, 81, bk_Reader_judge_81), (6, 87, bk_Reader_judge_87), (7, 93, bk_Reader_judge_93)] ca_Reader_judge_99 rfl rfl rfl
          ⟨ca_Reader_judge_64, qz_aload_n rfl <|
            qz_aload_n rfl <|
            qz_invvI [qz_r false 5 l1] rfl (cn_Reader_inText l0 l1 h) mw_Reader_inText vw_Reader_inText ⟨_, rfl, rfl, by decide⟩ rfl rfl ln_Reader_84 rfl fun r1 h2 =>
            qz_ireturn ⟨rfl, rfl⟩ rfl,
          ⟨ca_Reader_judge_70, qz_aload_n rfl <|
            qz_aload_n rfl <|
            qz_invvI [qz_r false 5 l1] rfl (cn_Reader_behindOpening l0 l1 h) mw_Reader_behindOpening vw_Reader_behindOpening ⟨_, rfl, rfl, by decide⟩ rfl rfl ln_Reader_87 rfl fun r3 h4 =>
            qz_ireturn ⟨rfl, rfl⟩ rfl,
          ⟨ca_Reader_judge_76, qz_aload_n rfl <|
            qz_invvI [] rfl (cn_Reader_inModule l0 h) mw_Reader_inModule vw_Reader_inModule ⟨_, rfl, rfl, by decide⟩ rfl rfl ln_Reader_90 rfl fun r5 h6 =>
            qz_ireturn ⟨rfl, rfl⟩ rfl,
          ⟨ca_Reader_judge_99, qz_aload_n rfl <|
            qz_aload_n rfl <|
            qz_invvI [qz_r false 5 l1] rfl (cn_Reader_inBody l0 l1 h) mw_Reader_inBody vw_Reader_inBody ⟨_, rfl, rfl, by decide⟩ rfl rfl ln_Reader_102 rfl fun r7 h8 =>
            qz_ireturn ⟨rfl, rfl⟩ rfl,
          ⟨ca_Reader_judge_81, qz_aload_n rfl <|
            qz_aload_n rfl <|
            qz_invvI [qz_r false 5 l1] rfl (cn_Reader_inDeclaration l0 l1 h) mw_Reader_inDeclaration vw_Reader_inDeclaration ⟨_, rfl, rfl, by decide⟩ rfl rfl ln_Reader_93 rfl fun r9 h10 =>
            qz_ireturn ⟨rfl, rfl⟩ rfl,
          ⟨ca_Reader_judge_81, qz_aload_n rfl <|
            qz_aload_n rfl <|
            qz_invvI [qz_r false 5 l1] rfl (cn_Reader_inDeclaration l0 l1 h) mw_Reader_inDeclaration vw_Reader_inDeclaration ⟨_, rfl, rfl, by decide⟩ rfl rfl ln_Reader_93 rfl fun r11 h12 =>
            qz_ireturn ⟨rfl, rfl⟩ rfl,
          ⟨ca_Reader_judge_87, qz_aload_n rfl <|
            qz_aload_n rfl <|
            qz_invvI [qz_r false 5 l1] rfl (cn_Reader_inResult l0 l1 h) mw_Reader_inResult vw_Reader_inResult ⟨_, rfl, rfl, by decide⟩ rfl rfl ln_Reader_96 rfl fun r13 h14 =>
            qz_ireturn ⟨rfl, rfl⟩ rfl,
          ⟨ca_Reader_judge_93, qz_aload_n rfl <|
            qz_aload_n rfl <|
            qz_invvI [qz_r false 5 l1] rfl (cn_Reader_inFolded l0 l1 h) mw_Reader_inFolded vw_Reader_inFolded ⟨_, rfl, rfl, by decide⟩ rfl rfl ln_Reader_99 rfl fun r15 h16 =>
            qz_ireturn ⟨rfl, rfl⟩ rfl,
          trivial⟩⟩⟩⟩⟩⟩⟩⟩
          (qz_aload_n rfl <|
            qz_aload_n rfl <|
            qz_invvI [qz_r false 5 l1] rfl (cn_Reader_inBody l0 l1 h) mw_Reader_inBody vw_Reader_inBody ⟨_, rfl, rfl, by decide⟩ rfl rfl ln_Reader_102 rfl fun r17 h18 =>
            qz_ireturn ⟨rfl, rfl⟩ rfl))
      (qz_aload_n rfl <|
        qz_aload_n rfl <|
        qz_invvI [qz_r false 5 l1] rfl (cn_Reader_inOperand l0 l1 h) mw_Reader_inOperand vw_Reader_inOperand ⟨_, rfl, rfl, by decide⟩ rfl rfl ln_Reader_80 rfl fun r19 h20 =>
        qz_ireturn ⟨rfl, rfl⟩ rfl)
def fn_Reader_findFunctions_117 (l1 : Int) (h : qz_H) : Option qz_R :=
  some (l1, h)
def fn_Reader_findFunctions_111 (k4 : Int → Int → Int → qz_H → Option qz_R) (l0 : Int) (l1 : Int) (l2 : Int) (h : qz_H) : Option qz_R :=
  qz_bn (qz_w (l2 + 1)) fun x1 =>
  k4 l0 l1 x1 h
def fn_Reader_findFunctions_106 (k4 : Int → Int → Int → qz_H → Option qz_R) (l0 : Int) (l2 : Int) (s0 : Int) (s1 : Int) (h : qz_H) : Option qz_R :=
  qz_ck ((0 : Int) < s0) <|
  qz_bn (qz_up h s0 9 s1) fun h1 =>
  qz_bn (1 : Int) fun x2 =>
  fn_Reader_findFunctions_111 k4 l0 x2 l2 h1
def fn_Reader_findFunctions_4_b (k4 : Int → Int → Int → qz_H → Option qz_R) (l0 : Int) (l1 : Int) (l2 : Int) (h : qz_H) : Option qz_R :=
  qz_ck ((h l0 4 : Int) ≠ 0) <|
  if h (h l0 4) 4 ≤ l2 then
    fn_Reader_findFunctions_117 l1 h
  else
    if 64 ≤ l2 then
      fn_Reader_findFunctions_117 l1 h
    else
      qz_ck ((h l0 4 : Int) ≠ 0) <|
      qz_ck ((h (h l0 4) 1 : Int) ≠ 0) <|
      qz_ck ((0 : Int) ≤ l2 ∧ l2 < h (h (h l0 4) 1) (-1)) <|
      if ¬ h (h (h l0 4) 1) l2 = (-11) then
        fn_Reader_findFunctions_111 k4 l0 l1 l2 h
      else
        qz_ck ((h l0 4 : Int) ≠ 0) <|
        qz_ck ((h (h l0 4) 2 : Int) ≠ 0) <|
        qz_ck ((0 : Int) ≤ l2 ∧ l2 < h (h (h l0 4) 2) (-1)) <|
        if 0 ≤ qz_cmp (h (h (h l0 4) 2) l2) 0 then
          fn_Reader_findFunctions_111 k4 l0 l1 l2 h
        else
          qz_ck ((h l0 4 : Int) ≠ 0) <|
          qz_ck ((h (h l0 4) 2 : Int) ≠ 0) <|
          qz_ck ((0 : Int) ≤ l2 ∧ l2 < h (h (h l0 4) 2) (-1)) <|
          qz_bn (qz_w (qz_x ((-1) - (h (h (h l0 4) 2) l2))) : Int) fun x1 =>
          qz_bc (fn_Reader_functionNamed l0 x1 h) fun r2 h3 =>
          qz_bn (r2 : Int) fun x4 =>
          qz_ck ((h3 l0 4 : Int) ≠ 0) <|
          qz_ck ((h3 (h3 l0 4) 2 : Int) ≠ 0) <|
          qz_ck (0 < h3 (h3 l0 4) 2 ∧ (0 : Int) ≤ l2 ∧ l2 < h3 (h3 (h3 l0 4) 2) (-1)) <|
          qz_bn (qz_up h3 (h3 (h3 l0 4) 2) l2 x4) fun h5 =>
          if 0 ≤ x4 then
            fn_Reader_findFunctions_111 k4 l0 l1 l2 h5
          else
            if ¬ l1 = 0 then
              fn_Reader_findFunctions_106 k4 l0 l2 l0 (qz_min (h5 l0 9) x1) h5
            else
              fn_Reader_findFunctions_106 k4 l0 l2 l0 x1 h5
def fn_Reader_findFunctions_4 : Nat → Int → Int → Int → qz_H → Option qz_R
  | 0, _, _, _, _ => none
  | n + 1, l0, l1, l2, h => fn_Reader_findFunctions_4_b (fn_Reader_findFunctions_4 n) l0 l1 l2 h
set_option maxRecDepth 20000 in
def fn_Reader_findFunctions (l0 : Int) (h : qz_H) : Option qz_R :=
  qz_bn (0 : Int) fun x1 =>
  qz_bn (0 : Int) fun x2 =>
  fn_Reader_findFunctions_4 qz_NF l0 x1 x2 h
def bk_Reader_findFunctions_0 : List (Instr × Nat) := [(.iconst 0, 1), (.istore_n 1, 1), (.iconst 0, 1), (.istore_n 2, 1)]
def bk_Reader_findFunctions_4 : List (Instr × Nat) := [(.iload_n 2, 1), (.aload_n 0, 1), (.getfield 24, 3), (.getfield 214, 3), (.if_icmp .ge 105, 3), (.iload_n 2, 1), (.bipush 64, 2), (.if_icmp .ge 99, 3), (.aload_n 0, 1), (.getfield 24, 3), (.getfield 253, 3), (.iload_n 2, 1), (.aaload, 1), (.getstatic 298, 3), (.if_acmp .ne 78, 3), (.aload_n 0, 1), (.getfield 24, 3), (.getfield 217, 3), (.iload_n 2, 1), (.laload, 1), (.lconst 0, 1), (.lcmp, 1), (.ifCond .ge 64, 3), (.ldc2_w 275, 3), (.aload_n 0, 1), (.getfield 24, 3), (.getfield 217, 3), (.iload_n 2, 1), (.laload, 1), (.lsub, 1), (.l2i, 1), (.istore_n 3, 1), (.aload_n 0, 1), (.iload_n 3, 1), (.invokevirtual 231, 3), (.istore 4, 2), (.aload_n 0, 1), (.getfield 24, 3), (.getfield 217, 3), (.iload_n 2, 1), (.iload 4, 2), (.i2l, 1), (.lastore, 1), (.iload 4, 2), (.ifCond .ge 25, 3), (.aload_n 0, 1), (.iload_n 1, 1), (.ifCond .ne 7, 3), (.iload_n 3, 1), (.goto 11, 3)]
def bk_Reader_findFunctions_117 : List (Instr × Nat) := [(.iload_n 1, 1), (.ireturn, 1)]
def bk_Reader_findFunctions_111 : List (Instr × Nat) := [(.iinc 2 1, 3), (.goto (-110), 3)]
def bk_Reader_findFunctions_98 : List (Instr × Nat) := [(.aload_n 0, 1), (.getfield 66, 3), (.iload_n 3, 1), (.invokestatic 301, 3)]
def bk_Reader_findFunctions_106 : List (Instr × Nat) := [(.putfield 66, 3), (.iconst 1, 1), (.istore_n 1, 1)]
theorem ca_Reader_findFunctions_0 : qz_ca yd_Reader_findFunctions.2.1 0 bk_Reader_findFunctions_0 := qz_cab_ok _ _ (by decide +kernel)
theorem ca_Reader_findFunctions_4 : qz_ca yd_Reader_findFunctions.2.1 4 bk_Reader_findFunctions_4 := qz_cab_ok _ _ (by decide +kernel)
theorem ca_Reader_findFunctions_117 : qz_ca yd_Reader_findFunctions.2.1 117 bk_Reader_findFunctions_117 := qz_cab_ok _ _ (by decide +kernel)
theorem ca_Reader_findFunctions_111 : qz_ca yd_Reader_findFunctions.2.1 111 bk_Reader_findFunctions_111 := qz_cab_ok _ _ (by decide +kernel)
theorem ca_Reader_findFunctions_98 : qz_ca yd_Reader_findFunctions.2.1 98 bk_Reader_findFunctions_98 := qz_cab_ok _ _ (by decide +kernel)
theorem ca_Reader_findFunctions_106 : qz_ca yd_Reader_findFunctions.2.1 106 bk_Reader_findFunctions_106 := qz_cab_ok _ _ (by decide +kernel)
set_option maxRecDepth 20000 in
theorem jb_Reader_findFunctions_117 (G : qz_G) (l1 : Int) (h : qz_H) : qz_J yd_Reader_findFunctions G bk_Reader_findFunctions_117 117 [qz_u, qz_i l1, qz_u, qz_u, qz_u] [] h 0 0 (fn_Reader_findFunctions_117 l1 h) := by
  unfold fn_Reader_findFunctions_117 bk_Reader_findFunctions_117; exact
    qz_iload_n rfl <|
    qz_ireturn ⟨rfl, rfl⟩ rfl
set_option maxRecDepth 20000 in
theorem jb_Reader_findFunctions_111 (G : qz_G) (k4 : Int → Int → Int → qz_H → Option qz_R) (jk4 : ∀ (l0 : Int) (l1 : Int) (l2 : Int) (h : qz_H), qz_J yd_Reader_findFunctions G bk_Reader_findFunctions_4 4 [qz_r true 9 l0, qz_i l1, qz_i l2, qz_u, qz_u] [] h 0 0 (k4 l0 l1 l2 h)) (l0 : Int) (l1 : Int) (l2 : Int) (h : qz_H) : qz_J yd_Reader_findFunctions G bk_Reader_findFunctions_111 111 [qz_r true 9 l0, qz_i l1, qz_i l2, qz_u, qz_u] [] h 0 0 (fn_Reader_findFunctions_111 k4 l0 l1 l2 h) := by
  unfold fn_Reader_findFunctions_111 bk_Reader_findFunctions_111; exact
    qz_iinc rfl (by decide) fun x1 =>
    qz_goto rfl ca_Reader_findFunctions_4 <|
    qz_fgt [1, 1, 1, 0, 0] <| jk4 l0 l1 x1 h
set_option maxRecDepth 20000 in
theorem jb_Reader_findFunctions_106 (G : qz_G) (k4 : Int → Int → Int → qz_H → Option qz_R) (jk4 : ∀ (l0 : Int) (l1 : Int) (l2 : Int) (h : qz_H), qz_J yd_Reader_findFunctions G bk_Reader_findFunctions_4 4 [qz_r true 9 l0, qz_i l1, qz_i l2, qz_u, qz_u] [] h 0 0 (k4 l0 l1 l2 h)) (l0 : Int) (l2 : Int) (s0 : Int) (s1 : Int) (h : qz_H) : qz_J yd_Reader_findFunctions G bk_Reader_findFunctions_106 106 [qz_r true 9 l0, qz_u, qz_i l2, qz_u, qz_u] [qz_i s1, qz_r true 9 s0] h 0 0 (fn_Reader_findFunctions_106 k4 l0 l2 s0 s1 h) := by
  unfold fn_Reader_findFunctions_106 bk_Reader_findFunctions_106; exact
    qz_putI kw_9 fp_Reader_66_Reader_findFunctions rfl rfl fun h1 =>
    qz_iconst rfl <|
    qz_istore_n (by decide) fun x2 =>
    qz_fall rfl ca_Reader_findFunctions_111 <|
    qz_fgt [1, 1, 1, 0, 0] <| jb_Reader_findFunctions_111 G k4 jk4 l0 x2 l2 h1
set_option maxRecDepth 20000 in
theorem jb_Reader_findFunctions_4_b (G : qz_G) (k4 : Int → Int → Int → qz_H → Option qz_R) (jk4 : ∀ (l0 : Int) (l1 : Int) (l2 : Int) (h : qz_H), qz_J yd_Reader_findFunctions G bk_Reader_findFunctions_4 4 [qz_r true 9 l0, qz_i l1, qz_i l2, qz_u, qz_u] [] h 0 0 (k4 l0 l1 l2 h)) (l0 : Int) (l1 : Int) (l2 : Int) (h : qz_H) : qz_J yd_Reader_findFunctions G bk_Reader_findFunctions_4 4 [qz_r true 9 l0, qz_i l1, qz_i l2, qz_u, qz_u] [] h 0 0 (fn_Reader_findFunctions_4_b k4 l0 l1 l2 h) := by
  unfold fn_Reader_findFunctions_4_b bk_Reader_findFunctions_4; exact
    qz_iload_n rfl <|
    qz_aload_n rfl <|
    qz_getR (k1 := 6) kg_9 fl_Reader_24 rfl rfl <|
    qz_nnd 0 rfl <|
    qz_getI kg_6 fl_Reader_214 rfl rfl <|
    qz_icmp_ge rfl ca_Reader_findFunctions_117
      (qz_fgt [0, 1, 0, 0, 0] <| jb_Reader_findFunctions_117 G l1 h)
      (qz_iload_n rfl <|
        qz_bipush rfl <|
        qz_icmp_ge rfl ca_Reader_findFunctions_117
          (qz_fgt [0, 1, 0, 0, 0] <| jb_Reader_findFunctions_117 G l1 h)
          (qz_aload_n rfl <|
            qz_getR (k1 := 6) kg_9 fl_Reader_24 rfl rfl <|
            qz_nnd 0 rfl <|
            qz_getR (k1 := 46) kg_6 fl_Reader_253 rfl rfl <|
            qz_iload_n rfl <|
            qz_nnd 1 rfl <|
            qz_aald (k0 := 46) (k1 := 7) rfl rfl rfl <|
            qz_getsR sz_Op_CALL sl_Reader_298 rfl <|
            qz_acmp_ne rfl ca_Reader_findFunctions_111
              (qz_fgt [1, 1, 1, 0, 0] <| jb_Reader_findFunctions_111 G k4 jk4 l0 l1 l2 h)
              (qz_aload_n rfl <|
                qz_getR (k1 := 6) kg_9 fl_Reader_24 rfl rfl <|
                qz_nnd 0 rfl <|
                qz_getR (k1 := 41) kg_6 fl_Reader_217 rfl rfl <|
                qz_iload_n rfl <|
                qz_nnd 1 rfl <|
                qz_lald (k0 := 41) rfl rfl rfl <|
                qz_lconst rfl <|
                qz_lcmp <|
                qz_if_ge rfl ca_Reader_findFunctions_111
                  (qz_fgt [1, 1, 1, 0, 0] <| jb_Reader_findFunctions_111 G k4 jk4 l0 l1 l2 h)
                  (qz_ldc2 wc_Reader_275 rfl <|
                    qz_aload_n rfl <|
                    qz_getR (k1 := 6) kg_9 fl_Reader_24 rfl rfl <|
                    qz_nnd 0 rfl <|
                    qz_getR (k1 := 41) kg_6 fl_Reader_217 rfl rfl <|
                    qz_iload_n rfl <|
                    qz_nnd 1 rfl <|
                    qz_lald (k0 := 41) rfl rfl rfl <|
                    qz_lsub <|
                    qz_l2i <|
                    qz_istore_n (by decide) fun x1 =>
                    qz_aload_n rfl <|
                    qz_iload_n rfl <|
                    qz_invvI [qz_i x1] rfl (cn_Reader_functionNamed l0 x1 h) mw_Reader_functionNamed vw_Reader_functionNamed ⟨_, rfl, rfl, by decide⟩ rfl rfl ln_Reader_231 rfl fun r2 h3 =>
                    qz_istore (by decide) fun x4 =>
                    qz_aload_n rfl <|
                    qz_getR (k1 := 6) kg_9 fl_Reader_24 rfl rfl <|
                    qz_nnd 0 rfl <|
                    qz_getR (k1 := 41) kg_6 fl_Reader_217 rfl rfl <|
                    qz_iload_n rfl <|
                    qz_iload rfl <|
                    qz_i2l <|
                    qz_nnd 2 rfl <|
                    qz_last rfl rfl rfl fun h5 =>
                    qz_iload rfl <|
                    qz_if_ge rfl ca_Reader_findFunctions_111
                      (qz_fgt [1, 1, 1, 0, 0] <| jb_Reader_findFunctions_111 G k4 jk4 l0 l1 l2 h5)
                      (qz_aload_n rfl <|
                        qz_iload_n rfl <|
                        qz_if_ne rfl ca_Reader_findFunctions_98
                          (qz_aload_n rfl <|
                            qz_getI kg_9 fl_Reader_66 rfl rfl <|
                            qz_iload_n rfl <|
                            qz_mmin ma_Reader_301 rfl <|
                            qz_fall rfl ca_Reader_findFunctions_106 <|
                            qz_fgt [1, 0, 1, 0, 0] <| jb_Reader_findFunctions_106 G k4 jk4 l0 l2 l0 (qz_min (h5 l0 9) x1) h5)
                          (qz_iload_n rfl <|
                            qz_goto rfl ca_Reader_findFunctions_106 <|
                            qz_fgt [1, 0, 1, 0, 0] <| jb_Reader_findFunctions_106 G k4 jk4 l0 l2 l0 x1 h5))))))
theorem jb_Reader_findFunctions_4 (G : qz_G) : ∀ (n : Nat) (l0 l1 l2 : Int) (h : qz_H), qz_J yd_Reader_findFunctions G bk_Reader_findFunctions_4 4 [qz_r true 9 l0, qz_i l1, qz_i l2, qz_u, qz_u] [] h 0 0 (fn_Reader_findFunctions_4 n l0 l1 l2 h)
  | 0, _, _, _, _ => qz_none
  | n + 1, l0, l1, l2, h => jb_Reader_findFunctions_4_b G (fn_Reader_findFunctions_4 n) (jb_Reader_findFunctions_4 G n) l0 l1 l2 h
set_option maxRecDepth 20000 in
theorem cn_Reader_findFunctions (l0 : Int) (h : qz_H) : qz_C yd_Reader_findFunctions [qz_r true 9 l0] h (fn_Reader_findFunctions l0 h) := by
  refine qz_con (is := bk_Reader_findFunctions_0) (ls := [qz_r true 9 l0, qz_u, qz_u, qz_u, qz_u]) mw_Reader_findFunctions.2.2.2 ca_Reader_findFunctions_0 rfl rfl rfl fun G => ?_
  unfold fn_Reader_findFunctions bk_Reader_findFunctions_0; exact
    qz_iconst rfl <|
    qz_istore_n (by decide) fun x1 =>
    qz_iconst rfl <|
    qz_istore_n (by decide) fun x2 =>
    qz_fall rfl ca_Reader_findFunctions_4 <|
    qz_fgt [1, 1, 1, 0, 0] <| jb_Reader_findFunctions_4 G qz_NF l0 x1 x2 h
def fn_Reader_read_48_b (k48 : Int → Int → qz_H → Option qz_R) (l0 : Int) (l3 : Int) (h : qz_H) : Option qz_R :=
  if 320 < l3 then
    some (1, h)
  else
    qz_ck ((h l0 0 : Int) ≠ 0) <|
    qz_bc (fn_Scanner_next (h l0 0) h) fun _ h2 =>
    qz_ck ((h2 l0 0 : Int) ≠ 0) <|
    qz_ck ((0 : Int) < l0) <|
    qz_bn (qz_up h2 l0 9 (h2 (h2 l0 0) 2)) fun h3 =>
    qz_ck ((h3 l0 1 : Int) ≠ 0) <|
    qz_ck ((0 : Int) ≤ h3 l0 5 ∧ h3 l0 5 < h3 (h3 l0 1) (-1)) <|
    qz_bc (fn_Reader_judge l0 (h3 (h3 l0 1) (h3 l0 5)) h3) fun r4 h5 =>
    qz_bn (r4 : Int) fun x6 =>
    if x6 = 0 then
      qz_ck ((h5 l0 0 : Int) ≠ 0) <|
      if ¬ h5 (h5 l0 0) 1 = 4 then
        qz_bn (qz_w (l3 + 1)) fun x7 =>
        k48 l0 x7 h5
      else
        qz_bc (fn_Reader_findFunctions l0 h5) fun r8 h9 =>
        some (r8, h9)
    else
      some (x6, h5)
def fn_Reader_read_48 : Nat → Int → Int → qz_H → Option qz_R
  | 0, _, _, _ => none
  | n + 1, l0, l3, h => fn_Reader_read_48_b (fn_Reader_read_48 n) l0 l3 h
set_option maxRecDepth 20000 in
def fn_Reader_read (l0 : Int) (l1 : Int) (l2 : Int) (h : qz_H) : Option qz_R :=
  qz_ck ((h l0 0 : Int) ≠ 0) <|
  qz_bc (fn_Scanner_begin (h l0 0) l1 h) fun _ h2 =>
  qz_ck ((0 : Int) < l0) <|
  qz_bn (qz_up h2 l0 4 l2) fun h3 =>
  qz_ck ((h3 l0 4 : Int) ≠ 0) <|
  qz_bc (fn_Module_clear (h3 l0 4) h3) fun _ h5 =>
  qz_ck ((0 : Int) < l0) <|
  qz_bn (qz_up h5 l0 5 0) fun h6 =>
  qz_ck ((h6 l0 1 : Int) ≠ 0) <|
  qz_ck ((0 : Int) ≤ 0 ∧ 0 < h6 (h6 l0 1) (-1)) <|
  qz_ck ((h6 (h6 l0 1) 0 : Int) ≠ 0) <|
  qz_bc (fn_Level_begin (h6 (h6 l0 1) 0) 0 h6) fun _ h8 =>
  qz_ck ((0 : Int) = 0 ∨ (0 : Int) = 1) <|
  qz_ck ((0 : Int) < l0) <|
  qz_bn (qz_up h8 l0 6 0) fun h9 =>
  qz_ck ((0 : Int) < l0) <|
  qz_bn (qz_up h9 l0 7 (-2)) fun h10 =>
  qz_bn (0 : Int) fun x11 =>
  fn_Reader_read_48 qz_NF l0 x11 h10
def bk_Reader_read_0 : List (Instr × Nat) := [(.aload_n 0, 1), (.getfield 33, 3), (.aload_n 1, 1), (.invokevirtual 38, 3), (.aload_n 0, 1), (.aload_n 2, 1), (.putfield 24, 3), (.aload_n 0, 1), (.getfield 24, 3), (.invokevirtual 41, 3), (.aload_n 0, 1), (.iconst 0, 1), (.putfield 46, 3), (.aload_n 0, 1), (.getfield 11, 3), (.iconst 0, 1), (.aaload, 1), (.iconst 0, 1), (.invokevirtual 50, 3), (.aload_n 0, 1), (.iconst 0, 1), (.putfield 53, 3), (.aload_n 0, 1), (.bipush (-2), 2), (.putfield 57, 3), (.iconst 0, 1), (.istore_n 3, 1)]
def bk_Reader_read_48 : List (Instr × Nat) := [(.iload_n 3, 1), (.sipush 320, 3), (.if_icmp .gt 66, 3), (.aload_n 0, 1), (.getfield 33, 3), (.invokevirtual 60, 3), (.aload_n 0, 1), (.aload_n 0, 1), (.getfield 33, 3), (.getfield 63, 3), (.putfield 66, 3), (.aload_n 0, 1), (.aload_n 0, 1), (.getfield 11, 3), (.aload_n 0, 1), (.getfield 46, 3), (.aaload, 1), (.invokevirtual 69, 3), (.istore 4, 2), (.iload 4, 2), (.ifCond .eq 6, 3), (.iload 4, 2), (.ireturn, 1)]
def bk_Reader_read_118 : List (Instr × Nat) := [(.iconst 1, 1), (.ireturn, 1)]
def bk_Reader_read_96 : List (Instr × Nat) := [(.aload_n 0, 1), (.getfield 33, 3), (.getfield 73, 3), (.iconst 4, 1), (.if_icmp .ne 8, 3), (.aload_n 0, 1), (.invokevirtual 76, 3), (.ireturn, 1)]
def bk_Reader_read_112 : List (Instr × Nat) := [(.iinc 3 1, 3), (.goto (-67), 3)]
theorem ca_Reader_read_0 : qz_ca yd_Reader_read.2.1 0 bk_Reader_read_0 := qz_cab_ok _ _ (by decide +kernel)
theorem ca_Reader_read_48 : qz_ca yd_Reader_read.2.1 48 bk_Reader_read_48 := qz_cab_ok _ _ (by decide +kernel)
theorem ca_Reader_read_118 : qz_ca yd_Reader_read.2.1 118 bk_Reader_read_118 := qz_cab_ok _ _ (by decide +kernel)
theorem ca_Reader_read_96 : qz_ca yd_Reader_read.2.1 96 bk_Reader_read_96 := qz_cab_ok _ _ (by decide +kernel)
theorem ca_Reader_read_112 : qz_ca yd_Reader_read.2.1 112 bk_Reader_read_112 := qz_cab_ok _ _ (by decide +kernel)
set_option maxRecDepth 20000 in
theorem jb_Reader_read_48_b (G : qz_G) (k48 : Int → Int → qz_H → Option qz_R) (jk48 : ∀ (l0 : Int) (l3 : Int) (h : qz_H), qz_J yd_Reader_read G bk_Reader_read_48 48 [qz_r true 9 l0, qz_u, qz_u, qz_i l3, qz_u] [] h 0 0 (k48 l0 l3 h)) (l0 : Int) (l3 : Int) (h : qz_H) : qz_J yd_Reader_read G bk_Reader_read_48 48 [qz_r true 9 l0, qz_u, qz_u, qz_i l3, qz_u] [] h 0 0 (fn_Reader_read_48_b k48 l0 l3 h) := by
  unfold fn_Reader_read_48_b bk_Reader_read_48; exact
    qz_iload_n rfl <|
    qz_sipush rfl <|
    qz_icmp_gt rfl ca_Reader_read_118
      (qz_iconst rfl <|
        qz_ireturn ⟨rfl, rfl⟩ rfl)
      (qz_aload_n rfl <|
        qz_getR (k1 := 10) kg_9 fl_Reader_33 rfl rfl <|
        qz_nnd 0 rfl <|
        qz_invvV [] rfl (cn_Scanner_next (h l0 0) h) mw_Scanner_next vw_Scanner_next ⟨_, rfl, rfl, by decide⟩ rfl rfl ln_Reader_60 rfl fun _ h2 =>
        qz_aload_n rfl <|
        qz_aload_n rfl <|
        qz_getR (k1 := 10) kg_9 fl_Reader_33 rfl rfl <|
        qz_nnd 0 rfl <|
        qz_getI kg_10 fl_Reader_63 rfl rfl <|
        qz_putI kw_9 fp_Reader_66_Reader_read rfl rfl fun h3 =>
        qz_aload_n rfl <|
        qz_aload_n rfl <|
        qz_getR (k1 := 47) kg_9 fl_Reader_11 rfl rfl <|
        qz_aload_n rfl <|
        qz_getI kg_9 fl_Reader_46 rfl rfl <|
        qz_nnd 1 rfl <|
        qz_aald (k0 := 47) (k1 := 5) rfl rfl rfl <|
        qz_invvI [qz_r false 5 (h3 (h3 l0 1) (h3 l0 5))] rfl (cn_Reader_judge l0 (h3 (h3 l0 1) (h3 l0 5)) h3) mw_Reader_judge vw_Reader_judge ⟨_, rfl, rfl, by decide⟩ rfl rfl ln_Reader_69 rfl fun r4 h5 =>
        qz_istore (by decide) fun x6 =>
        qz_iload rfl <|
        qz_if_eq rfl ca_Reader_read_96
          (qz_aload_n rfl <|
            qz_getR (k1 := 10) kg_9 fl_Reader_33 rfl rfl <|
            qz_nnd 0 rfl <|
            qz_getI kg_10 fl_Reader_73 rfl rfl <|
            qz_iconst rfl <|
            qz_icmp_ne rfl ca_Reader_read_112
              (qz_iinc rfl (by decide) fun x7 =>
                qz_goto rfl ca_Reader_read_48 <|
                qz_fgt [1, 0, 0, 1, 0] <| jk48 l0 x7 h5)
              (qz_aload_n rfl <|
                qz_invvI [] rfl (cn_Reader_findFunctions l0 h5) mw_Reader_findFunctions vw_Reader_findFunctions ⟨_, rfl, rfl, by decide⟩ rfl rfl ln_Reader_76 rfl fun r8 h9 =>
                qz_ireturn ⟨rfl, rfl⟩ rfl))
          (qz_iload rfl <|
            qz_ireturn ⟨rfl, rfl⟩ rfl))
theorem jb_Reader_read_48 (G : qz_G) : ∀ (n : Nat) (l0 l3 : Int) (h : qz_H), qz_J yd_Reader_read G bk_Reader_read_48 48 [qz_r true 9 l0, qz_u, qz_u, qz_i l3, qz_u] [] h 0 0 (fn_Reader_read_48 n l0 l3 h)
  | 0, _, _, _ => qz_none
  | n + 1, l0, l3, h => jb_Reader_read_48_b G (fn_Reader_read_48 n) (jb_Reader_read_48 G n) l0 l3 h
set_option maxRecDepth 20000 in
theorem cn_Reader_read (l0 : Int) (l1 : Int) (l2 : Int) (h : qz_H) : qz_C yd_Reader_read [qz_r true 9 l0, qz_r false 11 l1, qz_r false 6 l2] h (fn_Reader_read l0 l1 l2 h) := by
  refine qz_con (is := bk_Reader_read_0) (ls := [qz_r true 9 l0, qz_r false 11 l1, qz_r false 6 l2, qz_u, qz_u]) mw_Reader_read.2.2.2 ca_Reader_read_0 rfl rfl rfl fun G => ?_
  unfold fn_Reader_read bk_Reader_read_0; exact
    qz_aload_n rfl <|
    qz_getR (k1 := 10) kg_9 fl_Reader_33 rfl rfl <|
    qz_aload_n rfl <|
    qz_nnd 1 rfl <|
    qz_invvV [qz_r false 11 l1] rfl (cn_Scanner_begin (h l0 0) l1 h) mw_Scanner_begin vw_Scanner_begin ⟨_, rfl, rfl, by decide⟩ rfl rfl ln_Reader_38 rfl fun _ h2 =>
    qz_aload_n rfl <|
    qz_aload_n rfl <|
    qz_putR (k1 := 6) kw_9 fp_Reader_24_Reader_read rfl rfl fun h3 =>
    qz_aload_n rfl <|
    qz_getR (k1 := 6) kg_9 fl_Reader_24 rfl rfl <|
    qz_nnd 0 rfl <|
    qz_invvV [] rfl (cn_Module_clear (h3 l0 4) h3) mw_Module_clear vw_Module_clear ⟨_, rfl, rfl, by decide⟩ rfl rfl ln_Reader_41 rfl fun _ h5 =>
    qz_aload_n rfl <|
    qz_iconst rfl <|
    qz_putI kw_9 fp_Reader_46_Reader_read rfl rfl fun h6 =>
    qz_aload_n rfl <|
    qz_getR (k1 := 47) kg_9 fl_Reader_11 rfl rfl <|
    qz_iconst rfl <|
    qz_nnd 1 rfl <|
    qz_aald (k0 := 47) (k1 := 5) rfl rfl rfl <|
    qz_iconst rfl <|
    qz_nnd 1 rfl <|
    qz_invvV [qz_i 0] rfl (cn_Level_begin (h6 (h6 l0 1) 0) 0 h6) mw_Level_begin vw_Level_begin ⟨_, rfl, rfl, by decide⟩ rfl rfl ln_Reader_50 rfl fun _ h8 =>
    qz_aload_n rfl <|
    qz_iconst rfl <|
    qz_putZ kw_9 fp_Reader_53_Reader_read rfl rfl fun h9 =>
    qz_aload_n rfl <|
    qz_bipush rfl <|
    qz_putI kw_9 fp_Reader_57_Reader_read rfl rfl fun h10 =>
    qz_iconst rfl <|
    qz_istore_n (by decide) fun x11 =>
    qz_fall rfl ca_Reader_read_48 <|
    qz_fgt [1, 0, 0, 1, 0] <| jb_Reader_read_48 G qz_NF l0 x11 h10
set_option maxRecDepth 20000 in
def fn_Frame_begin (l0 : Int) (l1 : Int) (l2 : Int) (l3 : Int) (h : qz_H) : Option qz_R :=
  qz_ck ((0 : Int) < l0) <|
  qz_bn (qz_up h l0 0 l1) fun h1 =>
  qz_ck ((0 : Int) < l0) <|
  qz_bn (qz_up h1 l0 1 l2) fun h2 =>
  qz_ck ((0 : Int) < l0) <|
  qz_bn (qz_up h2 l0 2 l3) fun h3 =>
  qz_ck ((0 : Int) = 0 ∨ (0 : Int) = 1) <|
  qz_ck ((0 : Int) < l0) <|
  qz_bn (qz_up h3 l0 3 0) fun h4 =>
  qz_ck ((0 : Int) = 0 ∨ (0 : Int) = 1) <|
  qz_ck ((0 : Int) < l0) <|
  qz_bn (qz_up h4 l0 4 0) fun h5 =>
  some (0, h5)
def bk_Frame_begin_0 : List (Instr × Nat) := [(.aload_n 0, 1), (.iload_n 1, 1), (.putfield 7, 3), (.aload_n 0, 1), (.iload_n 2, 1), (.putfield 13, 3), (.aload_n 0, 1), (.iload_n 3, 1), (.putfield 16, 3), (.aload_n 0, 1), (.iconst 0, 1), (.putfield 19, 3), (.aload_n 0, 1), (.iconst 0, 1), (.putfield 23, 3), (.return_, 1)]
theorem ca_Frame_begin_0 : qz_ca yd_Frame_begin.2.1 0 bk_Frame_begin_0 := qz_cab_ok _ _ (by decide +kernel)
set_option maxRecDepth 20000 in
theorem cn_Frame_begin (l0 : Int) (l1 : Int) (l2 : Int) (l3 : Int) (h : qz_H) : qz_C yd_Frame_begin [qz_r true 3 l0, qz_i l1, qz_i l2, qz_i l3] h (fn_Frame_begin l0 l1 l2 l3 h) := by
  refine qz_con (is := bk_Frame_begin_0) (ls := [qz_r true 3 l0, qz_i l1, qz_i l2, qz_i l3]) mw_Frame_begin.2.2.2 ca_Frame_begin_0 rfl rfl rfl fun G => ?_
  unfold fn_Frame_begin bk_Frame_begin_0; exact
    qz_aload_n rfl <|
    qz_iload_n rfl <|
    qz_putI kw_3 fp_Frame_7_Frame_begin rfl rfl fun h1 =>
    qz_aload_n rfl <|
    qz_iload_n rfl <|
    qz_putI kw_3 fp_Frame_13_Frame_begin rfl rfl fun h2 =>
    qz_aload_n rfl <|
    qz_iload_n rfl <|
    qz_putI kw_3 fp_Frame_16_Frame_begin rfl rfl fun h3 =>
    qz_aload_n rfl <|
    qz_iconst rfl <|
    qz_putZ kw_3 fp_Frame_19_Frame_begin rfl rfl fun h4 =>
    qz_aload_n rfl <|
    qz_iconst rfl <|
    qz_putZ kw_3 fp_Frame_23_Frame_begin rfl rfl fun h5 =>
    qz_return ⟨rfl, rfl⟩ rfl
set_option maxRecDepth 20000 in
def fn_Enum_ordinal (l0 : Int) (h : qz_H) : Option qz_R :=
  some (h l0 6, h)
def bk_Enum_ordinal_0 : List (Instr × Nat) := [(.aload_n 0, 1), (.getfield 7, 3), (.ireturn, 1)]
theorem ca_Enum_ordinal_0 : qz_ca yd_Enum_ordinal.2.1 0 bk_Enum_ordinal_0 := qz_cab_ok _ _ (by decide +kernel)
set_option maxRecDepth 20000 in
theorem cn_Enum_ordinal (l0 : Int) (h : qz_H) : qz_C yd_Enum_ordinal [qz_r true 7 l0] h (fn_Enum_ordinal l0 h) := by
  refine qz_con (is := bk_Enum_ordinal_0) (ls := [qz_r true 7 l0]) mw_Enum_ordinal.2.2.2 ca_Enum_ordinal_0 rfl rfl rfl fun G => ?_
  unfold fn_Enum_ordinal bk_Enum_ordinal_0; exact
    qz_aload_n rfl <|
    qz_getI kg_7 fl_java_lang_Enum_7 rfl rfl <|
    qz_ireturn ⟨rfl, rfl⟩ rfl
def fn_Checker_take_50 (s0 : Int) (s1 : Int) (h : qz_H) : Option qz_R :=
  qz_ck ((s1 : Int) = 0 ∨ (s1 : Int) = 1) <|
  qz_ck ((0 : Int) < s0) <|
  qz_bn (qz_up h s0 6 s1) fun h1 =>
  some (3, h1)
def fn_Checker_take_45 (s0 : Int) (h : qz_H) : Option qz_R :=
  fn_Checker_take_50 s0 1 h
def fn_Checker_take_30 (l0 : Int) (l2 : Int) (h : qz_H) : Option qz_R :=
  if ¬ h l0 6 = 0 then
    fn_Checker_take_45 l0 h
  else
    qz_ck ((l2 : Int) ≠ 0) <|
    if ¬ h l2 3 = 0 then
      fn_Checker_take_50 l0 0 h
    else
      fn_Checker_take_45 l0 h
def fn_Checker_take_95 (l3 : Int) (h : qz_H) : Option qz_R :=
  some (l3, h)
set_option maxRecDepth 20000 in
def fn_Checker_take (l0 : Int) (l1 : Int) (h : qz_H) : Option qz_R :=
  qz_ck ((h l0 1 : Int) ≠ 0) <|
  qz_ck ((0 : Int) ≤ h l0 5 ∧ h l0 5 < h (h l0 1) (-1)) <|
  qz_bn (h (h l0 1) (h l0 5) : Int) fun x1 =>
  qz_ck ((x1 : Int) ≠ 0) <|
  if h l0 4 ≤ h x1 2 then
    fn_Checker_take_30 l0 x1 h
  else
    if h l0 4 ≤ 64 then
      qz_ck ((0 : Int) < l0) <|
      qz_bn (qz_up h l0 4 (qz_w ((h l0 4) - 1))) fun h2 =>
      qz_ck ((h2 l0 0 : Int) ≠ 0) <|
      qz_ck ((0 : Int) ≤ h2 l0 4 ∧ h2 l0 4 < h2 (h2 l0 0) (-1)) <|
      qz_bn (h2 (h2 l0 0) (h2 l0 4) : Int) fun x3 =>
      if l1 = 3 then
        fn_Checker_take_95 x3 h2
      else
        if x3 = 3 then
          fn_Checker_take_95 x3 h2
        else
          if x3 = l1 then
            fn_Checker_take_95 x3 h2
          else
            qz_ck ((1 : Int) = 0 ∨ (1 : Int) = 1) <|
            qz_ck ((0 : Int) < l0) <|
            qz_bn (qz_up h2 l0 6 1) fun h4 =>
            fn_Checker_take_95 x3 h4
    else
      fn_Checker_take_30 l0 x1 h
def bk_Checker_take_0 : List (Instr × Nat) := [(.aload_n 0, 1), (.getfield 17, 3), (.aload_n 0, 1), (.getfield 58, 3), (.aaload, 1), (.astore_n 2, 1), (.aload_n 0, 1), (.getfield 55, 3), (.aload_n 2, 1), (.getfield 162, 3), (.if_icmp .le 12, 3), (.aload_n 0, 1), (.getfield 55, 3), (.bipush 64, 2), (.if_icmp .le 28, 3)]
def bk_Checker_take_30 : List (Instr × Nat) := [(.aload_n 0, 1), (.aload_n 0, 1), (.getfield 36, 3), (.ifCond .ne 10, 3), (.aload_n 2, 1), (.getfield 163, 3), (.ifCond .ne 7, 3)]
def bk_Checker_take_55 : List (Instr × Nat) := [(.aload_n 0, 1), (.dup, 1), (.getfield 55, 3), (.iconst 1, 1), (.isub, 1), (.putfield 55, 3), (.aload_n 0, 1), (.getfield 9, 3), (.aload_n 0, 1), (.getfield 55, 3), (.iaload, 1), (.istore_n 3, 1), (.iload_n 1, 1), (.iconst 3, 1), (.if_icmp .eq 18, 3), (.iload_n 3, 1), (.iconst 3, 1), (.if_icmp .eq 13, 3), (.iload_n 3, 1), (.iload_n 1, 1), (.if_icmp .eq 8, 3), (.aload_n 0, 1), (.iconst 1, 1), (.putfield 36, 3)]
def bk_Checker_take_95 : List (Instr × Nat) := [(.iload_n 3, 1), (.ireturn, 1)]
def bk_Checker_take_45 : List (Instr × Nat) := [(.iconst 1, 1), (.goto 4, 3)]
def bk_Checker_take_49 : List (Instr × Nat) := [(.iconst 0, 1)]
def bk_Checker_take_50 : List (Instr × Nat) := [(.putfield 36, 3), (.iconst 3, 1), (.ireturn, 1)]
theorem ca_Checker_take_0 : qz_ca yd_Checker_take.2.1 0 bk_Checker_take_0 := qz_cab_ok _ _ (by decide +kernel)
theorem ca_Checker_take_30 : qz_ca yd_Checker_take.2.1 30 bk_Checker_take_30 := qz_cab_ok _ _ (by decide +kernel)
theorem ca_Checker_take_55 : qz_ca yd_Checker_take.2.1 55 bk_Checker_take_55 := qz_cab_ok _ _ (by decide +kernel)
theorem ca_Checker_take_95 : qz_ca yd_Checker_take.2.1 95 bk_Checker_take_95 := qz_cab_ok _ _ (by decide +kernel)
theorem ca_Checker_take_45 : qz_ca yd_Checker_take.2.1 45 bk_Checker_take_45 := qz_cab_ok _ _ (by decide +kernel)
theorem ca_Checker_take_49 : qz_ca yd_Checker_take.2.1 49 bk_Checker_take_49 := qz_cab_ok _ _ (by decide +kernel)
theorem ca_Checker_take_50 : qz_ca yd_Checker_take.2.1 50 bk_Checker_take_50 := qz_cab_ok _ _ (by decide +kernel)
set_option maxRecDepth 20000 in
theorem jb_Checker_take_50 (G : qz_G) (s0 : Int) (s1 : Int) (h : qz_H) : qz_J yd_Checker_take G bk_Checker_take_50 50 [qz_u, qz_u, qz_u, qz_u] [qz_i s1, qz_r true 1 s0] h 0 0 (fn_Checker_take_50 s0 s1 h) := by
  unfold fn_Checker_take_50 bk_Checker_take_50; exact
    qz_putZ kw_1 fp_Checker_36_Checker_take rfl rfl fun h1 =>
    qz_iconst rfl <|
    qz_ireturn ⟨rfl, rfl⟩ rfl
set_option maxRecDepth 20000 in
theorem jb_Checker_take_45 (G : qz_G) (s0 : Int) (h : qz_H) : qz_J yd_Checker_take G bk_Checker_take_45 45 [qz_u, qz_u, qz_u, qz_u] [qz_r true 1 s0] h 0 0 (fn_Checker_take_45 s0 h) := by
  unfold fn_Checker_take_45 bk_Checker_take_45; exact
    qz_iconst rfl <|
    qz_goto rfl ca_Checker_take_50 <|
    qz_fgt [0, 0, 0, 0] <| jb_Checker_take_50 G s0 1 h
set_option maxRecDepth 20000 in
theorem jb_Checker_take_30 (G : qz_G) (l0 : Int) (l2 : Int) (h : qz_H) : qz_J yd_Checker_take G bk_Checker_take_30 30 [qz_r true 1 l0, qz_u, qz_r false 3 l2, qz_u] [] h 0 0 (fn_Checker_take_30 l0 l2 h) := by
  unfold fn_Checker_take_30 bk_Checker_take_30; exact
    qz_aload_n rfl <|
    qz_aload_n rfl <|
    qz_getI kg_1 fl_Checker_36 rfl rfl <|
    qz_if_ne rfl ca_Checker_take_45
      (qz_fgt [0, 0, 0, 0] <| jb_Checker_take_45 G l0 h)
      (qz_aload_n rfl <|
        qz_nnd 0 rfl <|
        qz_getI kg_3 fl_Checker_163 rfl rfl <|
        qz_if_ne rfl ca_Checker_take_49
          (qz_iconst rfl <|
            qz_fall rfl ca_Checker_take_50 <|
            qz_fgt [0, 0, 0, 0] <| jb_Checker_take_50 G l0 0 h)
          (qz_fall rfl ca_Checker_take_45 <|
            qz_fgt [0, 0, 0, 0] <| jb_Checker_take_45 G l0 h))
set_option maxRecDepth 20000 in
theorem jb_Checker_take_95 (G : qz_G) (l3 : Int) (h : qz_H) : qz_J yd_Checker_take G bk_Checker_take_95 95 [qz_u, qz_u, qz_u, qz_i l3] [] h 0 0 (fn_Checker_take_95 l3 h) := by
  unfold fn_Checker_take_95 bk_Checker_take_95; exact
    qz_iload_n rfl <|
    qz_ireturn ⟨rfl, rfl⟩ rfl
set_option maxRecDepth 20000 in
theorem cn_Checker_take (l0 : Int) (l1 : Int) (h : qz_H) : qz_C yd_Checker_take [qz_r true 1 l0, qz_i l1] h (fn_Checker_take l0 l1 h) := by
  refine qz_con (is := bk_Checker_take_0) (ls := [qz_r true 1 l0, qz_i l1, qz_u, qz_u]) mw_Checker_take.2.2.2 ca_Checker_take_0 rfl rfl rfl fun G => ?_
  unfold fn_Checker_take bk_Checker_take_0; exact
    qz_aload_n rfl <|
    qz_getR (k1 := 48) kg_1 fl_Checker_17 rfl rfl <|
    qz_aload_n rfl <|
    qz_getI kg_1 fl_Checker_58 rfl rfl <|
    qz_nnd 1 rfl <|
    qz_aald (k0 := 48) (k1 := 3) rfl rfl rfl <|
    qz_astore_n (by decide) fun x1 =>
    qz_aload_n rfl <|
    qz_getI kg_1 fl_Checker_55 rfl rfl <|
    qz_aload_n rfl <|
    qz_nnd 0 rfl <|
    qz_getI kg_3 fl_Checker_162 rfl rfl <|
    qz_icmp_le rfl ca_Checker_take_30
      (qz_fgt [1, 0, 1, 0] <| jb_Checker_take_30 G l0 x1 h)
      (qz_aload_n rfl <|
        qz_getI kg_1 fl_Checker_55 rfl rfl <|
        qz_bipush rfl <|
        qz_icmp_le rfl ca_Checker_take_55
          (qz_aload_n rfl <|
            qz_dup rfl <|
            qz_getI kg_1 fl_Checker_55 rfl rfl <|
            qz_iconst rfl <|
            qz_isub <|
            qz_putI kw_1 fp_Checker_55_Checker_take rfl rfl fun h2 =>
            qz_aload_n rfl <|
            qz_getR (k1 := 40) kg_1 fl_Checker_9 rfl rfl <|
            qz_aload_n rfl <|
            qz_getI kg_1 fl_Checker_55 rfl rfl <|
            qz_nnd 1 rfl <|
            qz_iald (k0 := 40) rfl rfl rfl <|
            qz_istore_n (by decide) fun x3 =>
            qz_iload_n rfl <|
            qz_iconst rfl <|
            qz_icmp_eq rfl ca_Checker_take_95
              (qz_fgt [0, 0, 0, 1] <| jb_Checker_take_95 G x3 h2)
              (qz_iload_n rfl <|
                qz_iconst rfl <|
                qz_icmp_eq rfl ca_Checker_take_95
                  (qz_fgt [0, 0, 0, 1] <| jb_Checker_take_95 G x3 h2)
                  (qz_iload_n rfl <|
                    qz_iload_n rfl <|
                    qz_icmp_eq rfl ca_Checker_take_95
                      (qz_fgt [0, 0, 0, 1] <| jb_Checker_take_95 G x3 h2)
                      (qz_aload_n rfl <|
                        qz_iconst rfl <|
                        qz_putZ kw_1 fp_Checker_36_Checker_take rfl rfl fun h4 =>
                        qz_fall rfl ca_Checker_take_95 <|
                        qz_fgt [0, 0, 0, 1] <| jb_Checker_take_95 G x3 h4))))
          (qz_fall rfl ca_Checker_take_30 <|
            qz_fgt [1, 0, 1, 0] <| jb_Checker_take_30 G l0 x1 h))
def fn_Checker_beginFrame_90 (s0 : Int) (s1 : Int) (h : qz_H) : Option qz_R :=
  qz_ck ((s0 : Int) ≠ 0) <|
  qz_ck ((s1 : Int) = 0 ∨ (s1 : Int) = 1) <|
  qz_ck ((0 : Int) < s0) <|
  qz_bn (qz_up h s0 4 s1) fun h1 =>
  some (0, h1)
def fn_Checker_beginFrame_61 (l0 : Int) (l1 : Int) (l2 : Int) (s0 : Int) (s1 : Int) (h : qz_H) : Option qz_R :=
  qz_ck ((s0 : Int) ≠ 0) <|
  qz_bc (fn_Frame_begin s0 s1 l2 (h l0 4) h) fun _ h2 =>
  qz_ck ((h2 l0 1 : Int) ≠ 0) <|
  qz_ck ((0 : Int) ≤ h2 l0 5 ∧ h2 l0 5 < h2 (h2 l0 1) (-1)) <|
  if ¬ l1 = (-5) then
    fn_Checker_beginFrame_90 (h2 (h2 l0 1) (h2 l0 5)) 0 h2
  else
    fn_Checker_beginFrame_90 (h2 (h2 l0 1) (h2 l0 5)) 1 h2
def fn_Checker_beginFrame_13 (l0 : Int) (l1 : Int) (l2 : Int) (h : qz_H) : Option qz_R :=
  if qz_w ((h l0 5) + 1) < 12 then
    qz_ck ((0 : Int) < l0) <|
    qz_bn (qz_up h l0 5 (qz_w ((h l0 5) + 1))) fun h1 =>
    qz_ck ((h1 l0 1 : Int) ≠ 0) <|
    qz_ck ((0 : Int) ≤ h1 l0 5 ∧ h1 l0 5 < h1 (h1 l0 1) (-1)) <|
    if ¬ l1 = (-4) then
      fn_Checker_beginFrame_61 l0 l1 l2 (h1 (h1 l0 1) (h1 l0 5)) l2 h1
    else
      fn_Checker_beginFrame_61 l0 l1 l2 (h1 (h1 l0 1) (h1 l0 5)) 0 h1
  else
    qz_ck ((1 : Int) = 0 ∨ (1 : Int) = 1) <|
    qz_ck ((0 : Int) < l0) <|
    qz_bn (qz_up h l0 6 1) fun h2 =>
    some (0, h2)
set_option maxRecDepth 20000 in
def fn_Checker_beginFrame (l0 : Int) (l1 : Int) (l2 : Int) (h : qz_H) : Option qz_R :=
  if ¬ l1 = (-5) then
    fn_Checker_beginFrame_13 l0 l1 l2 h
  else
    qz_bc (fn_Checker_take l0 1 h) fun r1 h2 =>
    fn_Checker_beginFrame_13 l0 l1 l2 h2
def bk_Checker_beginFrame_0 : List (Instr × Nat) := [(.aload_n 1, 1), (.getstatic 151, 3), (.if_acmp .ne 9, 3), (.aload_n 0, 1), (.iconst 1, 1), (.invokevirtual 125, 3), (.pop, 1)]
def bk_Checker_beginFrame_13 : List (Instr × Nat) := [(.aload_n 0, 1), (.getfield 58, 3), (.iconst 1, 1), (.iadd, 1), (.bipush 12, 2), (.if_icmp .lt 9, 3), (.aload_n 0, 1), (.iconst 1, 1), (.putfield 36, 3), (.return_, 1)]
def bk_Checker_beginFrame_30 : List (Instr × Nat) := [(.aload_n 0, 1), (.dup, 1), (.getfield 58, 3), (.iconst 1, 1), (.iadd, 1), (.putfield 58, 3), (.aload_n 0, 1), (.getfield 17, 3), (.aload_n 0, 1), (.getfield 58, 3), (.aaload, 1), (.aload_n 1, 1), (.getstatic 155, 3), (.if_acmp .ne 7, 3), (.iconst 0, 1), (.goto 4, 3)]
def bk_Checker_beginFrame_60 : List (Instr × Nat) := [(.iload_n 2, 1)]
def bk_Checker_beginFrame_61 : List (Instr × Nat) := [(.iload_n 2, 1), (.aload_n 0, 1), (.getfield 55, 3), (.invokevirtual 66, 3), (.aload_n 0, 1), (.getfield 17, 3), (.aload_n 0, 1), (.getfield 58, 3), (.aaload, 1), (.aload_n 1, 1), (.getstatic 151, 3), (.if_acmp .ne 7, 3), (.iconst 1, 1), (.goto 4, 3)]
def bk_Checker_beginFrame_89 : List (Instr × Nat) := [(.iconst 0, 1)]
def bk_Checker_beginFrame_90 : List (Instr × Nat) := [(.putfield 158, 3), (.return_, 1)]
theorem ca_Checker_beginFrame_0 : qz_ca yd_Checker_beginFrame.2.1 0 bk_Checker_beginFrame_0 := qz_cab_ok _ _ (by decide +kernel)
theorem ca_Checker_beginFrame_13 : qz_ca yd_Checker_beginFrame.2.1 13 bk_Checker_beginFrame_13 := qz_cab_ok _ _ (by decide +kernel)
theorem ca_Checker_beginFrame_30 : qz_ca yd_Checker_beginFrame.2.1 30 bk_Checker_beginFrame_30 := qz_cab_ok _ _ (by decide +kernel)
theorem ca_Checker_beginFrame_60 : qz_ca yd_Checker_beginFrame.2.1 60 bk_Checker_beginFrame_60 := qz_cab_ok _ _ (by decide +kernel)
theorem ca_Checker_beginFrame_61 : qz_ca yd_Checker_beginFrame.2.1 61 bk_Checker_beginFrame_61 := qz_cab_ok _ _ (by decide +kernel)
theorem ca_Checker_beginFrame_89 : qz_ca yd_Checker_beginFrame.2.1 89 bk_Checker_beginFrame_89 := qz_cab_ok _ _ (by decide +kernel)
theorem ca_Checker_beginFrame_90 : qz_ca yd_Checker_beginFrame.2.1 90 bk_Checker_beginFrame_90 := qz_cab_ok _ _ (by decide +kernel)
set_option maxRecDepth 20000 in
theorem jb_Checker_beginFrame_90 (G : qz_G) (s0 : Int) (s1 : Int) (h : qz_H) : qz_J yd_Checker_beginFrame G bk_Checker_beginFrame_90 90 [qz_u, qz_u, qz_u] [qz_i s1, qz_r false 3 s0] h 0 0 (fn_Checker_beginFrame_90 s0 s1 h) := by
  unfold fn_Checker_beginFrame_90 bk_Checker_beginFrame_90; exact
    qz_nnd 1 rfl <|
    qz_putZ kw_3 fp_Checker_158_Checker_beginFrame rfl rfl fun h1 =>
    qz_return ⟨rfl, rfl⟩ rfl
set_option maxRecDepth 20000 in
theorem jb_Checker_beginFrame_61 (G : qz_G) (l0 : Int) (l1 : Int) (l2 : Int) (s0 : Int) (s1 : Int) (h : qz_H) : qz_J yd_Checker_beginFrame G bk_Checker_beginFrame_61 61 [qz_r true 1 l0, qz_r false 7 l1, qz_i l2] [qz_i s1, qz_r false 3 s0] h 0 0 (fn_Checker_beginFrame_61 l0 l1 l2 s0 s1 h) := by
  unfold fn_Checker_beginFrame_61 bk_Checker_beginFrame_61; exact
    qz_iload_n rfl <|
    qz_aload_n rfl <|
    qz_getI kg_1 fl_Checker_55 rfl rfl <|
    qz_nnd 3 rfl <|
    qz_invvV [qz_i s1, qz_i l2, qz_i (h l0 4)] rfl (cn_Frame_begin s0 s1 l2 (h l0 4) h) mw_Frame_begin vw_Frame_begin ⟨_, rfl, rfl, by decide⟩ rfl rfl ln_Checker_66 rfl fun _ h2 =>
    qz_aload_n rfl <|
    qz_getR (k1 := 48) kg_1 fl_Checker_17 rfl rfl <|
    qz_aload_n rfl <|
    qz_getI kg_1 fl_Checker_58 rfl rfl <|
    qz_nnd 1 rfl <|
    qz_aald (k0 := 48) (k1 := 3) rfl rfl rfl <|
    qz_aload_n rfl <|
    qz_getsR sz_Op_IF sl_Checker_151 rfl <|
    qz_acmp_ne rfl ca_Checker_beginFrame_89
      (qz_iconst rfl <|
        qz_fall rfl ca_Checker_beginFrame_90 <|
        qz_fgt [0, 0, 0] <| jb_Checker_beginFrame_90 G (h2 (h2 l0 1) (h2 l0 5)) 0 h2)
      (qz_iconst rfl <|
        qz_goto rfl ca_Checker_beginFrame_90 <|
        qz_fgt [0, 0, 0] <| jb_Checker_beginFrame_90 G (h2 (h2 l0 1) (h2 l0 5)) 1 h2)
set_option maxRecDepth 20000 in
theorem jb_Checker_beginFrame_13 (G : qz_G) (l0 : Int) (l1 : Int) (l2 : Int) (h : qz_H) : qz_J yd_Checker_beginFrame G bk_Checker_beginFrame_13 13 [qz_r true 1 l0, qz_r false 7 l1, qz_i l2] [] h 0 0 (fn_Checker_beginFrame_13 l0 l1 l2 h) := by
  unfold fn_Checker_beginFrame_13 bk_Checker_beginFrame_13; exact
    qz_aload_n rfl <|
    qz_getI kg_1 fl_Checker_58 rfl rfl <|
    qz_iconst rfl <|
    qz_iadd <|
    qz_bipush rfl <|
    qz_icmp_lt rfl ca_Checker_beginFrame_30
      (qz_aload_n rfl <|
        qz_dup rfl <|
        qz_getI kg_1 fl_Checker_58 rfl rfl <|
        qz_iconst rfl <|
        qz_iadd <|
        qz_putI kw_1 fp_Checker_58_Checker_beginFrame rfl rfl fun h1 =>
        qz_aload_n rfl <|
        qz_getR (k1 := 48) kg_1 fl_Checker_17 rfl rfl <|
        qz_aload_n rfl <|
        qz_getI kg_1 fl_Checker_58 rfl rfl <|
        qz_nnd 1 rfl <|
        qz_aald (k0 := 48) (k1 := 3) rfl rfl rfl <|
        qz_aload_n rfl <|
        qz_getsR sz_Op_LOOP sl_Checker_155 rfl <|
        qz_acmp_ne rfl ca_Checker_beginFrame_60
          (qz_iload_n rfl <|
            qz_fall rfl ca_Checker_beginFrame_61 <|
            qz_fgt [1, 1, 1] <| jb_Checker_beginFrame_61 G l0 l1 l2 (h1 (h1 l0 1) (h1 l0 5)) l2 h1)
          (qz_iconst rfl <|
            qz_goto rfl ca_Checker_beginFrame_61 <|
            qz_fgt [1, 1, 1] <| jb_Checker_beginFrame_61 G l0 l1 l2 (h1 (h1 l0 1) (h1 l0 5)) 0 h1))
      (qz_aload_n rfl <|
        qz_iconst rfl <|
        qz_putZ kw_1 fp_Checker_36_Checker_beginFrame rfl rfl fun h2 =>
        qz_return ⟨rfl, rfl⟩ rfl)
set_option maxRecDepth 20000 in
theorem cn_Checker_beginFrame (l0 : Int) (l1 : Int) (l2 : Int) (h : qz_H) : qz_C yd_Checker_beginFrame [qz_r true 1 l0, qz_r false 7 l1, qz_i l2] h (fn_Checker_beginFrame l0 l1 l2 h) := by
  refine qz_con (is := bk_Checker_beginFrame_0) (ls := [qz_r true 1 l0, qz_r false 7 l1, qz_i l2]) mw_Checker_beginFrame.2.2.2 ca_Checker_beginFrame_0 rfl rfl rfl fun G => ?_
  unfold fn_Checker_beginFrame bk_Checker_beginFrame_0; exact
    qz_aload_n rfl <|
    qz_getsR sz_Op_IF sl_Checker_151 rfl <|
    qz_acmp_ne rfl ca_Checker_beginFrame_13
      (qz_fgt [1, 1, 1] <| jb_Checker_beginFrame_13 G l0 l1 l2 h)
      (qz_aload_n rfl <|
        qz_iconst rfl <|
        qz_invvI [qz_i 1] rfl (cn_Checker_take l0 1 h) mw_Checker_take vw_Checker_take ⟨_, rfl, rfl, by decide⟩ rfl rfl ln_Checker_125 rfl fun r1 h2 =>
        qz_pop rfl <|
        qz_fall rfl ca_Checker_beginFrame_13 <|
        qz_fgt [1, 1, 1] <| jb_Checker_beginFrame_13 G l0 l1 l2 h2)
def fn_Checker_takeResult_10 (h : qz_H) : Option qz_R :=
  some (0, h)
set_option maxRecDepth 20000 in
def fn_Checker_takeResult (l0 : Int) (l1 : Int) (h : qz_H) : Option qz_R :=
  if l1 = 0 then
    fn_Checker_takeResult_10 h
  else
    qz_bc (fn_Checker_take l0 l1 h) fun r1 h2 =>
    fn_Checker_takeResult_10 h2
def bk_Checker_takeResult_0 : List (Instr × Nat) := [(.iload_n 1, 1), (.ifCond .eq 9, 3), (.aload_n 0, 1), (.iload_n 1, 1), (.invokevirtual 125, 3), (.pop, 1)]
def bk_Checker_takeResult_10 : List (Instr × Nat) := [(.return_, 1)]
theorem ca_Checker_takeResult_0 : qz_ca yd_Checker_takeResult.2.1 0 bk_Checker_takeResult_0 := qz_cab_ok _ _ (by decide +kernel)
theorem ca_Checker_takeResult_10 : qz_ca yd_Checker_takeResult.2.1 10 bk_Checker_takeResult_10 := qz_cab_ok _ _ (by decide +kernel)
set_option maxRecDepth 20000 in
theorem jb_Checker_takeResult_10 (G : qz_G) (h : qz_H) : qz_J yd_Checker_takeResult G bk_Checker_takeResult_10 10 [qz_u, qz_u] [] h 0 0 (fn_Checker_takeResult_10 h) := by
  unfold fn_Checker_takeResult_10 bk_Checker_takeResult_10; exact
    qz_return ⟨rfl, rfl⟩ rfl
set_option maxRecDepth 20000 in
theorem cn_Checker_takeResult (l0 : Int) (l1 : Int) (h : qz_H) : qz_C yd_Checker_takeResult [qz_r true 1 l0, qz_i l1] h (fn_Checker_takeResult l0 l1 h) := by
  refine qz_con (is := bk_Checker_takeResult_0) (ls := [qz_r true 1 l0, qz_i l1]) mw_Checker_takeResult.2.2.2 ca_Checker_takeResult_0 rfl rfl rfl fun G => ?_
  unfold fn_Checker_takeResult bk_Checker_takeResult_0; exact
    qz_iload_n rfl <|
    qz_if_eq rfl ca_Checker_takeResult_10
      (qz_fgt [0, 0] <| jb_Checker_takeResult_10 G h)
      (qz_aload_n rfl <|
        qz_iload_n rfl <|
        qz_invvI [qz_i l1] rfl (cn_Checker_take l0 l1 h) mw_Checker_take vw_Checker_take ⟨_, rfl, rfl, by decide⟩ rfl rfl ln_Checker_125 rfl fun r1 h2 =>
        qz_pop rfl <|
        qz_fall rfl ca_Checker_takeResult_10 <|
        qz_fgt [0, 0] <| jb_Checker_takeResult_10 G h2)
def fn_Checker_endFrame_40 (h : qz_H) : Option qz_R :=
  some (0, h)
set_option maxRecDepth 20000 in
def fn_Checker_endFrame (l0 : Int) (h : qz_H) : Option qz_R :=
  qz_ck ((h l0 1 : Int) ≠ 0) <|
  qz_ck ((0 : Int) ≤ h l0 5 ∧ h l0 5 < h (h l0 1) (-1)) <|
  qz_ck ((h (h l0 1) (h l0 5) : Int) ≠ 0) <|
  qz_bc (fn_Checker_takeResult l0 (h (h (h l0 1) (h l0 5)) 1) h) fun _ h2 =>
  qz_ck ((h2 l0 1 : Int) ≠ 0) <|
  qz_ck ((0 : Int) ≤ h2 l0 5 ∧ h2 l0 5 < h2 (h2 l0 1) (-1)) <|
  qz_ck ((h2 (h2 l0 1) (h2 l0 5) : Int) ≠ 0) <|
  if h2 l0 4 = h2 (h2 (h2 l0 1) (h2 l0 5)) 2 then
    fn_Checker_endFrame_40 h2
  else
    qz_ck ((1 : Int) = 0 ∨ (1 : Int) = 1) <|
    qz_ck ((0 : Int) < l0) <|
    qz_bn (qz_up h2 l0 6 1) fun h3 =>
    fn_Checker_endFrame_40 h3
def bk_Checker_endFrame_0 : List (Instr × Nat) := [(.aload_n 0, 1), (.aload_n 0, 1), (.getfield 17, 3), (.aload_n 0, 1), (.getfield 58, 3), (.aaload, 1), (.getfield 161, 3), (.invokevirtual 114, 3), (.aload_n 0, 1), (.getfield 55, 3), (.aload_n 0, 1), (.getfield 17, 3), (.aload_n 0, 1), (.getfield 58, 3), (.aaload, 1), (.getfield 162, 3), (.if_icmp .eq 8, 3), (.aload_n 0, 1), (.iconst 1, 1), (.putfield 36, 3)]
def bk_Checker_endFrame_40 : List (Instr × Nat) := [(.return_, 1)]
theorem ca_Checker_endFrame_0 : qz_ca yd_Checker_endFrame.2.1 0 bk_Checker_endFrame_0 := qz_cab_ok _ _ (by decide +kernel)
theorem ca_Checker_endFrame_40 : qz_ca yd_Checker_endFrame.2.1 40 bk_Checker_endFrame_40 := qz_cab_ok _ _ (by decide +kernel)
set_option maxRecDepth 20000 in
theorem jb_Checker_endFrame_40 (G : qz_G) (h : qz_H) : qz_J yd_Checker_endFrame G bk_Checker_endFrame_40 40 [qz_u] [] h 0 0 (fn_Checker_endFrame_40 h) := by
  unfold fn_Checker_endFrame_40 bk_Checker_endFrame_40; exact
    qz_return ⟨rfl, rfl⟩ rfl
set_option maxRecDepth 20000 in
theorem cn_Checker_endFrame (l0 : Int) (h : qz_H) : qz_C yd_Checker_endFrame [qz_r true 1 l0] h (fn_Checker_endFrame l0 h) := by
  refine qz_con (is := bk_Checker_endFrame_0) (ls := [qz_r true 1 l0]) mw_Checker_endFrame.2.2.2 ca_Checker_endFrame_0 rfl rfl rfl fun G => ?_
  unfold fn_Checker_endFrame bk_Checker_endFrame_0; exact
    qz_aload_n rfl <|
    qz_aload_n rfl <|
    qz_getR (k1 := 48) kg_1 fl_Checker_17 rfl rfl <|
    qz_aload_n rfl <|
    qz_getI kg_1 fl_Checker_58 rfl rfl <|
    qz_nnd 1 rfl <|
    qz_aald (k0 := 48) (k1 := 3) rfl rfl rfl <|
    qz_nnd 0 rfl <|
    qz_getI kg_3 fl_Checker_161 rfl rfl <|
    qz_invvV [qz_i (h (h (h l0 1) (h l0 5)) 1)] rfl (cn_Checker_takeResult l0 (h (h (h l0 1) (h l0 5)) 1) h) mw_Checker_takeResult vw_Checker_takeResult ⟨_, rfl, rfl, by decide⟩ rfl rfl ln_Checker_114 rfl fun _ h2 =>
    qz_aload_n rfl <|
    qz_getI kg_1 fl_Checker_55 rfl rfl <|
    qz_aload_n rfl <|
    qz_getR (k1 := 48) kg_1 fl_Checker_17 rfl rfl <|
    qz_aload_n rfl <|
    qz_getI kg_1 fl_Checker_58 rfl rfl <|
    qz_nnd 1 rfl <|
    qz_aald (k0 := 48) (k1 := 3) rfl rfl rfl <|
    qz_nnd 0 rfl <|
    qz_getI kg_3 fl_Checker_162 rfl rfl <|
    qz_icmp_eq rfl ca_Checker_endFrame_40
      (qz_fgt [0] <| jb_Checker_endFrame_40 G h2)
      (qz_aload_n rfl <|
        qz_iconst rfl <|
        qz_putZ kw_1 fp_Checker_36_Checker_endFrame rfl rfl fun h3 =>
        qz_fall rfl ca_Checker_endFrame_40 <|
        qz_fgt [0] <| jb_Checker_endFrame_40 G h3)
set_option maxRecDepth 20000 in
def fn_Checker_restartFrame (l0 : Int) (h : qz_H) : Option qz_R :=
  qz_ck ((h l0 1 : Int) ≠ 0) <|
  qz_ck ((0 : Int) ≤ h l0 5 ∧ h l0 5 < h (h l0 1) (-1)) <|
  qz_bn (h (h l0 1) (h l0 5) : Int) fun x1 =>
  qz_ck ((x1 : Int) ≠ 0) <|
  qz_ck ((0 : Int) < l0) <|
  qz_bn (qz_up h l0 4 (h x1 2)) fun h2 =>
  qz_ck ((x1 : Int) ≠ 0) <|
  qz_ck ((0 : Int) = 0 ∨ (0 : Int) = 1) <|
  qz_ck ((0 : Int) < x1) <|
  qz_bn (qz_up h2 x1 3 0) fun h3 =>
  qz_ck ((x1 : Int) ≠ 0) <|
  qz_ck ((0 : Int) = 0 ∨ (0 : Int) = 1) <|
  qz_ck ((0 : Int) < x1) <|
  qz_bn (qz_up h3 x1 4 0) fun h4 =>
  some (0, h4)
def bk_Checker_restartFrame_0 : List (Instr × Nat) := [(.aload_n 0, 1), (.getfield 17, 3), (.aload_n 0, 1), (.getfield 58, 3), (.aaload, 1), (.astore_n 1, 1), (.aload_n 0, 1), (.aload_n 1, 1), (.getfield 162, 3), (.putfield 55, 3), (.aload_n 1, 1), (.iconst 0, 1), (.putfield 163, 3), (.aload_n 1, 1), (.iconst 0, 1), (.putfield 158, 3), (.return_, 1)]
theorem ca_Checker_restartFrame_0 : qz_ca yd_Checker_restartFrame.2.1 0 bk_Checker_restartFrame_0 := qz_cab_ok _ _ (by decide +kernel)
set_option maxRecDepth 20000 in
theorem cn_Checker_restartFrame (l0 : Int) (h : qz_H) : qz_C yd_Checker_restartFrame [qz_r true 1 l0] h (fn_Checker_restartFrame l0 h) := by
  refine qz_con (is := bk_Checker_restartFrame_0) (ls := [qz_r true 1 l0, qz_u]) mw_Checker_restartFrame.2.2.2 ca_Checker_restartFrame_0 rfl rfl rfl fun G => ?_
  unfold fn_Checker_restartFrame bk_Checker_restartFrame_0; exact
    qz_aload_n rfl <|
    qz_getR (k1 := 48) kg_1 fl_Checker_17 rfl rfl <|
    qz_aload_n rfl <|
    qz_getI kg_1 fl_Checker_58 rfl rfl <|
    qz_nnd 1 rfl <|
    qz_aald (k0 := 48) (k1 := 3) rfl rfl rfl <|
    qz_astore_n (by decide) fun x1 =>
    qz_aload_n rfl <|
    qz_aload_n rfl <|
    qz_nnd 0 rfl <|
    qz_getI kg_3 fl_Checker_162 rfl rfl <|
    qz_putI kw_1 fp_Checker_55_Checker_restartFrame rfl rfl fun h2 =>
    qz_aload_n rfl <|
    qz_iconst rfl <|
    qz_nnd 1 rfl <|
    qz_putZ kw_3 fp_Checker_163_Checker_restartFrame rfl rfl fun h3 =>
    qz_aload_n rfl <|
    qz_iconst rfl <|
    qz_nnd 1 rfl <|
    qz_putZ kw_3 fp_Checker_158_Checker_restartFrame rfl rfl fun h4 =>
    qz_return ⟨rfl, rfl⟩ rfl
