def fn_Checker_put_40 (h : qz_H) : Option qz_R :=
  some (0, h)
set_option maxRecDepth 20000 in
def fn_Checker_put (l0 : Int) (l1 : Int) (h : qz_H) : Option qz_R :=
  if l1 = 0 then
    fn_Checker_put_40 h
  else
    if h l0 4 < 0 then
      fn_Checker_put_40 h
    else
      if 64 ≤ h l0 4 then
        fn_Checker_put_40 h
      else
        qz_ck ((h l0 0 : Int) ≠ 0) <|
        qz_ck (0 < h l0 0 ∧ (0 : Int) ≤ h l0 4 ∧ h l0 4 < h (h l0 0) (-1)) <|
        qz_bn (qz_up h (h l0 0) (h l0 4) l1) fun h1 =>
        qz_ck ((0 : Int) < l0) <|
        qz_bn (qz_up h1 l0 4 (qz_w ((h1 l0 4) + 1))) fun h2 =>
        fn_Checker_put_40 h2
def bk_Checker_put_0 : List (Instr × Nat) := [(.iload_n 1, 1), (.ifCond .eq 39, 3), (.aload_n 0, 1), (.getfield 55, 3), (.ifCond .lt 32, 3), (.aload_n 0, 1), (.getfield 55, 3), (.bipush 64, 2), (.if_icmp .ge 23, 3), (.aload_n 0, 1), (.getfield 9, 3), (.aload_n 0, 1), (.getfield 55, 3), (.iload_n 1, 1), (.iastore, 1), (.aload_n 0, 1), (.dup, 1), (.getfield 55, 3), (.iconst 1, 1), (.iadd, 1), (.putfield 55, 3)]
def bk_Checker_put_40 : List (Instr × Nat) := [(.return_, 1)]
theorem ca_Checker_put_0 : qz_ca yd_Checker_put.2.1 0 bk_Checker_put_0 := qz_cab_ok _ _ (by decide +kernel)
theorem ca_Checker_put_40 : qz_ca yd_Checker_put.2.1 40 bk_Checker_put_40 := qz_cab_ok _ _ (by decide +kernel)
set_option maxRecDepth 20000 in
theorem jb_Checker_put_40 (G : qz_G) (h : qz_H) : qz_J yd_Checker_put G bk_Checker_put_40 40 [qz_u, qz_u] [] h 0 0 (fn_Checker_put_40 h) := by
  unfold fn_Checker_put_40 bk_Checker_put_40; exact
    qz_return ⟨rfl, rfl⟩ rfl
set_option maxRecDepth 20000 in
theorem cn_Checker_put (l0 : Int) (l1 : Int) (h : qz_H) : qz_C yd_Checker_put [qz_r true 1 l0, qz_i l1] h (fn_Checker_put l0 l1 h) := by
  refine qz_con (is := bk_Checker_put_0) (ls := [qz_r true 1 l0, qz_i l1]) mw_Checker_put.2.2.2 ca_Checker_put_0 rfl rfl rfl fun G => ?_
  unfold fn_Checker_put bk_Checker_put_0; exact
    qz_iload_n rfl <|
    qz_if_eq rfl ca_Checker_put_40
      (qz_fgt [0, 0] <| jb_Checker_put_40 G h)
      (qz_aload_n rfl <|
        qz_getI kg_1 fl_Checker_55 rfl rfl <|
        qz_if_lt rfl ca_Checker_put_40
          (qz_fgt [0, 0] <| jb_Checker_put_40 G h)
          (qz_aload_n rfl <|
            qz_getI kg_1 fl_Checker_55 rfl rfl <|
            qz_bipush rfl <|
            qz_icmp_ge rfl ca_Checker_put_40
              (qz_fgt [0, 0] <| jb_Checker_put_40 G h)
              (qz_aload_n rfl <|
                qz_getR (k1 := 40) kg_1 fl_Checker_9 rfl rfl <|
                qz_aload_n rfl <|
                qz_getI kg_1 fl_Checker_55 rfl rfl <|
                qz_iload_n rfl <|
                qz_nnd 2 rfl <|
                qz_iast rfl rfl rfl fun h1 =>
                qz_aload_n rfl <|
                qz_dup rfl <|
                qz_getI kg_1 fl_Checker_55 rfl rfl <|
                qz_iconst rfl <|
                qz_iadd <|
                qz_putI kw_1 fp_Checker_55_Checker_put rfl rfl fun h2 =>
                qz_fall rfl ca_Checker_put_40 <|
                qz_fgt [0, 0] <| jb_Checker_put_40 G h2)))
def fn_Checker_leaveFrame_33 (l0 : Int) (l1 : Int) (h : qz_H) : Option qz_R :=
  qz_ck ((0 : Int) < l0) <|
  qz_bn (qz_up h l0 5 (qz_max 0 (qz_w ((h l0 5) - 1)))) fun h1 =>
  qz_ck ((l1 : Int) ≠ 0) <|
  qz_bc (fn_Checker_put l0 (h1 l1 1) h1) fun _ h3 =>
  some (0, h3)
set_option maxRecDepth 20000 in
def fn_Checker_leaveFrame (l0 : Int) (h : qz_H) : Option qz_R :=
  qz_ck ((h l0 1 : Int) ≠ 0) <|
  qz_ck ((0 : Int) ≤ h l0 5 ∧ h l0 5 < h (h l0 1) (-1)) <|
  qz_bn (h (h l0 1) (h l0 5) : Int) fun x1 =>
  qz_bc (fn_Checker_endFrame l0 h) fun _ h3 =>
  qz_ck ((x1 : Int) ≠ 0) <|
  if h3 x1 4 = 0 then
    fn_Checker_leaveFrame_33 l0 x1 h3
  else
    qz_ck ((x1 : Int) ≠ 0) <|
    if h3 x1 1 = 0 then
      fn_Checker_leaveFrame_33 l0 x1 h3
    else
      qz_ck ((1 : Int) = 0 ∨ (1 : Int) = 1) <|
      qz_ck ((0 : Int) < l0) <|
      qz_bn (qz_up h3 l0 6 1) fun h4 =>
      fn_Checker_leaveFrame_33 l0 x1 h4
def bk_Checker_leaveFrame_0 : List (Instr × Nat) := [(.aload_n 0, 1), (.getfield 17, 3), (.aload_n 0, 1), (.getfield 58, 3), (.aaload, 1), (.astore_n 1, 1), (.aload_n 0, 1), (.invokevirtual 88, 3), (.aload_n 1, 1), (.getfield 158, 3), (.ifCond .eq 15, 3), (.aload_n 1, 1), (.getfield 161, 3), (.ifCond .eq 8, 3), (.aload_n 0, 1), (.iconst 1, 1), (.putfield 36, 3)]
def bk_Checker_leaveFrame_33 : List (Instr × Nat) := [(.aload_n 0, 1), (.iconst 0, 1), (.aload_n 0, 1), (.getfield 58, 3), (.iconst 1, 1), (.isub, 1), (.invokestatic 166, 3), (.putfield 58, 3), (.aload_n 0, 1), (.aload_n 1, 1), (.getfield 161, 3), (.invokevirtual 148, 3), (.return_, 1)]
theorem ca_Checker_leaveFrame_0 : qz_ca yd_Checker_leaveFrame.2.1 0 bk_Checker_leaveFrame_0 := qz_cab_ok _ _ (by decide +kernel)
theorem ca_Checker_leaveFrame_33 : qz_ca yd_Checker_leaveFrame.2.1 33 bk_Checker_leaveFrame_33 := qz_cab_ok _ _ (by decide +kernel)
set_option maxRecDepth 20000 in
theorem jb_Checker_leaveFrame_33 (G : qz_G) (l0 : Int) (l1 : Int) (h : qz_H) : qz_J yd_Checker_leaveFrame G bk_Checker_leaveFrame_33 33 [qz_r true 1 l0, qz_r false 3 l1] [] h 0 0 (fn_Checker_leaveFrame_33 l0 l1 h) := by
  unfold fn_Checker_leaveFrame_33 bk_Checker_leaveFrame_33; exact
    qz_aload_n rfl <|
    qz_iconst rfl <|
    qz_aload_n rfl <|
    qz_getI kg_1 fl_Checker_58 rfl rfl <|
    qz_iconst rfl <|
    qz_isub <|
    qz_mmax ma_Checker_166 rfl <|
    qz_putI kw_1 fp_Checker_58_Checker_leaveFrame rfl rfl fun h1 =>
    qz_aload_n rfl <|
    qz_aload_n rfl <|
    qz_nnd 0 rfl <|
    qz_getI kg_3 fl_Checker_161 rfl rfl <|
    qz_invvV [qz_i (h1 l1 1)] rfl (cn_Checker_put l0 (h1 l1 1) h1) mw_Checker_put vw_Checker_put ⟨_, rfl, rfl, by decide⟩ rfl rfl ln_Checker_148 rfl fun _ h3 =>
    qz_return ⟨rfl, rfl⟩ rfl
set_option maxRecDepth 20000 in
theorem cn_Checker_leaveFrame (l0 : Int) (h : qz_H) : qz_C yd_Checker_leaveFrame [qz_r true 1 l0] h (fn_Checker_leaveFrame l0 h) := by
  refine qz_con (is := bk_Checker_leaveFrame_0) (ls := [qz_r true 1 l0, qz_u]) mw_Checker_leaveFrame.2.2.2 ca_Checker_leaveFrame_0 rfl rfl rfl fun G => ?_
  unfold fn_Checker_leaveFrame bk_Checker_leaveFrame_0; exact
    qz_aload_n rfl <|
    qz_getR (k1 := 48) kg_1 fl_Checker_17 rfl rfl <|
    qz_aload_n rfl <|
    qz_getI kg_1 fl_Checker_58 rfl rfl <|
    qz_nnd 1 rfl <|
    qz_aald (k0 := 48) (k1 := 3) rfl rfl rfl <|
    qz_astore_n (by decide) fun x1 =>
    qz_aload_n rfl <|
    qz_invvV [] rfl (cn_Checker_endFrame l0 h) mw_Checker_endFrame vw_Checker_endFrame ⟨_, rfl, rfl, by decide⟩ rfl rfl ln_Checker_88 rfl fun _ h3 =>
    qz_aload_n rfl <|
    qz_nnd 0 rfl <|
    qz_getI kg_3 fl_Checker_158 rfl rfl <|
    qz_if_eq rfl ca_Checker_leaveFrame_33
      (qz_fgt [1, 1] <| jb_Checker_leaveFrame_33 G l0 x1 h3)
      (qz_aload_n rfl <|
        qz_nnd 0 rfl <|
        qz_getI kg_3 fl_Checker_161 rfl rfl <|
        qz_if_eq rfl ca_Checker_leaveFrame_33
          (qz_fgt [1, 1] <| jb_Checker_leaveFrame_33 G l0 x1 h3)
          (qz_aload_n rfl <|
            qz_iconst rfl <|
            qz_putZ kw_1 fp_Checker_36_Checker_leaveFrame rfl rfl fun h4 =>
            qz_fall rfl ca_Checker_leaveFrame_33 <|
            qz_fgt [1, 1] <| jb_Checker_leaveFrame_33 G l0 x1 h4))
set_option maxRecDepth 20000 in
def fn_Checker_makeUnreachable (l0 : Int) (h : qz_H) : Option qz_R :=
  qz_ck ((h l0 1 : Int) ≠ 0) <|
  qz_ck ((0 : Int) ≤ h l0 5 ∧ h l0 5 < h (h l0 1) (-1)) <|
  qz_ck ((h (h l0 1) (h l0 5) : Int) ≠ 0) <|
  qz_ck ((0 : Int) < l0) <|
  qz_bn (qz_up h l0 4 (h (h (h l0 1) (h l0 5)) 2)) fun h1 =>
  qz_ck ((h1 l0 1 : Int) ≠ 0) <|
  qz_ck ((0 : Int) ≤ h1 l0 5 ∧ h1 l0 5 < h1 (h1 l0 1) (-1)) <|
  qz_ck ((h1 (h1 l0 1) (h1 l0 5) : Int) ≠ 0) <|
  qz_ck ((1 : Int) = 0 ∨ (1 : Int) = 1) <|
  qz_ck ((0 : Int) < h1 (h1 l0 1) (h1 l0 5)) <|
  qz_bn (qz_up h1 (h1 (h1 l0 1) (h1 l0 5)) 3 1) fun h2 =>
  some (0, h2)
def bk_Checker_makeUnreachable_0 : List (Instr × Nat) := [(.aload_n 0, 1), (.aload_n 0, 1), (.getfield 17, 3), (.aload_n 0, 1), (.getfield 58, 3), (.aaload, 1), (.getfield 162, 3), (.putfield 55, 3), (.aload_n 0, 1), (.getfield 17, 3), (.aload_n 0, 1), (.getfield 58, 3), (.aaload, 1), (.iconst 1, 1), (.putfield 163, 3), (.return_, 1)]
theorem ca_Checker_makeUnreachable_0 : qz_ca yd_Checker_makeUnreachable.2.1 0 bk_Checker_makeUnreachable_0 := qz_cab_ok _ _ (by decide +kernel)
set_option maxRecDepth 20000 in
theorem cn_Checker_makeUnreachable (l0 : Int) (h : qz_H) : qz_C yd_Checker_makeUnreachable [qz_r true 1 l0] h (fn_Checker_makeUnreachable l0 h) := by
  refine qz_con (is := bk_Checker_makeUnreachable_0) (ls := [qz_r true 1 l0]) mw_Checker_makeUnreachable.2.2.2 ca_Checker_makeUnreachable_0 rfl rfl rfl fun G => ?_
  unfold fn_Checker_makeUnreachable bk_Checker_makeUnreachable_0; exact
    qz_aload_n rfl <|
    qz_aload_n rfl <|
    qz_getR (k1 := 48) kg_1 fl_Checker_17 rfl rfl <|
    qz_aload_n rfl <|
    qz_getI kg_1 fl_Checker_58 rfl rfl <|
    qz_nnd 1 rfl <|
    qz_aald (k0 := 48) (k1 := 3) rfl rfl rfl <|
    qz_nnd 0 rfl <|
    qz_getI kg_3 fl_Checker_162 rfl rfl <|
    qz_putI kw_1 fp_Checker_55_Checker_makeUnreachable rfl rfl fun h1 =>
    qz_aload_n rfl <|
    qz_getR (k1 := 48) kg_1 fl_Checker_17 rfl rfl <|
    qz_aload_n rfl <|
    qz_getI kg_1 fl_Checker_58 rfl rfl <|
    qz_nnd 1 rfl <|
    qz_aald (k0 := 48) (k1 := 3) rfl rfl rfl <|
    qz_iconst rfl <|
    qz_nnd 1 rfl <|
    qz_putZ kw_3 fp_Checker_163_Checker_makeUnreachable rfl rfl fun h2 =>
    qz_return ⟨rfl, rfl⟩ rfl
def fn_Checker_checkBranch_29 (l0 : Int) (h : qz_H) : Option qz_R :=
  qz_ck ((1 : Int) = 0 ∨ (1 : Int) = 1) <|
  qz_ck ((0 : Int) < l0) <|
  qz_bn (qz_up h l0 6 1) fun h1 =>
  some (0, h1)
def fn_Checker_checkBranch_78 (h : qz_H) : Option qz_R :=
  some (0, h)
def fn_Checker_checkBranch_13 (l0 : Int) (l1 : Int) (l2 : Int) (h : qz_H) : Option qz_R :=
  if qz_cmp l2 0 < 0 then
    fn_Checker_checkBranch_29 l0 h
  else
    if qz_cmp l2 (h l0 5) ≤ 0 then
      qz_ck ((h l0 1 : Int) ≠ 0) <|
      qz_ck ((0 : Int) ≤ qz_w ((h l0 5) - (qz_w l2)) ∧ qz_w ((h l0 5) - (qz_w l2)) < h (h l0 1) (-1)) <|
      qz_ck ((h (h l0 1) (qz_w ((h l0 5) - (qz_w l2))) : Int) ≠ 0) <|
      qz_bn (h (h (h l0 1) (qz_w ((h l0 5) - (qz_w l2)))) 0 : Int) fun x1 =>
      qz_bc (fn_Checker_takeResult l0 x1 h) fun _ h3 =>
      if ¬ l1 = (-9) then
        qz_bc (fn_Checker_makeUnreachable l0 h3) fun _ h5 =>
        fn_Checker_checkBranch_78 h5
      else
        qz_bc (fn_Checker_put l0 x1 h3) fun _ h7 =>
        fn_Checker_checkBranch_78 h7
    else
      fn_Checker_checkBranch_29 l0 h
set_option maxRecDepth 20000 in
def fn_Checker_checkBranch (l0 : Int) (l1 : Int) (l2 : Int) (h : qz_H) : Option qz_R :=
  if ¬ l1 = (-9) then
    fn_Checker_checkBranch_13 l0 l1 l2 h
  else
    qz_bc (fn_Checker_take l0 1 h) fun r1 h2 =>
    fn_Checker_checkBranch_13 l0 l1 l2 h2
def bk_Checker_checkBranch_0 : List (Instr × Nat) := [(.aload_n 1, 1), (.getstatic 172, 3), (.if_acmp .ne 9, 3), (.aload_n 0, 1), (.iconst 1, 1), (.invokevirtual 125, 3), (.pop, 1)]
def bk_Checker_checkBranch_13 : List (Instr × Nat) := [(.lload_n 2, 1), (.lconst 0, 1), (.lcmp, 1), (.ifCond .lt 13, 3), (.lload_n 2, 1), (.aload_n 0, 1), (.getfield 58, 3), (.i2l, 1), (.lcmp, 1), (.ifCond .le 9, 3)]
def bk_Checker_checkBranch_29 : List (Instr × Nat) := [(.aload_n 0, 1), (.iconst 1, 1), (.putfield 36, 3), (.return_, 1)]
def bk_Checker_checkBranch_35 : List (Instr × Nat) := [(.aload_n 0, 1), (.getfield 17, 3), (.aload_n 0, 1), (.getfield 58, 3), (.lload_n 2, 1), (.l2i, 1), (.isub, 1), (.aaload, 1), (.getfield 175, 3), (.istore 4, 2), (.aload_n 0, 1), (.iload 4, 2), (.invokevirtual 114, 3), (.aload_n 1, 1), (.getstatic 172, 3), (.if_acmp .ne 12, 3), (.aload_n 0, 1), (.iload 4, 2), (.invokevirtual 148, 3), (.goto 7, 3)]
def bk_Checker_checkBranch_74 : List (Instr × Nat) := [(.aload_n 0, 1), (.invokevirtual 118, 3)]
def bk_Checker_checkBranch_78 : List (Instr × Nat) := [(.return_, 1)]
theorem ca_Checker_checkBranch_0 : qz_ca yd_Checker_checkBranch.2.1 0 bk_Checker_checkBranch_0 := qz_cab_ok _ _ (by decide +kernel)
theorem ca_Checker_checkBranch_13 : qz_ca yd_Checker_checkBranch.2.1 13 bk_Checker_checkBranch_13 := qz_cab_ok _ _ (by decide +kernel)
theorem ca_Checker_checkBranch_29 : qz_ca yd_Checker_checkBranch.2.1 29 bk_Checker_checkBranch_29 := qz_cab_ok _ _ (by decide +kernel)
theorem ca_Checker_checkBranch_35 : qz_ca yd_Checker_checkBranch.2.1 35 bk_Checker_checkBranch_35 := qz_cab_ok _ _ (by decide +kernel)
theorem ca_Checker_checkBranch_74 : qz_ca yd_Checker_checkBranch.2.1 74 bk_Checker_checkBranch_74 := qz_cab_ok _ _ (by decide +kernel)
theorem ca_Checker_checkBranch_78 : qz_ca yd_Checker_checkBranch.2.1 78 bk_Checker_checkBranch_78 := qz_cab_ok _ _ (by decide +kernel)
set_option maxRecDepth 20000 in
theorem jb_Checker_checkBranch_29 (G : qz_G) (l0 : Int) (h : qz_H) : qz_J yd_Checker_checkBranch G bk_Checker_checkBranch_29 29 [qz_r true 1 l0, qz_u, qz_u, qz_u, qz_u] [] h 0 0 (fn_Checker_checkBranch_29 l0 h) := by
  unfold fn_Checker_checkBranch_29 bk_Checker_checkBranch_29; exact
    qz_aload_n rfl <|
    qz_iconst rfl <|
    qz_putZ kw_1 fp_Checker_36_Checker_checkBranch rfl rfl fun h1 =>
    qz_return ⟨rfl, rfl⟩ rfl
set_option maxRecDepth 20000 in
theorem jb_Checker_checkBranch_78 (G : qz_G) (h : qz_H) : qz_J yd_Checker_checkBranch G bk_Checker_checkBranch_78 78 [qz_u, qz_u, qz_u, qz_u, qz_u] [] h 0 0 (fn_Checker_checkBranch_78 h) := by
  unfold fn_Checker_checkBranch_78 bk_Checker_checkBranch_78; exact
    qz_return ⟨rfl, rfl⟩ rfl
set_option maxRecDepth 20000 in
theorem jb_Checker_checkBranch_13 (G : qz_G) (l0 : Int) (l1 : Int) (l2 : Int) (h : qz_H) : qz_J yd_Checker_checkBranch G bk_Checker_checkBranch_13 13 [qz_r true 1 l0, qz_r false 7 l1, qz_j l2, qz_u, qz_u] [] h 0 0 (fn_Checker_checkBranch_13 l0 l1 l2 h) := by
  unfold fn_Checker_checkBranch_13 bk_Checker_checkBranch_13; exact
    qz_lload_n rfl <|
    qz_lconst rfl <|
    qz_lcmp <|
    qz_if_lt rfl ca_Checker_checkBranch_29
      (qz_fgt [1, 0, 0, 0, 0] <| jb_Checker_checkBranch_29 G l0 h)
      (qz_lload_n rfl <|
        qz_aload_n rfl <|
        qz_getI kg_1 fl_Checker_58 rfl rfl <|
        qz_i2l <|
        qz_lcmp <|
        qz_if_le rfl ca_Checker_checkBranch_35
          (qz_aload_n rfl <|
            qz_getR (k1 := 48) kg_1 fl_Checker_17 rfl rfl <|
            qz_aload_n rfl <|
            qz_getI kg_1 fl_Checker_58 rfl rfl <|
            qz_lload_n rfl <|
            qz_l2i <|
            qz_isub <|
            qz_nnd 1 rfl <|
            qz_aald (k0 := 48) (k1 := 3) rfl rfl rfl <|
            qz_nnd 0 rfl <|
            qz_getI kg_3 fl_Checker_175 rfl rfl <|
            qz_istore (by decide) fun x1 =>
            qz_aload_n rfl <|
            qz_iload rfl <|
            qz_invvV [qz_i x1] rfl (cn_Checker_takeResult l0 x1 h) mw_Checker_takeResult vw_Checker_takeResult ⟨_, rfl, rfl, by decide⟩ rfl rfl ln_Checker_114 rfl fun _ h3 =>
            qz_aload_n rfl <|
            qz_getsR sz_Op_BR_IF sl_Checker_172 rfl <|
            qz_acmp_ne rfl ca_Checker_checkBranch_74
              (qz_aload_n rfl <|
                qz_invvV [] rfl (cn_Checker_makeUnreachable l0 h3) mw_Checker_makeUnreachable vw_Checker_makeUnreachable ⟨_, rfl, rfl, by decide⟩ rfl rfl ln_Checker_118 rfl fun _ h5 =>
                qz_fall rfl ca_Checker_checkBranch_78 <|
                qz_fgt [0, 0, 0, 0, 0] <| jb_Checker_checkBranch_78 G h5)
              (qz_aload_n rfl <|
                qz_iload rfl <|
                qz_invvV [qz_i x1] rfl (cn_Checker_put l0 x1 h3) mw_Checker_put vw_Checker_put ⟨_, rfl, rfl, by decide⟩ rfl rfl ln_Checker_148 rfl fun _ h7 =>
                qz_goto rfl ca_Checker_checkBranch_78 <|
                qz_fgt [0, 0, 0, 0, 0] <| jb_Checker_checkBranch_78 G h7))
          (qz_fall rfl ca_Checker_checkBranch_29 <|
            qz_fgt [1, 0, 0, 0, 0] <| jb_Checker_checkBranch_29 G l0 h))
set_option maxRecDepth 20000 in
theorem cn_Checker_checkBranch (l0 : Int) (l1 : Int) (l2 : Int) (h : qz_H) : qz_C yd_Checker_checkBranch [qz_r true 1 l0, qz_r false 7 l1, qz_j l2] h (fn_Checker_checkBranch l0 l1 l2 h) := by
  refine qz_con (is := bk_Checker_checkBranch_0) (ls := [qz_r true 1 l0, qz_r false 7 l1, qz_j l2, qz_u, qz_u]) mw_Checker_checkBranch.2.2.2 ca_Checker_checkBranch_0 rfl rfl rfl fun G => ?_
  unfold fn_Checker_checkBranch bk_Checker_checkBranch_0; exact
    qz_aload_n rfl <|
    qz_getsR sz_Op_BR_IF sl_Checker_172 rfl <|
    qz_acmp_ne rfl ca_Checker_checkBranch_13
      (qz_fgt [1, 1, 1, 0, 0] <| jb_Checker_checkBranch_13 G l0 l1 l2 h)
      (qz_aload_n rfl <|
        qz_iconst rfl <|
        qz_invvI [qz_i 1] rfl (cn_Checker_take l0 1 h) mw_Checker_take vw_Checker_take ⟨_, rfl, rfl, by decide⟩ rfl rfl ln_Checker_125 rfl fun r1 h2 =>
        qz_pop rfl <|
        qz_fall rfl ca_Checker_checkBranch_13 <|
        qz_fgt [1, 1, 1, 0, 0] <| jb_Checker_checkBranch_13 G l0 l1 l2 h2)
def fn_Module_hasFunction_29 (s0 : Int) (h : qz_H) : Option qz_R :=
  qz_ck ((s0 : Int) = 0 ∨ (s0 : Int) = 1) (some (s0, h))
def fn_Module_hasFunction_28 (h : qz_H) : Option qz_R :=
  fn_Module_hasFunction_29 0 h
set_option maxRecDepth 20000 in
def fn_Module_hasFunction (l0 : Int) (l1 : Int) (h : qz_H) : Option qz_R :=
  if qz_cmp l1 0 < 0 then
    fn_Module_hasFunction_28 h
  else
    if 0 ≤ qz_cmp l1 (h l0 3) then
      fn_Module_hasFunction_28 h
    else
      if 0 ≤ qz_cmp l1 4 then
        fn_Module_hasFunction_28 h
      else
        fn_Module_hasFunction_29 1 h
def bk_Module_hasFunction_0 : List (Instr × Nat) := [(.lload_n 1, 1), (.lconst 0, 1), (.lcmp, 1), (.ifCond .lt 25, 3), (.lload_n 1, 1), (.aload_n 0, 1), (.getfield 32, 3), (.i2l, 1), (.lcmp, 1), (.ifCond .ge 15, 3), (.lload_n 1, 1), (.ldc2_w 39, 3), (.lcmp, 1), (.ifCond .ge 7, 3), (.iconst 1, 1), (.goto 4, 3)]
def bk_Module_hasFunction_28 : List (Instr × Nat) := [(.iconst 0, 1)]
def bk_Module_hasFunction_29 : List (Instr × Nat) := [(.ireturn, 1)]
theorem ca_Module_hasFunction_0 : qz_ca yd_Module_hasFunction.2.1 0 bk_Module_hasFunction_0 := qz_cab_ok _ _ (by decide +kernel)
theorem ca_Module_hasFunction_28 : qz_ca yd_Module_hasFunction.2.1 28 bk_Module_hasFunction_28 := qz_cab_ok _ _ (by decide +kernel)
theorem ca_Module_hasFunction_29 : qz_ca yd_Module_hasFunction.2.1 29 bk_Module_hasFunction_29 := qz_cab_ok _ _ (by decide +kernel)
set_option maxRecDepth 20000 in
theorem jb_Module_hasFunction_29 (G : qz_G) (s0 : Int) (h : qz_H) : qz_J yd_Module_hasFunction G bk_Module_hasFunction_29 29 [qz_u, qz_u, qz_u] [qz_i s0] h 0 0 (fn_Module_hasFunction_29 s0 h) := by
  unfold fn_Module_hasFunction_29 bk_Module_hasFunction_29; exact
    qz_zreturn ⟨rfl, rfl⟩ rfl
set_option maxRecDepth 20000 in
theorem jb_Module_hasFunction_28 (G : qz_G) (h : qz_H) : qz_J yd_Module_hasFunction G bk_Module_hasFunction_28 28 [qz_u, qz_u, qz_u] [] h 0 0 (fn_Module_hasFunction_28 h) := by
  unfold fn_Module_hasFunction_28 bk_Module_hasFunction_28; exact
    qz_iconst rfl <|
    qz_fall rfl ca_Module_hasFunction_29 <|
    qz_fgt [0, 0, 0] <| jb_Module_hasFunction_29 G 0 h
set_option maxRecDepth 20000 in
theorem cn_Module_hasFunction (l0 : Int) (l1 : Int) (h : qz_H) : qz_C yd_Module_hasFunction [qz_r true 6 l0, qz_j l1] h (fn_Module_hasFunction l0 l1 h) := by
  refine qz_con (is := bk_Module_hasFunction_0) (ls := [qz_r true 6 l0, qz_j l1, qz_u]) mw_Module_hasFunction.2.2.2 ca_Module_hasFunction_0 rfl rfl rfl fun G => ?_
  unfold fn_Module_hasFunction bk_Module_hasFunction_0; exact
    qz_lload_n rfl <|
    qz_lconst rfl <|
    qz_lcmp <|
    qz_if_lt rfl ca_Module_hasFunction_28
      (qz_fgt [0, 0, 0] <| jb_Module_hasFunction_28 G h)
      (qz_lload_n rfl <|
        qz_aload_n rfl <|
        qz_getI kg_6 fl_Module_32 rfl rfl <|
        qz_i2l <|
        qz_lcmp <|
        qz_if_ge rfl ca_Module_hasFunction_28
          (qz_fgt [0, 0, 0] <| jb_Module_hasFunction_28 G h)
          (qz_lload_n rfl <|
            qz_ldc2 wc_Module_39 rfl <|
            qz_lcmp <|
            qz_if_ge rfl ca_Module_hasFunction_28
              (qz_fgt [0, 0, 0] <| jb_Module_hasFunction_28 G h)
              (qz_iconst rfl <|
                qz_goto rfl ca_Module_hasFunction_29 <|
                qz_fgt [0, 0, 0] <| jb_Module_hasFunction_29 G 1 h)))
def fn_Checker_checkCall_41_b (k41 : Int → Int → Int → qz_H → Option qz_R) (l0 : Int) (l3 : Int) (l4 : Int) (h : qz_H) : Option qz_R :=
  if l4 < 0 then
    qz_ck ((l3 : Int) ≠ 0) <|
    qz_bc (fn_Checker_put l0 (h l3 3) h) fun _ h2 =>
    some (0, h2)
  else
    qz_ck ((l3 : Int) ≠ 0) <|
    qz_ck ((h l3 0 : Int) ≠ 0) <|
    qz_ck ((0 : Int) ≤ l4 ∧ l4 < h (h l3 0) (-1)) <|
    qz_bc (fn_Checker_take l0 (h (h l3 0) l4) h) fun r3 h4 =>
    qz_bn (qz_w (l4 + (-1))) fun x5 =>
    k41 l0 l3 x5 h4
def fn_Checker_checkCall_41 : Nat → Int → Int → Int → qz_H → Option qz_R
  | 0, _, _, _, _ => none
  | n + 1, l0, l3, l4, h => fn_Checker_checkCall_41_b (fn_Checker_checkCall_41 n) l0 l3 l4 h
set_option maxRecDepth 20000 in
def fn_Checker_checkCall (l0 : Int) (l1 : Int) (h : qz_H) : Option qz_R :=
  qz_ck ((h l0 2 : Int) ≠ 0) <|
  qz_bc (fn_Module_hasFunction (h l0 2) l1 h) fun r1 h2 =>
  if ¬ r1 = 0 then
    qz_ck ((h2 l0 2 : Int) ≠ 0) <|
    qz_ck ((h2 (h2 l0 2) 0 : Int) ≠ 0) <|
    qz_ck ((0 : Int) ≤ qz_w l1 ∧ qz_w l1 < h2 (h2 (h2 l0 2) 0) (-1)) <|
    qz_bn (h2 (h2 (h2 l0 2) 0) (qz_w l1) : Int) fun x3 =>
    qz_ck ((x3 : Int) ≠ 0) <|
    qz_bn (qz_w ((qz_min (h2 x3 1) 6) - 1) : Int) fun x4 =>
    fn_Checker_checkCall_41 qz_NF l0 x3 x4 h2
  else
    qz_ck ((1 : Int) = 0 ∨ (1 : Int) = 1) <|
    qz_ck ((0 : Int) < l0) <|
    qz_bn (qz_up h2 l0 6 1) fun h5 =>
    some (0, h5)
def bk_Checker_checkCall_0 : List (Instr × Nat) := [(.aload_n 0, 1), (.getfield 21, 3), (.lload_n 1, 1), (.invokevirtual 178, 3), (.ifCond .ne 9, 3), (.aload_n 0, 1), (.iconst 1, 1), (.putfield 36, 3), (.return_, 1)]
def bk_Checker_checkCall_17 : List (Instr × Nat) := [(.aload_n 0, 1), (.getfield 21, 3), (.getfield 44, 3), (.lload_n 1, 1), (.l2i, 1), (.aaload, 1), (.astore_n 3, 1), (.aload_n 3, 1), (.getfield 182, 3), (.bipush 6, 2), (.invokestatic 185, 3), (.iconst 1, 1), (.isub, 1), (.istore 4, 2)]
def bk_Checker_checkCall_41 : List (Instr × Nat) := [(.iload 4, 2), (.ifCond .lt 21, 3), (.aload_n 0, 1), (.aload_n 3, 1), (.getfield 188, 3), (.iload 4, 2), (.iaload, 1), (.invokevirtual 125, 3), (.pop, 1), (.iinc 4 (-1), 3), (.goto (-20), 3)]
def bk_Checker_checkCall_64 : List (Instr × Nat) := [(.aload_n 0, 1), (.aload_n 3, 1), (.getfield 61, 3), (.invokevirtual 148, 3), (.return_, 1)]
theorem ca_Checker_checkCall_0 : qz_ca yd_Checker_checkCall.2.1 0 bk_Checker_checkCall_0 := qz_cab_ok _ _ (by decide +kernel)
theorem ca_Checker_checkCall_17 : qz_ca yd_Checker_checkCall.2.1 17 bk_Checker_checkCall_17 := qz_cab_ok _ _ (by decide +kernel)
theorem ca_Checker_checkCall_41 : qz_ca yd_Checker_checkCall.2.1 41 bk_Checker_checkCall_41 := qz_cab_ok _ _ (by decide +kernel)
theorem ca_Checker_checkCall_64 : qz_ca yd_Checker_checkCall.2.1 64 bk_Checker_checkCall_64 := qz_cab_ok _ _ (by decide +kernel)
set_option maxRecDepth 20000 in
theorem jb_Checker_checkCall_41_b (G : qz_G) (k41 : Int → Int → Int → qz_H → Option qz_R) (jk41 : ∀ (l0 : Int) (l3 : Int) (l4 : Int) (h : qz_H), qz_J yd_Checker_checkCall G bk_Checker_checkCall_41 41 [qz_r true 1 l0, qz_u, qz_u, qz_r false 4 l3, qz_i l4] [] h 0 0 (k41 l0 l3 l4 h)) (l0 : Int) (l3 : Int) (l4 : Int) (h : qz_H) : qz_J yd_Checker_checkCall G bk_Checker_checkCall_41 41 [qz_r true 1 l0, qz_u, qz_u, qz_r false 4 l3, qz_i l4] [] h 0 0 (fn_Checker_checkCall_41_b k41 l0 l3 l4 h) := by
  unfold fn_Checker_checkCall_41_b bk_Checker_checkCall_41; exact
    qz_iload rfl <|
    qz_if_lt rfl ca_Checker_checkCall_64
      (qz_aload_n rfl <|
        qz_aload_n rfl <|
        qz_nnd 0 rfl <|
        qz_getI kg_4 fl_Checker_61 rfl rfl <|
        qz_invvV [qz_i (h l3 3)] rfl (cn_Checker_put l0 (h l3 3) h) mw_Checker_put vw_Checker_put ⟨_, rfl, rfl, by decide⟩ rfl rfl ln_Checker_148 rfl fun _ h2 =>
        qz_return ⟨rfl, rfl⟩ rfl)
      (qz_aload_n rfl <|
        qz_aload_n rfl <|
        qz_nnd 0 rfl <|
        qz_getR (k1 := 40) kg_4 fl_Checker_188 rfl rfl <|
        qz_iload rfl <|
        qz_nnd 1 rfl <|
        qz_iald (k0 := 40) rfl rfl rfl <|
        qz_invvI [qz_i (h (h l3 0) l4)] rfl (cn_Checker_take l0 (h (h l3 0) l4) h) mw_Checker_take vw_Checker_take ⟨_, rfl, rfl, by decide⟩ rfl rfl ln_Checker_125 rfl fun r3 h4 =>
        qz_pop rfl <|
        qz_iinc rfl (by decide) fun x5 =>
        qz_goto rfl ca_Checker_checkCall_41 <|
        qz_fgt [1, 0, 0, 1, 1] <| jk41 l0 l3 x5 h4)
theorem jb_Checker_checkCall_41 (G : qz_G) : ∀ (n : Nat) (l0 l3 l4 : Int) (h : qz_H), qz_J yd_Checker_checkCall G bk_Checker_checkCall_41 41 [qz_r true 1 l0, qz_u, qz_u, qz_r false 4 l3, qz_i l4] [] h 0 0 (fn_Checker_checkCall_41 n l0 l3 l4 h)
  | 0, _, _, _, _ => qz_none
  | n + 1, l0, l3, l4, h => jb_Checker_checkCall_41_b G (fn_Checker_checkCall_41 n) (jb_Checker_checkCall_41 G n) l0 l3 l4 h
set_option maxRecDepth 20000 in
theorem cn_Checker_checkCall (l0 : Int) (l1 : Int) (h : qz_H) : qz_C yd_Checker_checkCall [qz_r true 1 l0, qz_j l1] h (fn_Checker_checkCall l0 l1 h) := by
  refine qz_con (is := bk_Checker_checkCall_0) (ls := [qz_r true 1 l0, qz_j l1, qz_u, qz_u, qz_u]) mw_Checker_checkCall.2.2.2 ca_Checker_checkCall_0 rfl rfl rfl fun G => ?_
  unfold fn_Checker_checkCall bk_Checker_checkCall_0; exact
    qz_aload_n rfl <|
    qz_getR (k1 := 6) kg_1 fl_Checker_21 rfl rfl <|
    qz_lload_n rfl <|
    qz_nnd 1 rfl <|
    qz_invvI [qz_j l1] rfl (cn_Module_hasFunction (h l0 2) l1 h) mw_Module_hasFunction vw_Module_hasFunction ⟨_, rfl, rfl, by decide⟩ rfl rfl ln_Checker_178 rfl fun r1 h2 =>
    qz_if_ne rfl ca_Checker_checkCall_17
      (qz_aload_n rfl <|
        qz_getR (k1 := 6) kg_1 fl_Checker_21 rfl rfl <|
        qz_nnd 0 rfl <|
        qz_getR (k1 := 45) kg_6 fl_Checker_44 rfl rfl <|
        qz_lload_n rfl <|
        qz_l2i <|
        qz_nnd 1 rfl <|
        qz_aald (k0 := 45) (k1 := 4) rfl rfl rfl <|
        qz_astore_n (by decide) fun x3 =>
        qz_aload_n rfl <|
        qz_nnd 0 rfl <|
        qz_getI kg_4 fl_Checker_182 rfl rfl <|
        qz_bipush rfl <|
        qz_mmin ma_Checker_185 rfl <|
        qz_iconst rfl <|
        qz_isub <|
        qz_istore (by decide) fun x4 =>
        qz_fall rfl ca_Checker_checkCall_41 <|
        qz_fgt [1, 0, 0, 1, 1] <| jb_Checker_checkCall_41 G qz_NF l0 x3 x4 h2)
      (qz_aload_n rfl <|
        qz_iconst rfl <|
        qz_putZ kw_1 fp_Checker_36_Checker_checkCall rfl rfl fun h5 =>
        qz_return ⟨rfl, rfl⟩ rfl)
def fn_Checker_checkSelect_29 (s0 : Int) (s1 : Int) (h : qz_H) : Option qz_R :=
  qz_bc (fn_Checker_put s0 s1 h) fun _ h2 =>
  some (0, h2)
set_option maxRecDepth 20000 in
def fn_Checker_checkSelect (l0 : Int) (h : qz_H) : Option qz_R :=
  qz_bc (fn_Checker_take l0 1 h) fun r1 h2 =>
  qz_bc (fn_Checker_take l0 3 h2) fun r3 h4 =>
  qz_bn (r3 : Int) fun x5 =>
  qz_bc (fn_Checker_take l0 x5 h4) fun r6 h7 =>
  qz_bn (r6 : Int) fun x8 =>
  if ¬ x5 = 3 then
    fn_Checker_checkSelect_29 l0 x5 h7
  else
    fn_Checker_checkSelect_29 l0 x8 h7
def bk_Checker_checkSelect_0 : List (Instr × Nat) := [(.aload_n 0, 1), (.iconst 1, 1), (.invokevirtual 125, 3), (.pop, 1), (.aload_n 0, 1), (.iconst 3, 1), (.invokevirtual 125, 3), (.istore_n 1, 1), (.aload_n 0, 1), (.iload_n 1, 1), (.invokevirtual 125, 3), (.istore_n 2, 1), (.aload_n 0, 1), (.iload_n 1, 1), (.iconst 3, 1), (.if_icmp .ne 7, 3), (.iload_n 2, 1), (.goto 4, 3)]
def bk_Checker_checkSelect_28 : List (Instr × Nat) := [(.iload_n 1, 1)]
def bk_Checker_checkSelect_29 : List (Instr × Nat) := [(.invokevirtual 148, 3), (.return_, 1)]
theorem ca_Checker_checkSelect_0 : qz_ca yd_Checker_checkSelect.2.1 0 bk_Checker_checkSelect_0 := qz_cab_ok _ _ (by decide +kernel)
theorem ca_Checker_checkSelect_28 : qz_ca yd_Checker_checkSelect.2.1 28 bk_Checker_checkSelect_28 := qz_cab_ok _ _ (by decide +kernel)
theorem ca_Checker_checkSelect_29 : qz_ca yd_Checker_checkSelect.2.1 29 bk_Checker_checkSelect_29 := qz_cab_ok _ _ (by decide +kernel)
set_option maxRecDepth 20000 in
theorem jb_Checker_checkSelect_29 (G : qz_G) (s0 : Int) (s1 : Int) (h : qz_H) : qz_J yd_Checker_checkSelect G bk_Checker_checkSelect_29 29 [qz_u, qz_u, qz_u] [qz_i s1, qz_r true 1 s0] h 0 0 (fn_Checker_checkSelect_29 s0 s1 h) := by
  unfold fn_Checker_checkSelect_29 bk_Checker_checkSelect_29; exact
    qz_invvV [qz_i s1] rfl (cn_Checker_put s0 s1 h) mw_Checker_put vw_Checker_put ⟨_, rfl, rfl, by decide⟩ rfl rfl ln_Checker_148 rfl fun _ h2 =>
    qz_return ⟨rfl, rfl⟩ rfl
set_option maxRecDepth 20000 in
theorem cn_Checker_checkSelect (l0 : Int) (h : qz_H) : qz_C yd_Checker_checkSelect [qz_r true 1 l0] h (fn_Checker_checkSelect l0 h) := by
  refine qz_con (is := bk_Checker_checkSelect_0) (ls := [qz_r true 1 l0, qz_u, qz_u]) mw_Checker_checkSelect.2.2.2 ca_Checker_checkSelect_0 rfl rfl rfl fun G => ?_
  unfold fn_Checker_checkSelect bk_Checker_checkSelect_0; exact
    qz_aload_n rfl <|
    qz_iconst rfl <|
    qz_invvI [qz_i 1] rfl (cn_Checker_take l0 1 h) mw_Checker_take vw_Checker_take ⟨_, rfl, rfl, by decide⟩ rfl rfl ln_Checker_125 rfl fun r1 h2 =>
    qz_pop rfl <|
    qz_aload_n rfl <|
    qz_iconst rfl <|
    qz_invvI [qz_i 3] rfl (cn_Checker_take l0 3 h2) mw_Checker_take vw_Checker_take ⟨_, rfl, rfl, by decide⟩ rfl rfl ln_Checker_125 rfl fun r3 h4 =>
    qz_istore_n (by decide) fun x5 =>
    qz_aload_n rfl <|
    qz_iload_n rfl <|
    qz_invvI [qz_i x5] rfl (cn_Checker_take l0 x5 h4) mw_Checker_take vw_Checker_take ⟨_, rfl, rfl, by decide⟩ rfl rfl ln_Checker_125 rfl fun r6 h7 =>
    qz_istore_n (by decide) fun x8 =>
    qz_aload_n rfl <|
    qz_iload_n rfl <|
    qz_iconst rfl <|
    qz_icmp_ne rfl ca_Checker_checkSelect_28
      (qz_iload_n rfl <|
        qz_fall rfl ca_Checker_checkSelect_29 <|
        qz_fgt [0, 0, 0] <| jb_Checker_checkSelect_29 G l0 x5 h7)
      (qz_iload_n rfl <|
        qz_goto rfl ca_Checker_checkSelect_29 <|
        qz_fgt [0, 0, 0] <| jb_Checker_checkSelect_29 G l0 x8 h7)
def fn_Function_hasSlot_29 (s0 : Int) (h : qz_H) : Option qz_R :=
  qz_ck ((s0 : Int) = 0 ∨ (s0 : Int) = 1) (some (s0, h))
def fn_Function_hasSlot_28 (h : qz_H) : Option qz_R :=
  fn_Function_hasSlot_29 0 h
set_option maxRecDepth 20000 in
def fn_Function_hasSlot (l0 : Int) (l1 : Int) (h : qz_H) : Option qz_R :=
  if qz_cmp l1 0 < 0 then
    fn_Function_hasSlot_28 h
  else
    if 0 ≤ qz_cmp l1 (h l0 2) then
      fn_Function_hasSlot_28 h
    else
      if 0 ≤ qz_cmp l1 8 then
        fn_Function_hasSlot_28 h
      else
        fn_Function_hasSlot_29 1 h
def bk_Function_hasSlot_0 : List (Instr × Nat) := [(.lload_n 1, 1), (.lconst 0, 1), (.lcmp, 1), (.ifCond .lt 25, 3), (.lload_n 1, 1), (.aload_n 0, 1), (.getfield 19, 3), (.i2l, 1), (.lcmp, 1), (.ifCond .ge 15, 3), (.lload_n 1, 1), (.ldc2_w 31, 3), (.lcmp, 1), (.ifCond .ge 7, 3), (.iconst 1, 1), (.goto 4, 3)]
def bk_Function_hasSlot_28 : List (Instr × Nat) := [(.iconst 0, 1)]
def bk_Function_hasSlot_29 : List (Instr × Nat) := [(.ireturn, 1)]
theorem ca_Function_hasSlot_0 : qz_ca yd_Function_hasSlot.2.1 0 bk_Function_hasSlot_0 := qz_cab_ok _ _ (by decide +kernel)
theorem ca_Function_hasSlot_28 : qz_ca yd_Function_hasSlot.2.1 28 bk_Function_hasSlot_28 := qz_cab_ok _ _ (by decide +kernel)
theorem ca_Function_hasSlot_29 : qz_ca yd_Function_hasSlot.2.1 29 bk_Function_hasSlot_29 := qz_cab_ok _ _ (by decide +kernel)
set_option maxRecDepth 20000 in
theorem jb_Function_hasSlot_29 (G : qz_G) (s0 : Int) (h : qz_H) : qz_J yd_Function_hasSlot G bk_Function_hasSlot_29 29 [qz_u, qz_u, qz_u] [qz_i s0] h 0 0 (fn_Function_hasSlot_29 s0 h) := by
  unfold fn_Function_hasSlot_29 bk_Function_hasSlot_29; exact
    qz_zreturn ⟨rfl, rfl⟩ rfl
set_option maxRecDepth 20000 in
theorem jb_Function_hasSlot_28 (G : qz_G) (h : qz_H) : qz_J yd_Function_hasSlot G bk_Function_hasSlot_28 28 [qz_u, qz_u, qz_u] [] h 0 0 (fn_Function_hasSlot_28 h) := by
  unfold fn_Function_hasSlot_28 bk_Function_hasSlot_28; exact
    qz_iconst rfl <|
    qz_fall rfl ca_Function_hasSlot_29 <|
    qz_fgt [0, 0, 0] <| jb_Function_hasSlot_29 G 0 h
set_option maxRecDepth 20000 in
theorem cn_Function_hasSlot (l0 : Int) (l1 : Int) (h : qz_H) : qz_C yd_Function_hasSlot [qz_r true 4 l0, qz_j l1] h (fn_Function_hasSlot l0 l1 h) := by
  refine qz_con (is := bk_Function_hasSlot_0) (ls := [qz_r true 4 l0, qz_j l1, qz_u]) mw_Function_hasSlot.2.2.2 ca_Function_hasSlot_0 rfl rfl rfl fun G => ?_
  unfold fn_Function_hasSlot bk_Function_hasSlot_0; exact
    qz_lload_n rfl <|
    qz_lconst rfl <|
    qz_lcmp <|
    qz_if_lt rfl ca_Function_hasSlot_28
      (qz_fgt [0, 0, 0] <| jb_Function_hasSlot_28 G h)
      (qz_lload_n rfl <|
        qz_aload_n rfl <|
        qz_getI kg_4 fl_Function_19 rfl rfl <|
        qz_i2l <|
        qz_lcmp <|
        qz_if_ge rfl ca_Function_hasSlot_28
          (qz_fgt [0, 0, 0] <| jb_Function_hasSlot_28 G h)
          (qz_lload_n rfl <|
            qz_ldc2 wc_Function_31 rfl <|
            qz_lcmp <|
            qz_if_ge rfl ca_Function_hasSlot_28
              (qz_fgt [0, 0, 0] <| jb_Function_hasSlot_28 G h)
              (qz_iconst rfl <|
                qz_goto rfl ca_Function_hasSlot_29 <|
                qz_fgt [0, 0, 0] <| jb_Function_hasSlot_29 G 1 h)))
def fn_Checker_checkSlot_56 (h : qz_H) : Option qz_R :=
  some (0, h)
def fn_Checker_checkSlot_43 (l0 : Int) (l1 : Int) (l4 : Int) (h : qz_H) : Option qz_R :=
  if l1 = (-15) then
    fn_Checker_checkSlot_56 h
  else
    qz_bc (fn_Checker_put l0 l4 h) fun _ h2 =>
    fn_Checker_checkSlot_56 h2
set_option maxRecDepth 20000 in
def fn_Checker_checkSlot (l0 : Int) (l1 : Int) (l2 : Int) (h : qz_H) : Option qz_R :=
  qz_ck ((h l0 3 : Int) ≠ 0) <|
  qz_bc (fn_Function_hasSlot (h l0 3) l2 h) fun r1 h2 =>
  if ¬ r1 = 0 then
    qz_ck ((h2 l0 3 : Int) ≠ 0) <|
    qz_ck ((h2 (h2 l0 3) 0 : Int) ≠ 0) <|
    qz_ck ((0 : Int) ≤ qz_w l2 ∧ qz_w l2 < h2 (h2 (h2 l0 3) 0) (-1)) <|
    qz_bn (h2 (h2 (h2 l0 3) 0) (qz_w l2) : Int) fun x3 =>
    if l1 = (-14) then
      fn_Checker_checkSlot_43 l0 l1 x3 h2
    else
      qz_bc (fn_Checker_take l0 x3 h2) fun r4 h5 =>
      fn_Checker_checkSlot_43 l0 l1 x3 h5
  else
    qz_ck ((1 : Int) = 0 ∨ (1 : Int) = 1) <|
    qz_ck ((0 : Int) < l0) <|
    qz_bn (qz_up h2 l0 6 1) fun h6 =>
    some (0, h6)
def bk_Checker_checkSlot_0 : List (Instr × Nat) := [(.aload_n 0, 1), (.getfield 31, 3), (.lload_n 2, 1), (.invokevirtual 191, 3), (.ifCond .ne 9, 3), (.aload_n 0, 1), (.iconst 1, 1), (.putfield 36, 3), (.return_, 1)]
def bk_Checker_checkSlot_17 : List (Instr × Nat) := [(.aload_n 0, 1), (.getfield 31, 3), (.getfield 188, 3), (.lload_n 2, 1), (.l2i, 1), (.iaload, 1), (.istore 4, 2), (.aload_n 1, 1), (.getstatic 194, 3), (.if_acmp .eq 10, 3), (.aload_n 0, 1), (.iload 4, 2), (.invokevirtual 125, 3), (.pop, 1)]
def bk_Checker_checkSlot_43 : List (Instr × Nat) := [(.aload_n 1, 1), (.getstatic 197, 3), (.if_acmp .eq 9, 3), (.aload_n 0, 1), (.iload 4, 2), (.invokevirtual 148, 3)]
def bk_Checker_checkSlot_56 : List (Instr × Nat) := [(.return_, 1)]
theorem ca_Checker_checkSlot_0 : qz_ca yd_Checker_checkSlot.2.1 0 bk_Checker_checkSlot_0 := qz_cab_ok _ _ (by decide +kernel)
theorem ca_Checker_checkSlot_17 : qz_ca yd_Checker_checkSlot.2.1 17 bk_Checker_checkSlot_17 := qz_cab_ok _ _ (by decide +kernel)
theorem ca_Checker_checkSlot_43 : qz_ca yd_Checker_checkSlot.2.1 43 bk_Checker_checkSlot_43 := qz_cab_ok _ _ (by decide +kernel)
theorem ca_Checker_checkSlot_56 : qz_ca yd_Checker_checkSlot.2.1 56 bk_Checker_checkSlot_56 := qz_cab_ok _ _ (by decide +kernel)
set_option maxRecDepth 20000 in
theorem jb_Checker_checkSlot_56 (G : qz_G) (h : qz_H) : qz_J yd_Checker_checkSlot G bk_Checker_checkSlot_56 56 [qz_u, qz_u, qz_u, qz_u, qz_u] [] h 0 0 (fn_Checker_checkSlot_56 h) := by
  unfold fn_Checker_checkSlot_56 bk_Checker_checkSlot_56; exact
    qz_return ⟨rfl, rfl⟩ rfl
set_option maxRecDepth 20000 in
theorem jb_Checker_checkSlot_43 (G : qz_G) (l0 : Int) (l1 : Int) (l4 : Int) (h : qz_H) : qz_J yd_Checker_checkSlot G bk_Checker_checkSlot_43 43 [qz_r true 1 l0, qz_r false 7 l1, qz_u, qz_u, qz_i l4] [] h 0 0 (fn_Checker_checkSlot_43 l0 l1 l4 h) := by
  unfold fn_Checker_checkSlot_43 bk_Checker_checkSlot_43; exact
    qz_aload_n rfl <|
    qz_getsR sz_Op_LOCAL_SET sl_Checker_197 rfl <|
    qz_acmp_eq rfl ca_Checker_checkSlot_56
      (qz_fgt [0, 0, 0, 0, 0] <| jb_Checker_checkSlot_56 G h)
      (qz_aload_n rfl <|
        qz_iload rfl <|
        qz_invvV [qz_i l4] rfl (cn_Checker_put l0 l4 h) mw_Checker_put vw_Checker_put ⟨_, rfl, rfl, by decide⟩ rfl rfl ln_Checker_148 rfl fun _ h2 =>
        qz_fall rfl ca_Checker_checkSlot_56 <|
        qz_fgt [0, 0, 0, 0, 0] <| jb_Checker_checkSlot_56 G h2)
set_option maxRecDepth 20000 in
theorem cn_Checker_checkSlot (l0 : Int) (l1 : Int) (l2 : Int) (h : qz_H) : qz_C yd_Checker_checkSlot [qz_r true 1 l0, qz_r false 7 l1, qz_j l2] h (fn_Checker_checkSlot l0 l1 l2 h) := by
  refine qz_con (is := bk_Checker_checkSlot_0) (ls := [qz_r true 1 l0, qz_r false 7 l1, qz_j l2, qz_u, qz_u]) mw_Checker_checkSlot.2.2.2 ca_Checker_checkSlot_0 rfl rfl rfl fun G => ?_
  unfold fn_Checker_checkSlot bk_Checker_checkSlot_0; exact
    qz_aload_n rfl <|
    qz_getR (k1 := 4) kg_1 fl_Checker_31 rfl rfl <|
    qz_lload_n rfl <|
    qz_nnd 1 rfl <|
    qz_invvI [qz_j l2] rfl (cn_Function_hasSlot (h l0 3) l2 h) mw_Function_hasSlot vw_Function_hasSlot ⟨_, rfl, rfl, by decide⟩ rfl rfl ln_Checker_191 rfl fun r1 h2 =>
    qz_if_ne rfl ca_Checker_checkSlot_17
      (qz_aload_n rfl <|
        qz_getR (k1 := 4) kg_1 fl_Checker_31 rfl rfl <|
        qz_nnd 0 rfl <|
        qz_getR (k1 := 40) kg_4 fl_Checker_188 rfl rfl <|
        qz_lload_n rfl <|
        qz_l2i <|
        qz_nnd 1 rfl <|
        qz_iald (k0 := 40) rfl rfl rfl <|
        qz_istore (by decide) fun x3 =>
        qz_aload_n rfl <|
        qz_getsR sz_Op_LOCAL_GET sl_Checker_194 rfl <|
        qz_acmp_eq rfl ca_Checker_checkSlot_43
          (qz_fgt [1, 1, 0, 0, 1] <| jb_Checker_checkSlot_43 G l0 l1 x3 h2)
          (qz_aload_n rfl <|
            qz_iload rfl <|
            qz_invvI [qz_i x3] rfl (cn_Checker_take l0 x3 h2) mw_Checker_take vw_Checker_take ⟨_, rfl, rfl, by decide⟩ rfl rfl ln_Checker_125 rfl fun r4 h5 =>
            qz_pop rfl <|
            qz_fall rfl ca_Checker_checkSlot_43 <|
            qz_fgt [1, 1, 0, 0, 1] <| jb_Checker_checkSlot_43 G l0 l1 x3 h5))
      (qz_aload_n rfl <|
        qz_iconst rfl <|
        qz_putZ kw_1 fp_Checker_36_Checker_checkSlot rfl rfl fun h6 =>
        qz_return ⟨rfl, rfl⟩ rfl)
def fn_Checker_checkSimple_2_b (k2 : Int → Int → Int → qz_H → Option qz_R) (l0 : Int) (l1 : Int) (l2 : Int) (h : qz_H) : Option qz_R :=
  qz_ck ((l1 : Int) ≠ 0) <|
  if h l1 3 ≤ l2 then
    qz_ck ((l1 : Int) ≠ 0) <|
    qz_bc (fn_Checker_put l0 (h l1 5) h) fun _ h2 =>
    some (0, h2)
  else
    qz_ck ((l1 : Int) ≠ 0) <|
    qz_bc (fn_Checker_take l0 (h l1 4) h) fun r3 h4 =>
    qz_bn (qz_w (l2 + 1)) fun x5 =>
    k2 l0 l1 x5 h4
def fn_Checker_checkSimple_2 : Nat → Int → Int → Int → qz_H → Option qz_R
  | 0, _, _, _, _ => none
  | n + 1, l0, l1, l2, h => fn_Checker_checkSimple_2_b (fn_Checker_checkSimple_2 n) l0 l1 l2 h
set_option maxRecDepth 20000 in
def fn_Checker_checkSimple (l0 : Int) (l1 : Int) (h : qz_H) : Option qz_R :=
  qz_bn (0 : Int) fun x1 =>
  fn_Checker_checkSimple_2 qz_NF l0 l1 x1 h
def bk_Checker_checkSimple_0 : List (Instr × Nat) := [(.iconst 0, 1), (.istore_n 2, 1)]
def bk_Checker_checkSimple_2 : List (Instr × Nat) := [(.iload_n 2, 1), (.aload_n 1, 1), (.getfield 139, 3), (.if_icmp .ge 18, 3), (.aload_n 0, 1), (.aload_n 1, 1), (.getfield 142, 3), (.invokevirtual 125, 3), (.pop, 1), (.iinc 2 1, 3), (.goto (-20), 3)]
def bk_Checker_checkSimple_25 : List (Instr × Nat) := [(.aload_n 0, 1), (.aload_n 1, 1), (.getfield 145, 3), (.invokevirtual 148, 3), (.return_, 1)]
theorem ca_Checker_checkSimple_0 : qz_ca yd_Checker_checkSimple.2.1 0 bk_Checker_checkSimple_0 := qz_cab_ok _ _ (by decide +kernel)
theorem ca_Checker_checkSimple_2 : qz_ca yd_Checker_checkSimple.2.1 2 bk_Checker_checkSimple_2 := qz_cab_ok _ _ (by decide +kernel)
theorem ca_Checker_checkSimple_25 : qz_ca yd_Checker_checkSimple.2.1 25 bk_Checker_checkSimple_25 := qz_cab_ok _ _ (by decide +kernel)
set_option maxRecDepth 20000 in
theorem jb_Checker_checkSimple_2_b (G : qz_G) (k2 : Int → Int → Int → qz_H → Option qz_R) (jk2 : ∀ (l0 : Int) (l1 : Int) (l2 : Int) (h : qz_H), qz_J yd_Checker_checkSimple G bk_Checker_checkSimple_2 2 [qz_r true 1 l0, qz_r false 7 l1, qz_i l2] [] h 0 0 (k2 l0 l1 l2 h)) (l0 : Int) (l1 : Int) (l2 : Int) (h : qz_H) : qz_J yd_Checker_checkSimple G bk_Checker_checkSimple_2 2 [qz_r true 1 l0, qz_r false 7 l1, qz_i l2] [] h 0 0 (fn_Checker_checkSimple_2_b k2 l0 l1 l2 h) := by
  unfold fn_Checker_checkSimple_2_b bk_Checker_checkSimple_2; exact
    qz_iload_n rfl <|
    qz_aload_n rfl <|
    qz_nnd 0 rfl <|
    qz_getI kg_7 fl_Checker_139 rfl rfl <|
    qz_icmp_ge rfl ca_Checker_checkSimple_25
      (qz_aload_n rfl <|
        qz_aload_n rfl <|
        qz_nnd 0 rfl <|
        qz_getI kg_7 fl_Checker_145 rfl rfl <|
        qz_invvV [qz_i (h l1 5)] rfl (cn_Checker_put l0 (h l1 5) h) mw_Checker_put vw_Checker_put ⟨_, rfl, rfl, by decide⟩ rfl rfl ln_Checker_148 rfl fun _ h2 =>
        qz_return ⟨rfl, rfl⟩ rfl)
      (qz_aload_n rfl <|
        qz_aload_n rfl <|
        qz_nnd 0 rfl <|
        qz_getI kg_7 fl_Checker_142 rfl rfl <|
        qz_invvI [qz_i (h l1 4)] rfl (cn_Checker_take l0 (h l1 4) h) mw_Checker_take vw_Checker_take ⟨_, rfl, rfl, by decide⟩ rfl rfl ln_Checker_125 rfl fun r3 h4 =>
        qz_pop rfl <|
        qz_iinc rfl (by decide) fun x5 =>
        qz_goto rfl ca_Checker_checkSimple_2 <|
        qz_fgt [1, 1, 1] <| jk2 l0 l1 x5 h4)
theorem jb_Checker_checkSimple_2 (G : qz_G) : ∀ (n : Nat) (l0 l1 l2 : Int) (h : qz_H), qz_J yd_Checker_checkSimple G bk_Checker_checkSimple_2 2 [qz_r true 1 l0, qz_r false 7 l1, qz_i l2] [] h 0 0 (fn_Checker_checkSimple_2 n l0 l1 l2 h)
  | 0, _, _, _, _ => qz_none
  | n + 1, l0, l1, l2, h => jb_Checker_checkSimple_2_b G (fn_Checker_checkSimple_2 n) (jb_Checker_checkSimple_2 G n) l0 l1 l2 h
set_option maxRecDepth 20000 in
theorem cn_Checker_checkSimple (l0 : Int) (l1 : Int) (h : qz_H) : qz_C yd_Checker_checkSimple [qz_r true 1 l0, qz_r false 7 l1] h (fn_Checker_checkSimple l0 l1 h) := by
  refine qz_con (is := bk_Checker_checkSimple_0) (ls := [qz_r true 1 l0, qz_r false 7 l1, qz_u]) mw_Checker_checkSimple.2.2.2 ca_Checker_checkSimple_0 rfl rfl rfl fun G => ?_
  unfold fn_Checker_checkSimple bk_Checker_checkSimple_0; exact
    qz_iconst rfl <|
    qz_istore_n (by decide) fun x1 =>
    qz_fall rfl ca_Checker_checkSimple_2 <|
    qz_fgt [1, 1, 1] <| jb_Checker_checkSimple_2 G qz_NF l0 l1 x1 h
def fn_Checker_check_184 (h : qz_H) : Option qz_R :=
  some (0, h)
set_option maxRecDepth 20000 in
def fn_Checker_check (l0 : Int) (l1 : Int) (l2 : Int) (h : qz_H) : Option qz_R :=
  qz_ck ((l1 : Int) ≠ 0) <|
  qz_bc (fn_Enum_ordinal l1 h) fun r1 h2 =>
  qz_ck ((0 : Int) ≤ r1 ∧ r1 < h2 (-33) (-1)) <|
  qz_swt (h2 (-33) r1) [
    (1,
      qz_bc (fn_Checker_beginFrame l0 l1 (qz_w l2) h2) fun _ h4 =>
      fn_Checker_check_184 h4),
    (2,
      qz_bc (fn_Checker_beginFrame l0 l1 (qz_w l2) h2) fun _ h6 =>
      fn_Checker_check_184 h6),
    (3,
      qz_bc (fn_Checker_beginFrame l0 l1 (qz_w l2) h2) fun _ h8 =>
      fn_Checker_check_184 h8),
    (4,
      qz_bc (fn_Checker_endFrame l0 h2) fun _ h10 =>
      qz_bc (fn_Checker_restartFrame l0 h10) fun _ h12 =>
      fn_Checker_check_184 h12),
    (5,
      qz_bc (fn_Checker_leaveFrame l0 h2) fun _ h14 =>
      fn_Checker_check_184 h14),
    (6,
      qz_bc (fn_Checker_checkBranch l0 l1 l2 h2) fun _ h16 =>
      fn_Checker_check_184 h16),
    (7,
      qz_bc (fn_Checker_checkBranch l0 l1 l2 h2) fun _ h18 =>
      fn_Checker_check_184 h18),
    (8,
      qz_ck ((h2 l0 3 : Int) ≠ 0) <|
      qz_bc (fn_Checker_takeResult l0 (h2 (h2 l0 3) 3) h2) fun _ h20 =>
      qz_bc (fn_Checker_makeUnreachable l0 h20) fun _ h22 =>
      fn_Checker_check_184 h22),
    (9,
      qz_bc (fn_Checker_makeUnreachable l0 h2) fun _ h24 =>
      fn_Checker_check_184 h24),
    (10,
      qz_bc (fn_Checker_checkCall l0 l2 h2) fun _ h26 =>
      fn_Checker_check_184 h26),
    (11,
      qz_bc (fn_Checker_take l0 3 h2) fun r27 h28 =>
      fn_Checker_check_184 h28),
    (12,
      qz_bc (fn_Checker_checkSelect l0 h2) fun _ h30 =>
      fn_Checker_check_184 h30),
    (13,
      qz_bc (fn_Checker_checkSlot l0 l1 l2 h2) fun _ h32 =>
      fn_Checker_check_184 h32),
    (14,
      qz_bc (fn_Checker_checkSlot l0 l1 l2 h2) fun _ h34 =>
      fn_Checker_check_184 h34),
    (15,
      qz_bc (fn_Checker_checkSlot l0 l1 l2 h2) fun _ h36 =>
      fn_Checker_check_184 h36)] <|
    qz_bc (fn_Checker_checkSimple l0 l1 h2) fun _ h38 =>
    fn_Checker_check_184 h38
def bk_Checker_check_0 : List (Instr × Nat) := [(.getstatic 91, 3), (.aload_n 1, 1), (.invokevirtual 96, 3), (.iaload, 1), (.tableswitch 171 1 15 #[76, 76, 76, 86, 97, 104, 104, 113, 131, 138, 146, 155, 162, 162, 162], 76)]
def bk_Checker_check_84 : List (Instr × Nat) := [(.aload_n 0, 1), (.aload_n 1, 1), (.lload_n 2, 1), (.l2i, 1), (.invokevirtual 101, 3), (.goto 93, 3)]
def bk_Checker_check_184 : List (Instr × Nat) := [(.return_, 1)]
def bk_Checker_check_94 : List (Instr × Nat) := [(.aload_n 0, 1), (.invokevirtual 88, 3), (.aload_n 0, 1), (.invokevirtual 105, 3), (.goto 82, 3)]
def bk_Checker_check_105 : List (Instr × Nat) := [(.aload_n 0, 1), (.invokevirtual 108, 3), (.goto 75, 3)]
def bk_Checker_check_112 : List (Instr × Nat) := [(.aload_n 0, 1), (.aload_n 1, 1), (.lload_n 2, 1), (.invokevirtual 111, 3), (.goto 66, 3)]
def bk_Checker_check_121 : List (Instr × Nat) := [(.aload_n 0, 1), (.aload_n 0, 1), (.getfield 31, 3), (.getfield 61, 3), (.invokevirtual 114, 3), (.aload_n 0, 1), (.invokevirtual 118, 3), (.goto 48, 3)]
def bk_Checker_check_139 : List (Instr × Nat) := [(.aload_n 0, 1), (.invokevirtual 118, 3), (.goto 41, 3)]
def bk_Checker_check_146 : List (Instr × Nat) := [(.aload_n 0, 1), (.lload_n 2, 1), (.invokevirtual 121, 3), (.goto 33, 3)]
def bk_Checker_check_154 : List (Instr × Nat) := [(.aload_n 0, 1), (.iconst 3, 1), (.invokevirtual 125, 3), (.pop, 1), (.goto 24, 3)]
def bk_Checker_check_163 : List (Instr × Nat) := [(.aload_n 0, 1), (.invokevirtual 129, 3), (.goto 17, 3)]
def bk_Checker_check_170 : List (Instr × Nat) := [(.aload_n 0, 1), (.aload_n 1, 1), (.lload_n 2, 1), (.invokevirtual 132, 3), (.goto 8, 3)]
def bk_Checker_check_179 : List (Instr × Nat) := [(.aload_n 0, 1), (.aload_n 1, 1), (.invokevirtual 135, 3)]
theorem ca_Checker_check_0 : qz_ca yd_Checker_check.2.1 0 bk_Checker_check_0 := qz_cab_ok _ _ (by decide +kernel)
theorem ca_Checker_check_84 : qz_ca yd_Checker_check.2.1 84 bk_Checker_check_84 := qz_cab_ok _ _ (by decide +kernel)
theorem ca_Checker_check_184 : qz_ca yd_Checker_check.2.1 184 bk_Checker_check_184 := qz_cab_ok _ _ (by decide +kernel)
theorem ca_Checker_check_94 : qz_ca yd_Checker_check.2.1 94 bk_Checker_check_94 := qz_cab_ok _ _ (by decide +kernel)
theorem ca_Checker_check_105 : qz_ca yd_Checker_check.2.1 105 bk_Checker_check_105 := qz_cab_ok _ _ (by decide +kernel)
theorem ca_Checker_check_112 : qz_ca yd_Checker_check.2.1 112 bk_Checker_check_112 := qz_cab_ok _ _ (by decide +kernel)
theorem ca_Checker_check_121 : qz_ca yd_Checker_check.2.1 121 bk_Checker_check_121 := qz_cab_ok _ _ (by decide +kernel)
theorem ca_Checker_check_139 : qz_ca yd_Checker_check.2.1 139 bk_Checker_check_139 := qz_cab_ok _ _ (by decide +kernel)
theorem ca_Checker_check_146 : qz_ca yd_Checker_check.2.1 146 bk_Checker_check_146 := qz_cab_ok _ _ (by decide +kernel)
theorem ca_Checker_check_154 : qz_ca yd_Checker_check.2.1 154 bk_Checker_check_154 := qz_cab_ok _ _ (by decide +kernel)
theorem ca_Checker_check_163 : qz_ca yd_Checker_check.2.1 163 bk_Checker_check_163 := qz_cab_ok _ _ (by decide +kernel)
theorem ca_Checker_check_170 : qz_ca yd_Checker_check.2.1 170 bk_Checker_check_170 := qz_cab_ok _ _ (by decide +kernel)
theorem ca_Checker_check_179 : qz_ca yd_Checker_check.2.1 179 bk_Checker_check_179 := qz_cab_ok _ _ (by decide +kernel)
set_option maxRecDepth 20000 in
theorem jb_Checker_check_184 (G : qz_G) (h : qz_H) : qz_J yd_Checker_check G bk_Checker_check_184 184 [qz_u, qz_u, qz_u, qz_u] [] h 0 0 (fn_Checker_check_184 h) := by
  unfold fn_Checker_check_184 bk_Checker_check_184; exact
    qz_return ⟨rfl, rfl⟩ rfl
set_option maxRecDepth 20000 in
theorem cn_Checker_check (l0 : Int) (l1 : Int) (l2 : Int) (h : qz_H) : qz_C yd_Checker_check [qz_r true 1 l0, qz_r false 7 l1, qz_j l2] h (fn_Checker_check l0 l1 l2 h) := by
  refine qz_con (is := bk_Checker_check_0) (ls := [qz_r true 1 l0, qz_r false 7 l1, qz_j l2, qz_u]) mw_Checker_check.2.2.2 ca_Checker_check_0 rfl rfl rfl fun G => ?_
  unfold fn_Checker_check bk_Checker_check_0; exact
    qz_getsR sz_1__SwitchMap_StackAssembler_Op sl_Checker_91 rfl <|
    qz_aload_n rfl <|
    qz_nnd 0 rfl <|
    qz_invuI (xm := ⟨"StackAssembler$Op", "ordinal", "()I"⟩) [] rfl (cn_Enum_ordinal l1 h) mw_Enum_ordinal ou_Checker_96 rfl ⟨_, rfl, rfl, by decide⟩ rfl rfl rfl fun r1 h2 =>
    qz_iald (k0 := 40) rfl rfl rfl <|
    qz_tsw [(1, 84, bk_Checker_check_84), (2, 84, bk_Checker_check_84), (3, 84, bk_Checker_check_84), (4, 94, bk_Checker_check_94), (5, 105, bk_Checker_check_105), (6, 112, bk_Checker_check_112), (7, 112, bk_Checker_check_112), (8, 121, bk_Checker_check_121), (9, 139, bk_Checker_check_139), (10, 146, bk_Checker_check_146), (11, 154, bk_Checker_check_154), (12, 163, bk_Checker_check_163), (13, 170, bk_Checker_check_170), (14, 170, bk_Checker_check_170), (15, 170, bk_Checker_check_170)] ca_Checker_check_179 rfl rfl rfl
      ⟨ca_Checker_check_84, qz_aload_n rfl <|
        qz_aload_n rfl <|
        qz_lload_n rfl <|
        qz_l2i <|
        qz_invvV [qz_r false 7 l1, qz_i (qz_w l2)] rfl (cn_Checker_beginFrame l0 l1 (qz_w l2) h2) mw_Checker_beginFrame vw_Checker_beginFrame ⟨_, rfl, rfl, by decide⟩ rfl rfl ln_Checker_101 rfl fun _ h4 =>
        qz_goto rfl ca_Checker_check_184 <|
        qz_fgt [0, 0, 0, 0] <| jb_Checker_check_184 G h4,
      ⟨ca_Checker_check_84, qz_aload_n rfl <|
        qz_aload_n rfl <|
        qz_lload_n rfl <|
        qz_l2i <|
        qz_invvV [qz_r false 7 l1, qz_i (qz_w l2)] rfl (cn_Checker_beginFrame l0 l1 (qz_w l2) h2) mw_Checker_beginFrame vw_Checker_beginFrame ⟨_, rfl, rfl, by decide⟩ rfl rfl ln_Checker_101 rfl fun _ h6 =>
        qz_goto rfl ca_Checker_check_184 <|
        qz_fgt [0, 0, 0, 0] <| jb_Checker_check_184 G h6,
      ⟨ca_Checker_check_84, qz_aload_n rfl <|
        qz_aload_n rfl <|
        qz_lload_n rfl <|
        qz_l2i <|
        qz_invvV [qz_r false 7 l1, qz_i (qz_w l2)] rfl (cn_Checker_beginFrame l0 l1 (qz_w l2) h2) mw_Checker_beginFrame vw_Checker_beginFrame ⟨_, rfl, rfl, by decide⟩ rfl rfl ln_Checker_101 rfl fun _ h8 =>
        qz_goto rfl ca_Checker_check_184 <|
        qz_fgt [0, 0, 0, 0] <| jb_Checker_check_184 G h8,
      ⟨ca_Checker_check_94, qz_aload_n rfl <|
        qz_invvV [] rfl (cn_Checker_endFrame l0 h2) mw_Checker_endFrame vw_Checker_endFrame ⟨_, rfl, rfl, by decide⟩ rfl rfl ln_Checker_88 rfl fun _ h10 =>
        qz_aload_n rfl <|
        qz_invvV [] rfl (cn_Checker_restartFrame l0 h10) mw_Checker_restartFrame vw_Checker_restartFrame ⟨_, rfl, rfl, by decide⟩ rfl rfl ln_Checker_105 rfl fun _ h12 =>
        qz_goto rfl ca_Checker_check_184 <|
        qz_fgt [0, 0, 0, 0] <| jb_Checker_check_184 G h12,
      ⟨ca_Checker_check_105, qz_aload_n rfl <|
        qz_invvV [] rfl (cn_Checker_leaveFrame l0 h2) mw_Checker_leaveFrame vw_Checker_leaveFrame ⟨_, rfl, rfl, by decide⟩ rfl rfl ln_Checker_108 rfl fun _ h14 =>
        qz_goto rfl ca_Checker_check_184 <|
        qz_fgt [0, 0, 0, 0] <| jb_Checker_check_184 G h14,
      ⟨ca_Checker_check_112, qz_aload_n rfl <|
        qz_aload_n rfl <|
        qz_lload_n rfl <|
        qz_invvV [qz_r false 7 l1, qz_j l2] rfl (cn_Checker_checkBranch l0 l1 l2 h2) mw_Checker_checkBranch vw_Checker_checkBranch ⟨_, rfl, rfl, by decide⟩ rfl rfl ln_Checker_111 rfl fun _ h16 =>
        qz_goto rfl ca_Checker_check_184 <|
        qz_fgt [0, 0, 0, 0] <| jb_Checker_check_184 G h16,
      ⟨ca_Checker_check_112, qz_aload_n rfl <|
        qz_aload_n rfl <|
        qz_lload_n rfl <|
        qz_invvV [qz_r false 7 l1, qz_j l2] rfl (cn_Checker_checkBranch l0 l1 l2 h2) mw_Checker_checkBranch vw_Checker_checkBranch ⟨_, rfl, rfl, by decide⟩ rfl rfl ln_Checker_111 rfl fun _ h18 =>
        qz_goto rfl ca_Checker_check_184 <|
        qz_fgt [0, 0, 0, 0] <| jb_Checker_check_184 G h18,
      ⟨ca_Checker_check_121, qz_aload_n rfl <|
        qz_aload_n rfl <|
        qz_getR (k1 := 4) kg_1 fl_Checker_31 rfl rfl <|
        qz_nnd 0 rfl <|
        qz_getI kg_4 fl_Checker_61 rfl rfl <|
        qz_invvV [qz_i (h2 (h2 l0 3) 3)] rfl (cn_Checker_takeResult l0 (h2 (h2 l0 3) 3) h2) mw_Checker_takeResult vw_Checker_takeResult ⟨_, rfl, rfl, by decide⟩ rfl rfl ln_Checker_114 rfl fun _ h20 =>
        qz_aload_n rfl <|
        qz_invvV [] rfl (cn_Checker_makeUnreachable l0 h20) mw_Checker_makeUnreachable vw_Checker_makeUnreachable ⟨_, rfl, rfl, by decide⟩ rfl rfl ln_Checker_118 rfl fun _ h22 =>
        qz_goto rfl ca_Checker_check_184 <|
        qz_fgt [0, 0, 0, 0] <| jb_Checker_check_184 G h22,
      ⟨ca_Checker_check_139, qz_aload_n rfl <|
        qz_invvV [] rfl (cn_Checker_makeUnreachable l0 h2) mw_Checker_makeUnreachable vw_Checker_makeUnreachable ⟨_, rfl, rfl, by decide⟩ rfl rfl ln_Checker_118 rfl fun _ h24 =>
        qz_goto rfl ca_Checker_check_184 <|
        qz_fgt [0, 0, 0, 0] <| jb_Checker_check_184 G h24,
      ⟨ca_Checker_check_146, qz_aload_n rfl <|
        qz_lload_n rfl <|
        qz_invvV [qz_j l2] rfl (cn_Checker_checkCall l0 l2 h2) mw_Checker_checkCall vw_Checker_checkCall ⟨_, rfl, rfl, by decide⟩ rfl rfl ln_Checker_121 rfl fun _ h26 =>
        qz_goto rfl ca_Checker_check_184 <|
        qz_fgt [0, 0, 0, 0] <| jb_Checker_check_184 G h26,
      ⟨ca_Checker_check_154, qz_aload_n rfl <|
        qz_iconst rfl <|
        qz_invvI [qz_i 3] rfl (cn_Checker_take l0 3 h2) mw_Checker_take vw_Checker_take ⟨_, rfl, rfl, by decide⟩ rfl rfl ln_Checker_125 rfl fun r27 h28 =>
        qz_pop rfl <|
        qz_goto rfl ca_Checker_check_184 <|
        qz_fgt [0, 0, 0, 0] <| jb_Checker_check_184 G h28,
      ⟨ca_Checker_check_163, qz_aload_n rfl <|
        qz_invvV [] rfl (cn_Checker_checkSelect l0 h2) mw_Checker_checkSelect vw_Checker_checkSelect ⟨_, rfl, rfl, by decide⟩ rfl rfl ln_Checker_129 rfl fun _ h30 =>
        qz_goto rfl ca_Checker_check_184 <|
        qz_fgt [0, 0, 0, 0] <| jb_Checker_check_184 G h30,
      ⟨ca_Checker_check_170, qz_aload_n rfl <|
        qz_aload_n rfl <|
        qz_lload_n rfl <|
        qz_invvV [qz_r false 7 l1, qz_j l2] rfl (cn_Checker_checkSlot l0 l1 l2 h2) mw_Checker_checkSlot vw_Checker_checkSlot ⟨_, rfl, rfl, by decide⟩ rfl rfl ln_Checker_132 rfl fun _ h32 =>
        qz_goto rfl ca_Checker_check_184 <|
        qz_fgt [0, 0, 0, 0] <| jb_Checker_check_184 G h32,
      ⟨ca_Checker_check_170, qz_aload_n rfl <|
        qz_aload_n rfl <|
        qz_lload_n rfl <|
        qz_invvV [qz_r false 7 l1, qz_j l2] rfl (cn_Checker_checkSlot l0 l1 l2 h2) mw_Checker_checkSlot vw_Checker_checkSlot ⟨_, rfl, rfl, by decide⟩ rfl rfl ln_Checker_132 rfl fun _ h34 =>
        qz_goto rfl ca_Checker_check_184 <|
        qz_fgt [0, 0, 0, 0] <| jb_Checker_check_184 G h34,
      ⟨ca_Checker_check_170, qz_aload_n rfl <|
        qz_aload_n rfl <|
        qz_lload_n rfl <|
        qz_invvV [qz_r false 7 l1, qz_j l2] rfl (cn_Checker_checkSlot l0 l1 l2 h2) mw_Checker_checkSlot vw_Checker_checkSlot ⟨_, rfl, rfl, by decide⟩ rfl rfl ln_Checker_132 rfl fun _ h36 =>
        qz_goto rfl ca_Checker_check_184 <|
        qz_fgt [0, 0, 0, 0] <| jb_Checker_check_184 G h36,
      trivial⟩⟩⟩⟩⟩⟩⟩⟩⟩⟩⟩⟩⟩⟩⟩
      (qz_aload_n rfl <|
        qz_aload_n rfl <|
        qz_invvV [qz_r false 7 l1] rfl (cn_Checker_checkSimple l0 l1 h2) mw_Checker_checkSimple vw_Checker_checkSimple ⟨_, rfl, rfl, by decide⟩ rfl rfl ln_Checker_135 rfl fun _ h38 =>
        qz_fall rfl ca_Checker_check_184 <|
        qz_fgt [0, 0, 0, 0] <| jb_Checker_check_184 G h38)
def fn_Checker_checkFunction_114 (l0 : Int) (h : qz_H) : Option qz_R :=
  qz_bc (fn_Checker_endFrame l0 h) fun _ h2 =>
  qz_ck ((h2 l0 3 : Int) ≠ 0) <|
  some (h2 (h2 l0 3) 5, h2)
def fn_Checker_checkFunction_36_b (k36 : Int → Int → qz_H → Option qz_R) (l0 : Int) (l1 : Int) (h : qz_H) : Option qz_R :=
  qz_ck ((h l0 3 : Int) ≠ 0) <|
  if h (h l0 3) 5 ≤ l1 then
    fn_Checker_checkFunction_114 l0 h
  else
    qz_ck ((h l0 3 : Int) ≠ 0) <|
    if 64 ≤ qz_w ((h (h l0 3) 4) + l1) then
      fn_Checker_checkFunction_114 l0 h
    else
      qz_ck ((h l0 2 : Int) ≠ 0) <|
      qz_ck ((h l0 3 : Int) ≠ 0) <|
      qz_ck ((h (h l0 2) 1 : Int) ≠ 0) <|
      qz_ck ((0 : Int) ≤ qz_w ((h (h l0 3) 4) + l1) ∧ qz_w ((h (h l0 3) 4) + l1) < h (h (h l0 2) 1) (-1)) <|
      qz_ck ((h l0 2 : Int) ≠ 0) <|
      qz_ck ((h l0 3 : Int) ≠ 0) <|
      qz_ck ((h (h l0 2) 2 : Int) ≠ 0) <|
      qz_ck ((0 : Int) ≤ qz_w ((h (h l0 3) 4) + l1) ∧ qz_w ((h (h l0 3) 4) + l1) < h (h (h l0 2) 2) (-1)) <|
      qz_bc (fn_Checker_check l0 (h (h (h l0 2) 1) (qz_w ((h (h l0 3) 4) + l1))) (h (h (h l0 2) 2) (qz_w ((h (h l0 3) 4) + l1))) h) fun _ h2 =>
      if h2 l0 6 = 0 then
        qz_bn (qz_w (l1 + 1)) fun x3 =>
        k36 l0 x3 h2
      else
        some (l1, h2)
def fn_Checker_checkFunction_36 : Nat → Int → Int → qz_H → Option qz_R
  | 0, _, _, _ => none
  | n + 1, l0, l1, h => fn_Checker_checkFunction_36_b (fn_Checker_checkFunction_36 n) l0 l1 h
set_option maxRecDepth 20000 in
def fn_Checker_checkFunction (l0 : Int) (h : qz_H) : Option qz_R :=
  qz_ck ((0 : Int) < l0) <|
  qz_bn (qz_up h l0 4 0) fun h1 =>
  qz_ck ((0 : Int) < l0) <|
  qz_bn (qz_up h1 l0 5 0) fun h2 =>
  qz_ck ((h2 l0 1 : Int) ≠ 0) <|
  qz_ck ((0 : Int) ≤ 0 ∧ 0 < h2 (h2 l0 1) (-1)) <|
  qz_ck ((h2 l0 3 : Int) ≠ 0) <|
  qz_ck ((h2 l0 3 : Int) ≠ 0) <|
  qz_ck ((h2 (h2 l0 1) 0 : Int) ≠ 0) <|
  qz_bc (fn_Frame_begin (h2 (h2 l0 1) 0) (h2 (h2 l0 3) 3) (h2 (h2 l0 3) 3) 0 h2) fun _ h4 =>
  qz_bn (0 : Int) fun x5 =>
  fn_Checker_checkFunction_36 qz_NF l0 x5 h4
def bk_Checker_checkFunction_0 : List (Instr × Nat) := [(.aload_n 0, 1), (.iconst 0, 1), (.putfield 55, 3), (.aload_n 0, 1), (.iconst 0, 1), (.putfield 58, 3), (.aload_n 0, 1), (.getfield 17, 3), (.iconst 0, 1), (.aaload, 1), (.aload_n 0, 1), (.getfield 31, 3), (.getfield 61, 3), (.aload_n 0, 1), (.getfield 31, 3), (.getfield 61, 3), (.iconst 0, 1), (.invokevirtual 66, 3), (.iconst 0, 1), (.istore_n 1, 1)]
def bk_Checker_checkFunction_36 : List (Instr × Nat) := [(.iload_n 1, 1), (.aload_n 0, 1), (.getfield 31, 3), (.getfield 70, 3), (.if_icmp .ge 70, 3), (.aload_n 0, 1), (.getfield 31, 3), (.getfield 73, 3), (.iload_n 1, 1), (.iadd, 1), (.bipush 64, 2), (.if_icmp .ge 56, 3), (.aload_n 0, 1), (.aload_n 0, 1), (.getfield 21, 3), (.getfield 76, 3), (.aload_n 0, 1), (.getfield 31, 3), (.getfield 73, 3), (.iload_n 1, 1), (.iadd, 1), (.aaload, 1), (.aload_n 0, 1), (.getfield 21, 3), (.getfield 80, 3), (.aload_n 0, 1), (.getfield 31, 3), (.getfield 73, 3), (.iload_n 1, 1), (.iadd, 1), (.laload, 1), (.invokevirtual 84, 3), (.aload_n 0, 1), (.getfield 36, 3), (.ifCond .eq 5, 3), (.iload_n 1, 1), (.ireturn, 1)]
def bk_Checker_checkFunction_114 : List (Instr × Nat) := [(.aload_n 0, 1), (.invokevirtual 88, 3), (.aload_n 0, 1), (.getfield 31, 3), (.getfield 70, 3), (.ireturn, 1)]
def bk_Checker_checkFunction_108 : List (Instr × Nat) := [(.iinc 1 1, 3), (.goto (-75), 3)]
theorem ca_Checker_checkFunction_0 : qz_ca yd_Checker_checkFunction.2.1 0 bk_Checker_checkFunction_0 := qz_cab_ok _ _ (by decide +kernel)
theorem ca_Checker_checkFunction_36 : qz_ca yd_Checker_checkFunction.2.1 36 bk_Checker_checkFunction_36 := qz_cab_ok _ _ (by decide +kernel)
theorem ca_Checker_checkFunction_114 : qz_ca yd_Checker_checkFunction.2.1 114 bk_Checker_checkFunction_114 := qz_cab_ok _ _ (by decide +kernel)
theorem ca_Checker_checkFunction_108 : qz_ca yd_Checker_checkFunction.2.1 108 bk_Checker_checkFunction_108 := qz_cab_ok _ _ (by decide +kernel)
set_option maxRecDepth 20000 in
theorem jb_Checker_checkFunction_114 (G : qz_G) (l0 : Int) (h : qz_H) : qz_J yd_Checker_checkFunction G bk_Checker_checkFunction_114 114 [qz_r true 1 l0, qz_u] [] h 0 0 (fn_Checker_checkFunction_114 l0 h) := by
  unfold fn_Checker_checkFunction_114 bk_Checker_checkFunction_114; exact
    qz_aload_n rfl <|
    qz_invvV [] rfl (cn_Checker_endFrame l0 h) mw_Checker_endFrame vw_Checker_endFrame ⟨_, rfl, rfl, by decide⟩ rfl rfl ln_Checker_88 rfl fun _ h2 =>
    qz_aload_n rfl <|
    qz_getR (k1 := 4) kg_1 fl_Checker_31 rfl rfl <|
    qz_nnd 0 rfl <|
    qz_getI kg_4 fl_Checker_70 rfl rfl <|
    qz_ireturn ⟨rfl, rfl⟩ rfl
set_option maxRecDepth 20000 in
theorem jb_Checker_checkFunction_36_b (G : qz_G) (k36 : Int → Int → qz_H → Option qz_R) (jk36 : ∀ (l0 : Int) (l1 : Int) (h : qz_H), qz_J yd_Checker_checkFunction G bk_Checker_checkFunction_36 36 [qz_r true 1 l0, qz_i l1] [] h 0 0 (k36 l0 l1 h)) (l0 : Int) (l1 : Int) (h : qz_H) : qz_J yd_Checker_checkFunction G bk_Checker_checkFunction_36 36 [qz_r true 1 l0, qz_i l1] [] h 0 0 (fn_Checker_checkFunction_36_b k36 l0 l1 h) := by
  unfold fn_Checker_checkFunction_36_b bk_Checker_checkFunction_36; exact
    qz_iload_n rfl <|
    qz_aload_n rfl <|
    qz_getR (k1 := 4) kg_1 fl_Checker_31 rfl rfl <|
    qz_nnd 0 rfl <|
    qz_getI kg_4 fl_Checker_70 rfl rfl <|
    qz_icmp_ge rfl ca_Checker_checkFunction_114
      (qz_fgt [1, 0] <| jb_Checker_checkFunction_114 G l0 h)
      (qz_aload_n rfl <|
        qz_getR (k1 := 4) kg_1 fl_Checker_31 rfl rfl <|
        qz_nnd 0 rfl <|
        qz_getI kg_4 fl_Checker_73 rfl rfl <|
        qz_iload_n rfl <|
        qz_iadd <|
        qz_bipush rfl <|
        qz_icmp_ge rfl ca_Checker_checkFunction_114
          (qz_fgt [1, 0] <| jb_Checker_checkFunction_114 G l0 h)
          (qz_aload_n rfl <|
            qz_aload_n rfl <|
            qz_getR (k1 := 6) kg_1 fl_Checker_21 rfl rfl <|
            qz_nnd 0 rfl <|
            qz_getR (k1 := 46) kg_6 fl_Checker_76 rfl rfl <|
            qz_aload_n rfl <|
            qz_getR (k1 := 4) kg_1 fl_Checker_31 rfl rfl <|
            qz_nnd 0 rfl <|
            qz_getI kg_4 fl_Checker_73 rfl rfl <|
            qz_iload_n rfl <|
            qz_iadd <|
            qz_nnd 1 rfl <|
            qz_aald (k0 := 46) (k1 := 7) rfl rfl rfl <|
            qz_aload_n rfl <|
            qz_getR (k1 := 6) kg_1 fl_Checker_21 rfl rfl <|
            qz_nnd 0 rfl <|
            qz_getR (k1 := 41) kg_6 fl_Checker_80 rfl rfl <|
            qz_aload_n rfl <|
            qz_getR (k1 := 4) kg_1 fl_Checker_31 rfl rfl <|
            qz_nnd 0 rfl <|
            qz_getI kg_4 fl_Checker_73 rfl rfl <|
            qz_iload_n rfl <|
            qz_iadd <|
            qz_nnd 1 rfl <|
            qz_lald (k0 := 41) rfl rfl rfl <|
            qz_invvV [qz_r false 7 (h (h (h l0 2) 1) (qz_w ((h (h l0 3) 4) + l1))), qz_j (h (h (h l0 2) 2) (qz_w ((h (h l0 3) 4) + l1)))] rfl (cn_Checker_check l0 (h (h (h l0 2) 1) (qz_w ((h (h l0 3) 4) + l1))) (h (h (h l0 2) 2) (qz_w ((h (h l0 3) 4) + l1))) h) mw_Checker_check vw_Checker_check ⟨_, rfl, rfl, by decide⟩ rfl rfl ln_Checker_84 rfl fun _ h2 =>
            qz_aload_n rfl <|
            qz_getI kg_1 fl_Checker_36 rfl rfl <|
            qz_if_eq rfl ca_Checker_checkFunction_108
              (qz_iinc rfl (by decide) fun x3 =>
                qz_goto rfl ca_Checker_checkFunction_36 <|
                qz_fgt [1, 1] <| jk36 l0 x3 h2)
              (qz_iload_n rfl <|
                qz_ireturn ⟨rfl, rfl⟩ rfl)))
theorem jb_Checker_checkFunction_36 (G : qz_G) : ∀ (n : Nat) (l0 l1 : Int) (h : qz_H), qz_J yd_Checker_checkFunction G bk_Checker_checkFunction_36 36 [qz_r true 1 l0, qz_i l1] [] h 0 0 (fn_Checker_checkFunction_36 n l0 l1 h)
  | 0, _, _, _ => qz_none
  | n + 1, l0, l1, h => jb_Checker_checkFunction_36_b G (fn_Checker_checkFunction_36 n) (jb_Checker_checkFunction_36 G n) l0 l1 h
set_option maxRecDepth 20000 in
theorem cn_Checker_checkFunction (l0 : Int) (h : qz_H) : qz_C yd_Checker_checkFunction [qz_r true 1 l0] h (fn_Checker_checkFunction l0 h) := by
  refine qz_con (is := bk_Checker_checkFunction_0) (ls := [qz_r true 1 l0, qz_u]) mw_Checker_checkFunction.2.2.2 ca_Checker_checkFunction_0 rfl rfl rfl fun G => ?_
  unfold fn_Checker_checkFunction bk_Checker_checkFunction_0; exact
    qz_aload_n rfl <|
    qz_iconst rfl <|
    qz_putI kw_1 fp_Checker_55_Checker_checkFunction rfl rfl fun h1 =>
    qz_aload_n rfl <|
    qz_iconst rfl <|
    qz_putI kw_1 fp_Checker_58_Checker_checkFunction rfl rfl fun h2 =>
    qz_aload_n rfl <|
    qz_getR (k1 := 48) kg_1 fl_Checker_17 rfl rfl <|
    qz_iconst rfl <|
    qz_nnd 1 rfl <|
    qz_aald (k0 := 48) (k1 := 3) rfl rfl rfl <|
    qz_aload_n rfl <|
    qz_getR (k1 := 4) kg_1 fl_Checker_31 rfl rfl <|
    qz_nnd 0 rfl <|
    qz_getI kg_4 fl_Checker_61 rfl rfl <|
    qz_aload_n rfl <|
    qz_getR (k1 := 4) kg_1 fl_Checker_31 rfl rfl <|
    qz_nnd 0 rfl <|
    qz_getI kg_4 fl_Checker_61 rfl rfl <|
    qz_iconst rfl <|
    qz_nnd 3 rfl <|
    qz_invvV [qz_i (h2 (h2 l0 3) 3), qz_i (h2 (h2 l0 3) 3), qz_i 0] rfl (cn_Frame_begin (h2 (h2 l0 1) 0) (h2 (h2 l0 3) 3) (h2 (h2 l0 3) 3) 0 h2) mw_Frame_begin vw_Frame_begin ⟨_, rfl, rfl, by decide⟩ rfl rfl ln_Checker_66 rfl fun _ h4 =>
    qz_iconst rfl <|
    qz_istore_n (by decide) fun x5 =>
    qz_fall rfl ca_Checker_checkFunction_36 <|
    qz_fgt [1, 1] <| jb_Checker_checkFunction_36 G qz_NF l0 x5 h4
def fn_Checker_accepts_71 (h : qz_H) : Option qz_R :=
  qz_ck ((1 : Int) = 0 ∨ (1 : Int) = 1) (some (1, h))
def fn_Checker_accepts_12_b (k12 : Int → Int → qz_H → Option qz_R) (l0 : Int) (l2 : Int) (h : qz_H) : Option qz_R :=
  qz_ck ((h l0 2 : Int) ≠ 0) <|
  if h (h l0 2) 3 ≤ l2 then
    fn_Checker_accepts_71 h
  else
    if 4 ≤ l2 then
      fn_Checker_accepts_71 h
    else
      qz_ck ((h l0 2 : Int) ≠ 0) <|
      qz_ck ((h (h l0 2) 0 : Int) ≠ 0) <|
      qz_ck ((0 : Int) ≤ l2 ∧ l2 < h (h (h l0 2) 0) (-1)) <|
      qz_ck ((0 : Int) < l0) <|
      qz_bn (qz_up h l0 3 (h (h (h l0 2) 0) l2)) fun h1 =>
      qz_bc (fn_Checker_checkFunction l0 h1) fun r2 h3 =>
      qz_bn (r2 : Int) fun x4 =>
      if h3 l0 6 = 0 then
        qz_bn (qz_w (l2 + 1)) fun x5 =>
        k12 l0 x5 h3
      else
        qz_ck ((0 : Int) < l0) <|
        qz_bn (qz_up h3 l0 7 (qz_w ((qz_w (64 * l2)) + x4))) fun h6 =>
        qz_ck ((0 : Int) = 0 ∨ (0 : Int) = 1) (some (0, h6))
def fn_Checker_accepts_12 : Nat → Int → Int → qz_H → Option qz_R
  | 0, _, _, _ => none
  | n + 1, l0, l2, h => fn_Checker_accepts_12_b (fn_Checker_accepts_12 n) l0 l2 h
set_option maxRecDepth 20000 in
def fn_Checker_accepts (l0 : Int) (l1 : Int) (h : qz_H) : Option qz_R :=
  qz_ck ((0 : Int) < l0) <|
  qz_bn (qz_up h l0 2 l1) fun h1 =>
  qz_ck ((0 : Int) = 0 ∨ (0 : Int) = 1) <|
  qz_ck ((0 : Int) < l0) <|
  qz_bn (qz_up h1 l0 6 0) fun h2 =>
  qz_bn (0 : Int) fun x3 =>
  fn_Checker_accepts_12 qz_NF l0 x3 h2
def bk_Checker_accepts_0 : List (Instr × Nat) := [(.aload_n 0, 1), (.aload_n 1, 1), (.putfield 21, 3), (.aload_n 0, 1), (.iconst 0, 1), (.putfield 36, 3), (.iconst 0, 1), (.istore_n 2, 1)]
def bk_Checker_accepts_12 : List (Instr × Nat) := [(.iload_n 2, 1), (.aload_n 0, 1), (.getfield 21, 3), (.getfield 40, 3), (.if_icmp .ge 51, 3), (.iload_n 2, 1), (.iconst 4, 1), (.if_icmp .ge 46, 3), (.aload_n 0, 1), (.aload_n 0, 1), (.getfield 21, 3), (.getfield 44, 3), (.iload_n 2, 1), (.aaload, 1), (.putfield 31, 3), (.aload_n 0, 1), (.invokevirtual 48, 3), (.istore_n 3, 1), (.aload_n 0, 1), (.getfield 36, 3), (.ifCond .eq 15, 3), (.aload_n 0, 1), (.bipush 64, 2), (.iload_n 2, 1), (.imul, 1), (.iload_n 3, 1), (.iadd, 1), (.putfield 52, 3), (.iconst 0, 1), (.ireturn, 1)]
def bk_Checker_accepts_71 : List (Instr × Nat) := [(.iconst 1, 1), (.ireturn, 1)]
def bk_Checker_accepts_65 : List (Instr × Nat) := [(.iinc 2 1, 3), (.goto (-56), 3)]
theorem ca_Checker_accepts_0 : qz_ca yd_Checker_accepts.2.1 0 bk_Checker_accepts_0 := qz_cab_ok _ _ (by decide +kernel)
theorem ca_Checker_accepts_12 : qz_ca yd_Checker_accepts.2.1 12 bk_Checker_accepts_12 := qz_cab_ok _ _ (by decide +kernel)
theorem ca_Checker_accepts_71 : qz_ca yd_Checker_accepts.2.1 71 bk_Checker_accepts_71 := qz_cab_ok _ _ (by decide +kernel)
theorem ca_Checker_accepts_65 : qz_ca yd_Checker_accepts.2.1 65 bk_Checker_accepts_65 := qz_cab_ok _ _ (by decide +kernel)
set_option maxRecDepth 20000 in
theorem jb_Checker_accepts_71 (G : qz_G) (h : qz_H) : qz_J yd_Checker_accepts G bk_Checker_accepts_71 71 [qz_u, qz_u, qz_u, qz_u] [] h 0 0 (fn_Checker_accepts_71 h) := by
  unfold fn_Checker_accepts_71 bk_Checker_accepts_71; exact
    qz_iconst rfl <|
    qz_zreturn ⟨rfl, rfl⟩ rfl
set_option maxRecDepth 20000 in
theorem jb_Checker_accepts_12_b (G : qz_G) (k12 : Int → Int → qz_H → Option qz_R) (jk12 : ∀ (l0 : Int) (l2 : Int) (h : qz_H), qz_J yd_Checker_accepts G bk_Checker_accepts_12 12 [qz_r true 1 l0, qz_u, qz_i l2, qz_u] [] h 0 0 (k12 l0 l2 h)) (l0 : Int) (l2 : Int) (h : qz_H) : qz_J yd_Checker_accepts G bk_Checker_accepts_12 12 [qz_r true 1 l0, qz_u, qz_i l2, qz_u] [] h 0 0 (fn_Checker_accepts_12_b k12 l0 l2 h) := by
  unfold fn_Checker_accepts_12_b bk_Checker_accepts_12; exact
    qz_iload_n rfl <|
    qz_aload_n rfl <|
    qz_getR (k1 := 6) kg_1 fl_Checker_21 rfl rfl <|
    qz_nnd 0 rfl <|
    qz_getI kg_6 fl_Checker_40 rfl rfl <|
    qz_icmp_ge rfl ca_Checker_accepts_71
      (qz_fgt [0, 0, 0, 0] <| jb_Checker_accepts_71 G h)
      (qz_iload_n rfl <|
        qz_iconst rfl <|
        qz_icmp_ge rfl ca_Checker_accepts_71
          (qz_fgt [0, 0, 0, 0] <| jb_Checker_accepts_71 G h)
          (qz_aload_n rfl <|
            qz_aload_n rfl <|
            qz_getR (k1 := 6) kg_1 fl_Checker_21 rfl rfl <|
            qz_nnd 0 rfl <|
            qz_getR (k1 := 45) kg_6 fl_Checker_44 rfl rfl <|
            qz_iload_n rfl <|
            qz_nnd 1 rfl <|
            qz_aald (k0 := 45) (k1 := 4) rfl rfl rfl <|
            qz_putR (k1 := 4) kw_1 fp_Checker_31_Checker_accepts rfl rfl fun h1 =>
            qz_aload_n rfl <|
            qz_invvI [] rfl (cn_Checker_checkFunction l0 h1) mw_Checker_checkFunction vw_Checker_checkFunction ⟨_, rfl, rfl, by decide⟩ rfl rfl ln_Checker_48 rfl fun r2 h3 =>
            qz_istore_n (by decide) fun x4 =>
            qz_aload_n rfl <|
            qz_getI kg_1 fl_Checker_36 rfl rfl <|
            qz_if_eq rfl ca_Checker_accepts_65
              (qz_iinc rfl (by decide) fun x5 =>
                qz_goto rfl ca_Checker_accepts_12 <|
                qz_fgt [1, 0, 1, 0] <| jk12 l0 x5 h3)
              (qz_aload_n rfl <|
                qz_bipush rfl <|
                qz_iload_n rfl <|
                qz_imul <|
                qz_iload_n rfl <|
                qz_iadd <|
                qz_putI kw_1 fp_Checker_52_Checker_accepts rfl rfl fun h6 =>
                qz_iconst rfl <|
                qz_zreturn ⟨rfl, rfl⟩ rfl)))
theorem jb_Checker_accepts_12 (G : qz_G) : ∀ (n : Nat) (l0 l2 : Int) (h : qz_H), qz_J yd_Checker_accepts G bk_Checker_accepts_12 12 [qz_r true 1 l0, qz_u, qz_i l2, qz_u] [] h 0 0 (fn_Checker_accepts_12 n l0 l2 h)
  | 0, _, _, _ => qz_none
  | n + 1, l0, l2, h => jb_Checker_accepts_12_b G (fn_Checker_accepts_12 n) (jb_Checker_accepts_12 G n) l0 l2 h
set_option maxRecDepth 20000 in
theorem cn_Checker_accepts (l0 : Int) (l1 : Int) (h : qz_H) : qz_C yd_Checker_accepts [qz_r true 1 l0, qz_r false 6 l1] h (fn_Checker_accepts l0 l1 h) := by
  refine qz_con (is := bk_Checker_accepts_0) (ls := [qz_r true 1 l0, qz_r false 6 l1, qz_u, qz_u]) mw_Checker_accepts.2.2.2 ca_Checker_accepts_0 rfl rfl rfl fun G => ?_
  unfold fn_Checker_accepts bk_Checker_accepts_0; exact
    qz_aload_n rfl <|
    qz_aload_n rfl <|
    qz_putR (k1 := 6) kw_1 fp_Checker_21_Checker_accepts rfl rfl fun h1 =>
    qz_aload_n rfl <|
    qz_iconst rfl <|
    qz_putZ kw_1 fp_Checker_36_Checker_accepts rfl rfl fun h2 =>
    qz_iconst rfl <|
    qz_istore_n (by decide) fun x3 =>
    qz_fall rfl ca_Checker_accepts_12 <|
    qz_fgt [1, 0, 1, 0] <| jb_Checker_accepts_12 G qz_NF l0 x3 h2
def fn_SA_assemble_61 (l0 : Int) (l1 : Int) (h : qz_H) : Option qz_R :=
  if ¬ l1 = 1 then
    if ¬ l1 = 2 then
      if ¬ l1 = 3 then
        qz_bn (h l0 6 : Int) fun x1 =>
        qz_ck ((0 : Int) < l0) <|
        qz_bn (qz_up h l0 6 (h l0 7)) fun h2 =>
        qz_ck ((0 : Int) < l0) <|
        qz_bn (qz_up h2 l0 7 x1) fun h3 =>
        qz_ck ((h3 l0 6 : Int) ≠ 0) <|
        some (h3 (h3 l0 6) 3, h3)
      else
        none
    else
      none
  else
    none
set_option maxRecDepth 20000 in
def fn_SA_assemble (l0 : Int) (h : qz_H) : Option qz_R :=
  qz_ck ((h l0 0 : Int) ≠ 0) <|
  qz_bc (fn_Reader_read (h l0 0) (h l0 4) (h l0 7) h) fun r1 h2 =>
  qz_bn (r1 : Int) fun x3 =>
  if x3 = 0 then
    qz_ck ((h2 l0 1 : Int) ≠ 0) <|
    qz_bc (fn_Checker_accepts (h2 l0 1) (h2 l0 7) h2) fun r4 h5 =>
    if ¬ r4 = 0 then
      fn_SA_assemble_61 l0 x3 h5
    else
      qz_bn (3 : Int) fun x6 =>
      qz_ck ((h5 l0 1 : Int) ≠ 0) <|
      qz_ck ((0 : Int) < l0) <|
      qz_bn (qz_up h5 l0 8 (h5 (h5 l0 1) 7)) fun h7 =>
      fn_SA_assemble_61 l0 x6 h7
  else
    qz_ck ((h2 l0 0 : Int) ≠ 0) <|
    qz_ck ((0 : Int) < l0) <|
    qz_bn (qz_up h2 l0 8 (h2 (h2 l0 0) 9)) fun h8 =>
    fn_SA_assemble_61 l0 x3 h8
def bk_SA_assemble_0 : List (Instr × Nat) := [(.aload_n 0, 1), (.getfield 34, 3), (.aload_n 0, 1), (.getfield 10, 3), (.aload_n 0, 1), (.getfield 26, 3), (.invokevirtual 75, 3), (.istore_n 1, 1), (.iload_n 1, 1), (.ifCond .eq 17, 3), (.aload_n 0, 1), (.aload_n 0, 1), (.getfield 34, 3), (.getfield 79, 3), (.putfield 82, 3), (.goto 30, 3)]
def bk_SA_assemble_34 : List (Instr × Nat) := [(.aload_n 0, 1), (.getfield 43, 3), (.aload_n 0, 1), (.getfield 26, 3), (.invokevirtual 85, 3), (.ifCond .ne 16, 3), (.iconst 3, 1), (.istore_n 1, 1), (.aload_n 0, 1), (.aload_n 0, 1), (.getfield 43, 3), (.getfield 89, 3), (.putfield 82, 3)]
def bk_SA_assemble_61 : List (Instr × Nat) := [(.iload_n 1, 1), (.iconst 1, 1), (.if_icmp .ne 13, 3), (.new 90, 3), (.dup, 1), (.ldc 92, 2), (.invokespecial 94, 3), (.athrow, 1)]
def bk_SA_assemble_76 : List (Instr × Nat) := [(.iload_n 1, 1), (.iconst 2, 1), (.if_icmp .ne 13, 3), (.new 97, 3), (.dup, 1), (.ldc 99, 2), (.invokespecial 101, 3), (.athrow, 1)]
def bk_SA_assemble_91 : List (Instr × Nat) := [(.iload_n 1, 1), (.iconst 3, 1), (.if_icmp .ne 13, 3), (.new 102, 3), (.dup, 1), (.ldc 104, 2), (.invokespecial 106, 3), (.athrow, 1)]
def bk_SA_assemble_106 : List (Instr × Nat) := [(.aload_n 0, 1), (.getfield 22, 3), (.astore_n 2, 1), (.aload_n 0, 1), (.aload_n 0, 1), (.getfield 26, 3), (.putfield 22, 3), (.aload_n 0, 1), (.aload_n 2, 1), (.putfield 26, 3), (.aload_n 0, 1), (.getfield 22, 3), (.getfield 107, 3), (.ireturn, 1)]
theorem ca_SA_assemble_0 : qz_ca yd_SA_assemble.2.1 0 bk_SA_assemble_0 := qz_cab_ok _ _ (by decide +kernel)
theorem ca_SA_assemble_34 : qz_ca yd_SA_assemble.2.1 34 bk_SA_assemble_34 := qz_cab_ok _ _ (by decide +kernel)
theorem ca_SA_assemble_61 : qz_ca yd_SA_assemble.2.1 61 bk_SA_assemble_61 := qz_cab_ok _ _ (by decide +kernel)
theorem ca_SA_assemble_76 : qz_ca yd_SA_assemble.2.1 76 bk_SA_assemble_76 := qz_cab_ok _ _ (by decide +kernel)
theorem ca_SA_assemble_91 : qz_ca yd_SA_assemble.2.1 91 bk_SA_assemble_91 := qz_cab_ok _ _ (by decide +kernel)
theorem ca_SA_assemble_106 : qz_ca yd_SA_assemble.2.1 106 bk_SA_assemble_106 := qz_cab_ok _ _ (by decide +kernel)
set_option maxRecDepth 20000 in
theorem jb_SA_assemble_61 (G : qz_G) (l0 : Int) (l1 : Int) (h : qz_H) : qz_J yd_SA_assemble G bk_SA_assemble_61 61 [qz_r true 0 l0, qz_i l1, qz_u] [] h 0 0 (fn_SA_assemble_61 l0 l1 h) := by
  unfold fn_SA_assemble_61 bk_SA_assemble_61; exact
    qz_iload_n rfl <|
    qz_iconst rfl <|
    qz_icmp_ne rfl ca_SA_assemble_76
      (qz_iload_n rfl <|
        qz_iconst rfl <|
        qz_icmp_ne rfl ca_SA_assemble_91
          (qz_iload_n rfl <|
            qz_iconst rfl <|
            qz_icmp_ne rfl ca_SA_assemble_106
              (qz_aload_n rfl <|
                qz_getR (k1 := 6) kg_0 fl_SA_22 rfl rfl <|
                qz_astore_n (by decide) fun x1 =>
                qz_aload_n rfl <|
                qz_aload_n rfl <|
                qz_getR (k1 := 6) kg_0 fl_SA_26 rfl rfl <|
                qz_putR (k1 := 6) kw_0 fp_SA_22_SA_assemble rfl rfl fun h2 =>
                qz_aload_n rfl <|
                qz_aload_n rfl <|
                qz_putR (k1 := 6) kw_0 fp_SA_26_SA_assemble rfl rfl fun h3 =>
                qz_aload_n rfl <|
                qz_getR (k1 := 6) kg_0 fl_SA_22 rfl rfl <|
                qz_nnd 0 rfl <|
                qz_getI kg_6 fl_SA_107 rfl rfl <|
                qz_ireturn ⟨rfl, rfl⟩ rfl)
              (qz_none))
          (qz_none))
      (qz_none)
set_option maxRecDepth 20000 in
theorem cn_SA_assemble (l0 : Int) (h : qz_H) : qz_C yd_SA_assemble [qz_r true 0 l0] h (fn_SA_assemble l0 h) := by
  refine qz_con (is := bk_SA_assemble_0) (ls := [qz_r true 0 l0, qz_u, qz_u]) mw_SA_assemble.2.2.2 ca_SA_assemble_0 rfl rfl rfl fun G => ?_
  unfold fn_SA_assemble bk_SA_assemble_0; exact
    qz_aload_n rfl <|
    qz_getR (k1 := 9) kg_0 fl_SA_34 rfl rfl <|
    qz_aload_n rfl <|
    qz_getR (k1 := 11) kg_0 fl_SA_10 rfl rfl <|
    qz_aload_n rfl <|
    qz_getR (k1 := 6) kg_0 fl_SA_26 rfl rfl <|
    qz_nnd 2 rfl <|
    qz_invvI [qz_r false 11 (h l0 4), qz_r false 6 (h l0 7)] rfl (cn_Reader_read (h l0 0) (h l0 4) (h l0 7) h) mw_Reader_read vw_Reader_read ⟨_, rfl, rfl, by decide⟩ rfl rfl ln_SA_75 rfl fun r1 h2 =>
    qz_istore_n (by decide) fun x3 =>
    qz_iload_n rfl <|
    qz_if_eq rfl ca_SA_assemble_34
      (qz_aload_n rfl <|
        qz_getR (k1 := 1) kg_0 fl_SA_43 rfl rfl <|
        qz_aload_n rfl <|
        qz_getR (k1 := 6) kg_0 fl_SA_26 rfl rfl <|
        qz_nnd 1 rfl <|
        qz_invvI [qz_r false 6 (h2 l0 7)] rfl (cn_Checker_accepts (h2 l0 1) (h2 l0 7) h2) mw_Checker_accepts vw_Checker_accepts ⟨_, rfl, rfl, by decide⟩ rfl rfl ln_SA_85 rfl fun r4 h5 =>
        qz_if_ne rfl ca_SA_assemble_61
          (qz_fgt [1, 1, 0] <| jb_SA_assemble_61 G l0 x3 h5)
          (qz_iconst rfl <|
            qz_istore_n (by decide) fun x6 =>
            qz_aload_n rfl <|
            qz_aload_n rfl <|
            qz_getR (k1 := 1) kg_0 fl_SA_43 rfl rfl <|
            qz_nnd 0 rfl <|
            qz_getI kg_1 fl_SA_89 rfl rfl <|
            qz_putI kw_0 fp_SA_82_SA_assemble rfl rfl fun h7 =>
            qz_fall rfl ca_SA_assemble_61 <|
            qz_fgt [1, 1, 0] <| jb_SA_assemble_61 G l0 x6 h7))
      (qz_aload_n rfl <|
        qz_aload_n rfl <|
        qz_getR (k1 := 9) kg_0 fl_SA_34 rfl rfl <|
        qz_nnd 0 rfl <|
        qz_getI kg_9 fl_SA_79 rfl rfl <|
        qz_putI kw_0 fp_SA_82_SA_assemble rfl rfl fun h8 =>
        qz_goto rfl ca_SA_assemble_61 <|
        qz_fgt [1, 1, 0] <| jb_SA_assemble_61 G l0 x3 h8)
def fn_Encoder_add_38 (h : qz_H) : Option qz_R :=
  some (0, h)
set_option maxRecDepth 20000 in
def fn_Encoder_add (l0 : Int) (l1 : Int) (h : qz_H) : Option qz_R :=
  if h l0 2 < 0 then
    fn_Encoder_add_38 h
  else
    if 1024 ≤ h l0 2 then
      fn_Encoder_add_38 h
    else
      qz_ck ((h l0 0 : Int) ≠ 0) <|
      qz_ck (0 < h l0 0 ∧ (0 : Int) ≤ h l0 2 ∧ h l0 2 < h (h l0 0) (-1)) <|
      qz_bn (qz_up h (h l0 0) (h l0 2) (qz_nb (qz_i2b l1))) fun h1 =>
      qz_ck ((0 : Int) < l0) <|
      qz_bn (qz_up h1 l0 2 (qz_w ((h1 l0 2) + 1))) fun h2 =>
      fn_Encoder_add_38 h2
def bk_Encoder_add_0 : List (Instr × Nat) := [(.aload_n 0, 1), (.getfield 19, 3), (.ifCond .lt 34, 3), (.aload_n 0, 1), (.getfield 19, 3), (.sipush 1024, 3), (.if_icmp .ge 24, 3), (.aload_n 0, 1), (.getfield 11, 3), (.aload_n 0, 1), (.getfield 19, 3), (.iload_n 1, 1), (.i2b, 1), (.bastore, 1), (.aload_n 0, 1), (.dup, 1), (.getfield 19, 3), (.iconst 1, 1), (.iadd, 1), (.putfield 19, 3)]
def bk_Encoder_add_38 : List (Instr × Nat) := [(.return_, 1)]
theorem ca_Encoder_add_0 : qz_ca yd_Encoder_add.2.1 0 bk_Encoder_add_0 := qz_cab_ok _ _ (by decide +kernel)
theorem ca_Encoder_add_38 : qz_ca yd_Encoder_add.2.1 38 bk_Encoder_add_38 := qz_cab_ok _ _ (by decide +kernel)
set_option maxRecDepth 20000 in
theorem jb_Encoder_add_38 (G : qz_G) (h : qz_H) : qz_J yd_Encoder_add G bk_Encoder_add_38 38 [qz_u, qz_u] [] h 0 0 (fn_Encoder_add_38 h) := by
  unfold fn_Encoder_add_38 bk_Encoder_add_38; exact
    qz_return ⟨rfl, rfl⟩ rfl
set_option maxRecDepth 20000 in
theorem cn_Encoder_add (l0 : Int) (l1 : Int) (h : qz_H) : qz_C yd_Encoder_add [qz_r true 2 l0, qz_i l1] h (fn_Encoder_add l0 l1 h) := by
  refine qz_con (is := bk_Encoder_add_0) (ls := [qz_r true 2 l0, qz_i l1]) mw_Encoder_add.2.2.2 ca_Encoder_add_0 rfl rfl rfl fun G => ?_
  unfold fn_Encoder_add bk_Encoder_add_0; exact
    qz_aload_n rfl <|
    qz_getI kg_2 fl_Encoder_19 rfl rfl <|
    qz_if_lt rfl ca_Encoder_add_38
      (qz_fgt [0, 0] <| jb_Encoder_add_38 G h)
      (qz_aload_n rfl <|
        qz_getI kg_2 fl_Encoder_19 rfl rfl <|
        qz_sipush rfl <|
        qz_icmp_ge rfl ca_Encoder_add_38
          (qz_fgt [0, 0] <| jb_Encoder_add_38 G h)
          (qz_aload_n rfl <|
            qz_getR (k1 := 43) kg_2 fl_Encoder_11 rfl rfl <|
            qz_aload_n rfl <|
            qz_getI kg_2 fl_Encoder_19 rfl rfl <|
            qz_iload_n rfl <|
            qz_ins_i2b <|
            qz_nnd 2 rfl <|
            qz_bast rfl rfl rfl fun h1 =>
            qz_aload_n rfl <|
            qz_dup rfl <|
            qz_getI kg_2 fl_Encoder_19 rfl rfl <|
            qz_iconst rfl <|
            qz_iadd <|
            qz_putI kw_2 fp_Encoder_19_Encoder_add rfl rfl fun h2 =>
            qz_fall rfl ca_Encoder_add_38 <|
            qz_fgt [0, 0] <| jb_Encoder_add_38 G h2))
def fn_Function_isCalledLike_75 (l2 : Int) (h : qz_H) : Option qz_R :=
  qz_ck ((l2 : Int) = 0 ∨ (l2 : Int) = 1) (some (l2, h))
def fn_Function_isCalledLike_68 (k30 : Int → Int → Int → Int → qz_H → Option qz_R) (l0 : Int) (l1 : Int) (l3 : Int) (s0 : Int) (h : qz_H) : Option qz_R :=
  qz_bn (s0 : Int) fun x1 =>
  qz_bn (qz_w (l3 + 1)) fun x2 =>
  k30 l0 l1 x1 x2 h
def fn_Function_isCalledLike_30_b (k30 : Int → Int → Int → Int → qz_H → Option qz_R) (l0 : Int) (l1 : Int) (l2 : Int) (l3 : Int) (h : qz_H) : Option qz_R :=
  if l2 = 0 then
    fn_Function_isCalledLike_75 l2 h
  else
    if h l0 1 ≤ l3 then
      fn_Function_isCalledLike_75 l2 h
    else
      if 6 ≤ l3 then
        fn_Function_isCalledLike_75 l2 h
      else
        qz_ck ((h l0 0 : Int) ≠ 0) <|
        qz_ck ((0 : Int) ≤ l3 ∧ l3 < h (h l0 0) (-1)) <|
        qz_ck ((l1 : Int) ≠ 0) <|
        qz_ck ((h l1 0 : Int) ≠ 0) <|
        qz_ck ((0 : Int) ≤ l3 ∧ l3 < h (h l1 0) (-1)) <|
        if ¬ h (h l0 0) l3 = h (h l1 0) l3 then
          fn_Function_isCalledLike_68 k30 l0 l1 l3 0 h
        else
          fn_Function_isCalledLike_68 k30 l0 l1 l3 1 h
def fn_Function_isCalledLike_30 : Nat → Int → Int → Int → Int → qz_H → Option qz_R
  | 0, _, _, _, _, _ => none
  | n + 1, l0, l1, l2, l3, h => fn_Function_isCalledLike_30_b (fn_Function_isCalledLike_30 n) l0 l1 l2 l3 h
def fn_Function_isCalledLike_27 (l0 : Int) (l1 : Int) (s0 : Int) (h : qz_H) : Option qz_R :=
  qz_bn (s0 : Int) fun x1 =>
  qz_bn (0 : Int) fun x2 =>
  fn_Function_isCalledLike_30 qz_NF l0 l1 x1 x2 h
def fn_Function_isCalledLike_26 (l0 : Int) (l1 : Int) (h : qz_H) : Option qz_R :=
  fn_Function_isCalledLike_27 l0 l1 0 h
set_option maxRecDepth 20000 in
def fn_Function_isCalledLike (l0 : Int) (l1 : Int) (h : qz_H) : Option qz_R :=
  qz_ck ((l1 : Int) ≠ 0) <|
  if ¬ h l0 1 = h l1 1 then
    fn_Function_isCalledLike_26 l0 l1 h
  else
    qz_ck ((l1 : Int) ≠ 0) <|
    if ¬ h l0 3 = h l1 3 then
      fn_Function_isCalledLike_26 l0 l1 h
    else
      fn_Function_isCalledLike_27 l0 l1 1 h
def bk_Function_isCalledLike_0 : List (Instr × Nat) := [(.aload_n 0, 1), (.getfield 15, 3), (.aload_n 1, 1), (.getfield 15, 3), (.if_icmp .ne 18, 3), (.aload_n 0, 1), (.getfield 22, 3), (.aload_n 1, 1), (.getfield 22, 3), (.if_icmp .ne 7, 3), (.iconst 1, 1), (.goto 4, 3)]
def bk_Function_isCalledLike_26 : List (Instr × Nat) := [(.iconst 0, 1)]
def bk_Function_isCalledLike_27 : List (Instr × Nat) := [(.istore_n 2, 1), (.iconst 0, 1), (.istore_n 3, 1)]
def bk_Function_isCalledLike_30 : List (Instr × Nat) := [(.iload_n 2, 1), (.ifCond .eq 44, 3), (.iload_n 3, 1), (.aload_n 0, 1), (.getfield 15, 3), (.if_icmp .ge 36, 3), (.iload_n 3, 1), (.bipush 6, 2), (.if_icmp .ge 30, 3), (.aload_n 0, 1), (.getfield 9, 3), (.iload_n 3, 1), (.iaload, 1), (.aload_n 1, 1), (.getfield 9, 3), (.iload_n 3, 1), (.iaload, 1), (.if_icmp .ne 7, 3), (.iconst 1, 1), (.goto 4, 3)]
def bk_Function_isCalledLike_75 : List (Instr × Nat) := [(.iload_n 2, 1), (.ireturn, 1)]
def bk_Function_isCalledLike_67 : List (Instr × Nat) := [(.iconst 0, 1)]
def bk_Function_isCalledLike_68 : List (Instr × Nat) := [(.istore_n 2, 1), (.iinc 3 1, 3), (.goto (-42), 3)]
theorem ca_Function_isCalledLike_0 : qz_ca yd_Function_isCalledLike.2.1 0 bk_Function_isCalledLike_0 := qz_cab_ok _ _ (by decide +kernel)
theorem ca_Function_isCalledLike_26 : qz_ca yd_Function_isCalledLike.2.1 26 bk_Function_isCalledLike_26 := qz_cab_ok _ _ (by decide +kernel)
theorem ca_Function_isCalledLike_27 : qz_ca yd_Function_isCalledLike.2.1 27 bk_Function_isCalledLike_27 := qz_cab_ok _ _ (by decide +kernel)
theorem ca_Function_isCalledLike_30 : qz_ca yd_Function_isCalledLike.2.1 30 bk_Function_isCalledLike_30 := qz_cab_ok _ _ (by decide +kernel)
theorem ca_Function_isCalledLike_75 : qz_ca yd_Function_isCalledLike.2.1 75 bk_Function_isCalledLike_75 := qz_cab_ok _ _ (by decide +kernel)
theorem ca_Function_isCalledLike_67 : qz_ca yd_Function_isCalledLike.2.1 67 bk_Function_isCalledLike_67 := qz_cab_ok _ _ (by decide +kernel)
theorem ca_Function_isCalledLike_68 : qz_ca yd_Function_isCalledLike.2.1 68 bk_Function_isCalledLike_68 := qz_cab_ok _ _ (by decide +kernel)
set_option maxRecDepth 20000 in
theorem jb_Function_isCalledLike_75 (G : qz_G) (l2 : Int) (h : qz_H) : qz_J yd_Function_isCalledLike G bk_Function_isCalledLike_75 75 [qz_u, qz_u, qz_i l2, qz_u] [] h 0 0 (fn_Function_isCalledLike_75 l2 h) := by
  unfold fn_Function_isCalledLike_75 bk_Function_isCalledLike_75; exact
    qz_iload_n rfl <|
    qz_zreturn ⟨rfl, rfl⟩ rfl
set_option maxRecDepth 20000 in
theorem jb_Function_isCalledLike_68 (G : qz_G) (k30 : Int → Int → Int → Int → qz_H → Option qz_R) (jk30 : ∀ (l0 : Int) (l1 : Int) (l2 : Int) (l3 : Int) (h : qz_H), qz_J yd_Function_isCalledLike G bk_Function_isCalledLike_30 30 [qz_r true 4 l0, qz_r false 4 l1, qz_i l2, qz_i l3] [] h 0 0 (k30 l0 l1 l2 l3 h)) (l0 : Int) (l1 : Int) (l3 : Int) (s0 : Int) (h : qz_H) : qz_J yd_Function_isCalledLike G bk_Function_isCalledLike_68 68 [qz_r true 4 l0, qz_r false 4 l1, qz_u, qz_i l3] [qz_i s0] h 0 0 (fn_Function_isCalledLike_68 k30 l0 l1 l3 s0 h) := by
  unfold fn_Function_isCalledLike_68 bk_Function_isCalledLike_68; exact
    qz_istore_n (by decide) fun x1 =>
    qz_iinc rfl (by decide) fun x2 =>
    qz_goto rfl ca_Function_isCalledLike_30 <|
    qz_fgt [1, 1, 1, 1] <| jk30 l0 l1 x1 x2 h
set_option maxRecDepth 20000 in
theorem jb_Function_isCalledLike_30_b (G : qz_G) (k30 : Int → Int → Int → Int → qz_H → Option qz_R) (jk30 : ∀ (l0 : Int) (l1 : Int) (l2 : Int) (l3 : Int) (h : qz_H), qz_J yd_Function_isCalledLike G bk_Function_isCalledLike_30 30 [qz_r true 4 l0, qz_r false 4 l1, qz_i l2, qz_i l3] [] h 0 0 (k30 l0 l1 l2 l3 h)) (l0 : Int) (l1 : Int) (l2 : Int) (l3 : Int) (h : qz_H) : qz_J yd_Function_isCalledLike G bk_Function_isCalledLike_30 30 [qz_r true 4 l0, qz_r false 4 l1, qz_i l2, qz_i l3] [] h 0 0 (fn_Function_isCalledLike_30_b k30 l0 l1 l2 l3 h) := by
  unfold fn_Function_isCalledLike_30_b bk_Function_isCalledLike_30; exact
    qz_iload_n rfl <|
    qz_if_eq rfl ca_Function_isCalledLike_75
      (qz_fgt [0, 0, 1, 0] <| jb_Function_isCalledLike_75 G l2 h)
      (qz_iload_n rfl <|
        qz_aload_n rfl <|
        qz_getI kg_4 fl_Function_15 rfl rfl <|
        qz_icmp_ge rfl ca_Function_isCalledLike_75
          (qz_fgt [0, 0, 1, 0] <| jb_Function_isCalledLike_75 G l2 h)
          (qz_iload_n rfl <|
            qz_bipush rfl <|
            qz_icmp_ge rfl ca_Function_isCalledLike_75
              (qz_fgt [0, 0, 1, 0] <| jb_Function_isCalledLike_75 G l2 h)
              (qz_aload_n rfl <|
                qz_getR (k1 := 40) kg_4 fl_Function_9 rfl rfl <|
                qz_iload_n rfl <|
                qz_nnd 1 rfl <|
                qz_iald (k0 := 40) rfl rfl rfl <|
                qz_aload_n rfl <|
                qz_nnd 0 rfl <|
                qz_getR (k1 := 40) kg_4 fl_Function_9 rfl rfl <|
                qz_iload_n rfl <|
                qz_nnd 1 rfl <|
                qz_iald (k0 := 40) rfl rfl rfl <|
                qz_icmp_ne rfl ca_Function_isCalledLike_67
                  (qz_iconst rfl <|
                    qz_fall rfl ca_Function_isCalledLike_68 <|
                    qz_fgt [1, 1, 0, 1] <| jb_Function_isCalledLike_68 G k30 jk30 l0 l1 l3 0 h)
                  (qz_iconst rfl <|
                    qz_goto rfl ca_Function_isCalledLike_68 <|
                    qz_fgt [1, 1, 0, 1] <| jb_Function_isCalledLike_68 G k30 jk30 l0 l1 l3 1 h))))
theorem jb_Function_isCalledLike_30 (G : qz_G) : ∀ (n : Nat) (l0 l1 l2 l3 : Int) (h : qz_H), qz_J yd_Function_isCalledLike G bk_Function_isCalledLike_30 30 [qz_r true 4 l0, qz_r false 4 l1, qz_i l2, qz_i l3] [] h 0 0 (fn_Function_isCalledLike_30 n l0 l1 l2 l3 h)
  | 0, _, _, _, _, _ => qz_none
  | n + 1, l0, l1, l2, l3, h => jb_Function_isCalledLike_30_b G (fn_Function_isCalledLike_30 n) (jb_Function_isCalledLike_30 G n) l0 l1 l2 l3 h
set_option maxRecDepth 20000 in
theorem jb_Function_isCalledLike_27 (G : qz_G) (l0 : Int) (l1 : Int) (s0 : Int) (h : qz_H) : qz_J yd_Function_isCalledLike G bk_Function_isCalledLike_27 27 [qz_r true 4 l0, qz_r false 4 l1, qz_u, qz_u] [qz_i s0] h 0 0 (fn_Function_isCalledLike_27 l0 l1 s0 h) := by
  unfold fn_Function_isCalledLike_27 bk_Function_isCalledLike_27; exact
    qz_istore_n (by decide) fun x1 =>
    qz_iconst rfl <|
    qz_istore_n (by decide) fun x2 =>
    qz_fall rfl ca_Function_isCalledLike_30 <|
    qz_fgt [1, 1, 1, 1] <| jb_Function_isCalledLike_30 G qz_NF l0 l1 x1 x2 h
set_option maxRecDepth 20000 in
theorem jb_Function_isCalledLike_26 (G : qz_G) (l0 : Int) (l1 : Int) (h : qz_H) : qz_J yd_Function_isCalledLike G bk_Function_isCalledLike_26 26 [qz_r true 4 l0, qz_r false 4 l1, qz_u, qz_u] [] h 0 0 (fn_Function_isCalledLike_26 l0 l1 h) := by
  unfold fn_Function_isCalledLike_26 bk_Function_isCalledLike_26; exact
    qz_iconst rfl <|
    qz_fall rfl ca_Function_isCalledLike_27 <|
    qz_fgt [1, 1, 0, 0] <| jb_Function_isCalledLike_27 G l0 l1 0 h
set_option maxRecDepth 20000 in
theorem cn_Function_isCalledLike (l0 : Int) (l1 : Int) (h : qz_H) : qz_C yd_Function_isCalledLike [qz_r true 4 l0, qz_r false 4 l1] h (fn_Function_isCalledLike l0 l1 h) := by
  refine qz_con (is := bk_Function_isCalledLike_0) (ls := [qz_r true 4 l0, qz_r false 4 l1, qz_u, qz_u]) mw_Function_isCalledLike.2.2.2 ca_Function_isCalledLike_0 rfl rfl rfl fun G => ?_
  unfold fn_Function_isCalledLike bk_Function_isCalledLike_0; exact
    qz_aload_n rfl <|
    qz_getI kg_4 fl_Function_15 rfl rfl <|
    qz_aload_n rfl <|
    qz_nnd 0 rfl <|
    qz_getI kg_4 fl_Function_15 rfl rfl <|
    qz_icmp_ne rfl ca_Function_isCalledLike_26
      (qz_fgt [1, 1, 0, 0] <| jb_Function_isCalledLike_26 G l0 l1 h)
      (qz_aload_n rfl <|
        qz_getI kg_4 fl_Function_22 rfl rfl <|
        qz_aload_n rfl <|
        qz_nnd 0 rfl <|
        qz_getI kg_4 fl_Function_22 rfl rfl <|
        qz_icmp_ne rfl ca_Function_isCalledLike_26
          (qz_fgt [1, 1, 0, 0] <| jb_Function_isCalledLike_26 G l0 l1 h)
          (qz_iconst rfl <|
            qz_goto rfl ca_Function_isCalledLike_27 <|
            qz_fgt [1, 1, 0, 0] <| jb_Function_isCalledLike_27 G l0 l1 1 h))
