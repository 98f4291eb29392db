def fn_Md_branch_67 (h : qz_H) : Option qz_R :=
  some (0, h)
def fn_Md_branch_11 (l0 : Int) (l1 : Int) (l2 : Int) (h : qz_H) : Option qz_R :=
  if qz_cmp l2 (h l0 51) < 0 then
    qz_ck ((h l0 52 : Int) ≠ 0) <|
    qz_ck ((0 : Int) ≤ qz_w ((qz_w ((h l0 51) - 1)) - (qz_w l2)) ∧ qz_w ((qz_w ((h l0 51) - 1)) - (qz_w l2)) < h (h l0 52) (-1)) <|
    qz_bn (h (h l0 52) (qz_w ((qz_w ((h l0 51) - 1)) - (qz_w l2))) : Int) fun x1 =>
    if ¬ l1 = 13 then
      qz_bc (fn_Md_takeResult l0 x1 h) fun _ h3 =>
      qz_bc (fn_Md_die l0 h3) fun _ h5 =>
      fn_Md_branch_67 h5
    else
      qz_bc (fn_Md_takeAndPut l0 x1 h) fun _ h7 =>
      fn_Md_branch_67 h7
  else
    qz_bc (fn_Md_bad l0 h) fun _ h9 =>
    some (0, h9)
set_option maxRecDepth 20000 in
def fn_Md_branch (l0 : Int) (l1 : Int) (l2 : Int) (h : qz_H) : Option qz_R :=
  if ¬ l1 = 13 then
    fn_Md_branch_11 l0 l1 l2 h
  else
    qz_bc (fn_Md_takeResult l0 1 h) fun _ h2 =>
    fn_Md_branch_11 l0 l1 l2 h2
def bk_Md_branch_0 : List (Instr × Nat) := [(.iload_n 1, 1), (.bipush 13, 2), (.if_icmp .ne 8, 3), (.aload_n 0, 1), (.iconst 1, 1), (.invokevirtual 412, 3)]
def bk_Md_branch_11 : List (Instr × Nat) := [(.lload_n 2, 1), (.aload_n 0, 1), (.getfield 399, 3), (.i2l, 1), (.lcmp, 1), (.ifCond .lt 8, 3), (.aload_n 0, 1), (.invokevirtual 422, 3), (.return_, 1)]
def bk_Md_branch_26 : List (Instr × Nat) := [(.aload_n 0, 1), (.getfield 182, 3), (.aload_n 0, 1), (.getfield 399, 3), (.iconst 1, 1), (.isub, 1), (.lload_n 2, 1), (.l2i, 1), (.isub, 1), (.iaload, 1), (.istore 4, 2), (.iload_n 1, 1), (.bipush 13, 2), (.if_icmp .ne 12, 3), (.aload_n 0, 1), (.iload 4, 2), (.invokevirtual 425, 3), (.goto 13, 3)]
def bk_Md_branch_57 : List (Instr × Nat) := [(.aload_n 0, 1), (.iload 4, 2), (.invokevirtual 412, 3), (.aload_n 0, 1), (.invokevirtual 428, 3)]
def bk_Md_branch_67 : List (Instr × Nat) := [(.return_, 1)]
theorem ca_Md_branch_0 : qz_ca yd_Md_branch.2.1 0 bk_Md_branch_0 := qz_cab_ok _ _ (by decide +kernel)
theorem ca_Md_branch_11 : qz_ca yd_Md_branch.2.1 11 bk_Md_branch_11 := qz_cab_ok _ _ (by decide +kernel)
theorem ca_Md_branch_26 : qz_ca yd_Md_branch.2.1 26 bk_Md_branch_26 := qz_cab_ok _ _ (by decide +kernel)
theorem ca_Md_branch_57 : qz_ca yd_Md_branch.2.1 57 bk_Md_branch_57 := qz_cab_ok _ _ (by decide +kernel)
theorem ca_Md_branch_67 : qz_ca yd_Md_branch.2.1 67 bk_Md_branch_67 := qz_cab_ok _ _ (by decide +kernel)
set_option maxRecDepth 20000 in
theorem jb_Md_branch_67 (G : qz_G) (h : qz_H) : qz_J yd_Md_branch G bk_Md_branch_67 67 [qz_u, qz_u, qz_u, qz_u, qz_u] [] h 0 0 (fn_Md_branch_67 h) := by
  unfold fn_Md_branch_67 bk_Md_branch_67; exact
    qz_return ⟨rfl, rfl⟩ rfl
set_option maxRecDepth 20000 in
theorem jb_Md_branch_11 (G : qz_G) (l0 : Int) (l1 : Int) (l2 : Int) (h : qz_H) : qz_J yd_Md_branch G bk_Md_branch_11 11 [qz_r true 12 l0, qz_i l1, qz_j l2, qz_u, qz_u] [] h 0 0 (fn_Md_branch_11 l0 l1 l2 h) := by
  unfold fn_Md_branch_11 bk_Md_branch_11; exact
    qz_lload_n rfl <|
    qz_aload_n rfl <|
    qz_getI kg_12 fl_Md_399 rfl rfl <|
    qz_i2l <|
    qz_lcmp <|
    qz_if_lt rfl ca_Md_branch_26
      (qz_aload_n rfl <|
        qz_getR (k1 := 40) kg_12 fl_Md_182 rfl rfl <|
        qz_aload_n rfl <|
        qz_getI kg_12 fl_Md_399 rfl rfl <|
        qz_iconst rfl <|
        qz_isub <|
        qz_lload_n rfl <|
        qz_l2i <|
        qz_isub <|
        qz_nnd 1 rfl <|
        qz_iald (k0 := 40) rfl rfl rfl <|
        qz_istore (by decide) fun x1 =>
        qz_iload_n rfl <|
        qz_bipush rfl <|
        qz_icmp_ne rfl ca_Md_branch_57
          (qz_aload_n rfl <|
            qz_iload rfl <|
            qz_invvV [qz_i x1] rfl (cn_Md_takeResult l0 x1 h) mw_Md_takeResult vw_Md_takeResult ⟨_, rfl, rfl, by decide⟩ rfl rfl ln_Md_412 rfl fun _ h3 =>
            qz_aload_n rfl <|
            qz_invvV [] rfl (cn_Md_die l0 h3) mw_Md_die vw_Md_die ⟨_, rfl, rfl, by decide⟩ rfl rfl ln_Md_428 rfl fun _ h5 =>
            qz_fall rfl ca_Md_branch_67 <|
            qz_fgt [0, 0, 0, 0, 0] <| jb_Md_branch_67 G h5)
          (qz_aload_n rfl <|
            qz_iload rfl <|
            qz_invvV [qz_i x1] rfl (cn_Md_takeAndPut l0 x1 h) mw_Md_takeAndPut vw_Md_takeAndPut ⟨_, rfl, rfl, by decide⟩ rfl rfl ln_Md_425 rfl fun _ h7 =>
            qz_goto rfl ca_Md_branch_67 <|
            qz_fgt [0, 0, 0, 0, 0] <| jb_Md_branch_67 G h7))
      (qz_aload_n rfl <|
        qz_invvV [] rfl (cn_Md_bad l0 h) mw_Md_bad vw_Md_bad ⟨_, rfl, rfl, by decide⟩ rfl rfl ln_Md_422 rfl fun _ h9 =>
        qz_return ⟨rfl, rfl⟩ rfl)
set_option maxRecDepth 20000 in
theorem cn_Md_branch (l0 : Int) (l1 : Int) (l2 : Int) (h : qz_H) : qz_C yd_Md_branch [qz_r true 12 l0, qz_i l1, qz_j l2] h (fn_Md_branch l0 l1 l2 h) := by
  refine qz_con (is := bk_Md_branch_0) (ls := [qz_r true 12 l0, qz_i l1, qz_j l2, qz_u, qz_u]) mw_Md_branch.2.2.2 ca_Md_branch_0 rfl rfl rfl fun G => ?_
  unfold fn_Md_branch bk_Md_branch_0; exact
    qz_iload_n rfl <|
    qz_bipush rfl <|
    qz_icmp_ne rfl ca_Md_branch_11
      (qz_fgt [1, 1, 1, 0, 0] <| jb_Md_branch_11 G l0 l1 l2 h)
      (qz_aload_n rfl <|
        qz_iconst rfl <|
        qz_invvV [qz_i 1] rfl (cn_Md_takeResult l0 1 h) mw_Md_takeResult vw_Md_takeResult ⟨_, rfl, rfl, by decide⟩ rfl rfl ln_Md_412 rfl fun _ h2 =>
        qz_fall rfl ca_Md_branch_11 <|
        qz_fgt [1, 1, 1, 0, 0] <| jb_Md_branch_11 G l0 l1 l2 h2)
def fn_Md_callOf_74 (h : qz_H) : Option qz_R :=
  some (0, h)
def fn_Md_callOf_28_b (k28 : Int → Int → Int → qz_H → Option qz_R) (l0 : Int) (l3 : Int) (l4 : Int) (h : qz_H) : Option qz_R :=
  if l4 < 0 then
    qz_ck ((h l0 18 : Int) ≠ 0) <|
    qz_ck ((0 : Int) ≤ l3 ∧ l3 < h (h l0 18) (-1)) <|
    if h (h l0 18) l3 ≤ 0 then
      fn_Md_callOf_74 h
    else
      qz_ck ((h l0 18 : Int) ≠ 0) <|
      qz_ck ((0 : Int) ≤ l3 ∧ l3 < h (h l0 18) (-1)) <|
      qz_bc (fn_Md_put l0 (h (h l0 18) l3) h) fun _ h2 =>
      fn_Md_callOf_74 h2
  else
    qz_ck ((h l0 19 : Int) ≠ 0) <|
    qz_ck ((0 : Int) ≤ qz_w ((qz_w (8 * l3)) + l4) ∧ qz_w ((qz_w (8 * l3)) + l4) < h (h l0 19) (-1)) <|
    qz_bc (fn_Md_takeResult l0 (h (h l0 19) (qz_w ((qz_w (8 * l3)) + l4))) h) fun _ h4 =>
    qz_bn (qz_w (l4 + (-1))) fun x5 =>
    k28 l0 l3 x5 h4
def fn_Md_callOf_28 : Nat → Int → Int → Int → qz_H → Option qz_R
  | 0, _, _, _, _ => none
  | n + 1, l0, l3, l4, h => fn_Md_callOf_28_b (fn_Md_callOf_28 n) l0 l3 l4 h
set_option maxRecDepth 20000 in
def fn_Md_callOf (l0 : Int) (l1 : Int) (h : qz_H) : Option qz_R :=
  if qz_cmp l1 (h l0 15) < 0 then
    qz_bn (qz_w l1 : Int) fun x1 =>
    qz_ck ((h l0 16 : Int) ≠ 0) <|
    qz_ck ((0 : Int) ≤ x1 ∧ x1 < h (h l0 16) (-1)) <|
    qz_bn (qz_w ((h (h l0 16) x1) - 1) : Int) fun x2 =>
    fn_Md_callOf_28 qz_NF l0 x1 x2 h
  else
    qz_bc (fn_Md_bad l0 h) fun _ h4 =>
    some (0, h4)
def bk_Md_callOf_0 : List (Instr × Nat) := [(.lload_n 1, 1), (.aload_n 0, 1), (.getfield 307, 3), (.i2l, 1), (.lcmp, 1), (.ifCond .lt 8, 3), (.aload_n 0, 1), (.invokevirtual 422, 3), (.return_, 1)]
def bk_Md_callOf_15 : List (Instr × Nat) := [(.lload_n 1, 1), (.l2i, 1), (.istore_n 3, 1), (.aload_n 0, 1), (.getfield 115, 3), (.iload_n 3, 1), (.iaload, 1), (.iconst 1, 1), (.isub, 1), (.istore 4, 2)]
def bk_Md_callOf_28 : List (Instr × Nat) := [(.iload 4, 2), (.ifCond .lt 25, 3), (.aload_n 0, 1), (.aload_n 0, 1), (.getfield 124, 3), (.bipush 8, 2), (.iload_n 3, 1), (.imul, 1), (.iload 4, 2), (.iadd, 1), (.iaload, 1), (.invokevirtual 412, 3), (.iinc 4 (-1), 3), (.goto (-24), 3)]
def bk_Md_callOf_55 : List (Instr × Nat) := [(.aload_n 0, 1), (.getfield 121, 3), (.iload_n 3, 1), (.iaload, 1), (.ifCond .le 13, 3), (.aload_n 0, 1), (.aload_n 0, 1), (.getfield 121, 3), (.iload_n 3, 1), (.iaload, 1), (.invokevirtual 408, 3)]
def bk_Md_callOf_74 : List (Instr × Nat) := [(.return_, 1)]
theorem ca_Md_callOf_0 : qz_ca yd_Md_callOf.2.1 0 bk_Md_callOf_0 := qz_cab_ok _ _ (by decide +kernel)
theorem ca_Md_callOf_15 : qz_ca yd_Md_callOf.2.1 15 bk_Md_callOf_15 := qz_cab_ok _ _ (by decide +kernel)
theorem ca_Md_callOf_28 : qz_ca yd_Md_callOf.2.1 28 bk_Md_callOf_28 := qz_cab_ok _ _ (by decide +kernel)
theorem ca_Md_callOf_55 : qz_ca yd_Md_callOf.2.1 55 bk_Md_callOf_55 := qz_cab_ok _ _ (by decide +kernel)
theorem ca_Md_callOf_74 : qz_ca yd_Md_callOf.2.1 74 bk_Md_callOf_74 := qz_cab_ok _ _ (by decide +kernel)
set_option maxRecDepth 20000 in
theorem jb_Md_callOf_74 (G : qz_G) (h : qz_H) : qz_J yd_Md_callOf G bk_Md_callOf_74 74 [qz_u, qz_u, qz_u, qz_u, qz_u] [] h 0 0 (fn_Md_callOf_74 h) := by
  unfold fn_Md_callOf_74 bk_Md_callOf_74; exact
    qz_return ⟨rfl, rfl⟩ rfl
set_option maxRecDepth 20000 in
theorem jb_Md_callOf_28_b (G : qz_G) (k28 : Int → Int → Int → qz_H → Option qz_R) (jk28 : ∀ (l0 : Int) (l3 : Int) (l4 : Int) (h : qz_H), qz_J yd_Md_callOf G bk_Md_callOf_28 28 [qz_r true 12 l0, qz_u, qz_u, qz_i l3, qz_i l4] [] h 0 0 (k28 l0 l3 l4 h)) (l0 : Int) (l3 : Int) (l4 : Int) (h : qz_H) : qz_J yd_Md_callOf G bk_Md_callOf_28 28 [qz_r true 12 l0, qz_u, qz_u, qz_i l3, qz_i l4] [] h 0 0 (fn_Md_callOf_28_b k28 l0 l3 l4 h) := by
  unfold fn_Md_callOf_28_b bk_Md_callOf_28; exact
    qz_iload rfl <|
    qz_if_lt rfl ca_Md_callOf_55
      (qz_aload_n rfl <|
        qz_getR (k1 := 40) kg_12 fl_Md_121 rfl rfl <|
        qz_iload_n rfl <|
        qz_nnd 1 rfl <|
        qz_iald (k0 := 40) rfl rfl rfl <|
        qz_if_le rfl ca_Md_callOf_74
          (qz_fgt [0, 0, 0, 0, 0] <| jb_Md_callOf_74 G h)
          (qz_aload_n rfl <|
            qz_aload_n rfl <|
            qz_getR (k1 := 40) kg_12 fl_Md_121 rfl rfl <|
            qz_iload_n rfl <|
            qz_nnd 1 rfl <|
            qz_iald (k0 := 40) rfl rfl rfl <|
            qz_invvV [qz_i (h (h l0 18) l3)] rfl (cn_Md_put l0 (h (h l0 18) l3) h) mw_Md_put vw_Md_put ⟨_, rfl, rfl, by decide⟩ rfl rfl ln_Md_408 rfl fun _ h2 =>
            qz_fall rfl ca_Md_callOf_74 <|
            qz_fgt [0, 0, 0, 0, 0] <| jb_Md_callOf_74 G h2))
      (qz_aload_n rfl <|
        qz_aload_n rfl <|
        qz_getR (k1 := 40) kg_12 fl_Md_124 rfl rfl <|
        qz_bipush rfl <|
        qz_iload_n rfl <|
        qz_imul <|
        qz_iload rfl <|
        qz_iadd <|
        qz_nnd 1 rfl <|
        qz_iald (k0 := 40) rfl rfl rfl <|
        qz_invvV [qz_i (h (h l0 19) (qz_w ((qz_w (8 * l3)) + l4)))] rfl (cn_Md_takeResult l0 (h (h l0 19) (qz_w ((qz_w (8 * l3)) + l4))) h) mw_Md_takeResult vw_Md_takeResult ⟨_, rfl, rfl, by decide⟩ rfl rfl ln_Md_412 rfl fun _ h4 =>
        qz_iinc rfl (by decide) fun x5 =>
        qz_goto rfl ca_Md_callOf_28 <|
        qz_fgt [1, 0, 0, 1, 1] <| jk28 l0 l3 x5 h4)
theorem jb_Md_callOf_28 (G : qz_G) : ∀ (n : Nat) (l0 l3 l4 : Int) (h : qz_H), qz_J yd_Md_callOf G bk_Md_callOf_28 28 [qz_r true 12 l0, qz_u, qz_u, qz_i l3, qz_i l4] [] h 0 0 (fn_Md_callOf_28 n l0 l3 l4 h)
  | 0, _, _, _, _ => qz_none
  | n + 1, l0, l3, l4, h => jb_Md_callOf_28_b G (fn_Md_callOf_28 n) (jb_Md_callOf_28 G n) l0 l3 l4 h
set_option maxRecDepth 20000 in
theorem cn_Md_callOf (l0 : Int) (l1 : Int) (h : qz_H) : qz_C yd_Md_callOf [qz_r true 12 l0, qz_j l1] h (fn_Md_callOf l0 l1 h) := by
  refine qz_con (is := bk_Md_callOf_0) (ls := [qz_r true 12 l0, qz_j l1, qz_u, qz_u, qz_u]) mw_Md_callOf.2.2.2 ca_Md_callOf_0 rfl rfl rfl fun G => ?_
  unfold fn_Md_callOf bk_Md_callOf_0; exact
    qz_lload_n rfl <|
    qz_aload_n rfl <|
    qz_getI kg_12 fl_Md_307 rfl rfl <|
    qz_i2l <|
    qz_lcmp <|
    qz_if_lt rfl ca_Md_callOf_15
      (qz_lload_n rfl <|
        qz_l2i <|
        qz_istore_n (by decide) fun x1 =>
        qz_aload_n rfl <|
        qz_getR (k1 := 40) kg_12 fl_Md_115 rfl rfl <|
        qz_iload_n rfl <|
        qz_nnd 1 rfl <|
        qz_iald (k0 := 40) rfl rfl rfl <|
        qz_iconst rfl <|
        qz_isub <|
        qz_istore (by decide) fun x2 =>
        qz_fall rfl ca_Md_callOf_28 <|
        qz_fgt [1, 0, 0, 1, 1] <| jb_Md_callOf_28 G qz_NF l0 x1 x2 h)
      (qz_aload_n rfl <|
        qz_invvV [] rfl (cn_Md_bad l0 h) mw_Md_bad vw_Md_bad ⟨_, rfl, rfl, by decide⟩ rfl rfl ln_Md_422 rfl fun _ h4 =>
        qz_return ⟨rfl, rfl⟩ rfl)
def fn_Md_local_67 (h : qz_H) : Option qz_R :=
  some (0, h)
set_option maxRecDepth 20000 in
def fn_Md_local (l0 : Int) (l1 : Int) (l2 : Int) (l3 : Int) (h : qz_H) : Option qz_R :=
  qz_ck ((h l0 17 : Int) ≠ 0) <|
  qz_ck ((0 : Int) ≤ l1 ∧ l1 < h (h l0 17) (-1)) <|
  if qz_cmp l3 (h (h l0 17) l1) < 0 then
    qz_ck ((h l0 19 : Int) ≠ 0) <|
    qz_ck ((0 : Int) ≤ qz_w ((qz_w (8 * l1)) + (qz_w l3)) ∧ qz_w ((qz_w (8 * l1)) + (qz_w l3)) < h (h l0 19) (-1)) <|
    qz_bn (h (h l0 19) (qz_w ((qz_w (8 * l1)) + (qz_w l3))) : Int) fun x1 =>
    if ¬ l2 = 32 then
      if ¬ l2 = 33 then
        qz_bc (fn_Md_takeAndPut l0 x1 h) fun _ h3 =>
        fn_Md_local_67 h3
      else
        qz_bc (fn_Md_takeResult l0 x1 h) fun _ h5 =>
        fn_Md_local_67 h5
    else
      qz_bc (fn_Md_put l0 x1 h) fun _ h7 =>
      fn_Md_local_67 h7
  else
    qz_bc (fn_Md_bad l0 h) fun _ h9 =>
    some (0, h9)
def bk_Md_local_0 : List (Instr × Nat) := [(.lload_n 3, 1), (.aload_n 0, 1), (.getfield 118, 3), (.iload_n 1, 1), (.iaload, 1), (.i2l, 1), (.lcmp, 1), (.ifCond .lt 8, 3), (.aload_n 0, 1), (.invokevirtual 422, 3), (.return_, 1)]
def bk_Md_local_17 : List (Instr × Nat) := [(.aload_n 0, 1), (.getfield 124, 3), (.bipush 8, 2), (.iload_n 1, 1), (.imul, 1), (.lload_n 3, 1), (.l2i, 1), (.iadd, 1), (.iaload, 1), (.istore 5, 2), (.iload_n 2, 1), (.bipush 32, 2), (.if_icmp .ne 12, 3), (.aload_n 0, 1), (.iload 5, 2), (.invokevirtual 408, 3), (.goto 24, 3)]
def bk_Md_local_46 : List (Instr × Nat) := [(.iload_n 2, 1), (.bipush 33, 2), (.if_icmp .ne 12, 3), (.aload_n 0, 1), (.iload 5, 2), (.invokevirtual 412, 3), (.goto 9, 3)]
def bk_Md_local_61 : List (Instr × Nat) := [(.aload_n 0, 1), (.iload 5, 2), (.invokevirtual 425, 3)]
def bk_Md_local_67 : List (Instr × Nat) := [(.return_, 1)]
theorem ca_Md_local_0 : qz_ca yd_Md_local.2.1 0 bk_Md_local_0 := qz_cab_ok _ _ (by decide +kernel)
theorem ca_Md_local_17 : qz_ca yd_Md_local.2.1 17 bk_Md_local_17 := qz_cab_ok _ _ (by decide +kernel)
theorem ca_Md_local_46 : qz_ca yd_Md_local.2.1 46 bk_Md_local_46 := qz_cab_ok _ _ (by decide +kernel)
theorem ca_Md_local_61 : qz_ca yd_Md_local.2.1 61 bk_Md_local_61 := qz_cab_ok _ _ (by decide +kernel)
theorem ca_Md_local_67 : qz_ca yd_Md_local.2.1 67 bk_Md_local_67 := qz_cab_ok _ _ (by decide +kernel)
set_option maxRecDepth 20000 in
theorem jb_Md_local_67 (G : qz_G) (h : qz_H) : qz_J yd_Md_local G bk_Md_local_67 67 [qz_u, qz_u, qz_u, qz_u, qz_u, qz_u] [] h 0 0 (fn_Md_local_67 h) := by
  unfold fn_Md_local_67 bk_Md_local_67; exact
    qz_return ⟨rfl, rfl⟩ rfl
set_option maxRecDepth 20000 in
theorem cn_Md_local (l0 : Int) (l1 : Int) (l2 : Int) (l3 : Int) (h : qz_H) : qz_C yd_Md_local [qz_r true 12 l0, qz_i l1, qz_i l2, qz_j l3] h (fn_Md_local l0 l1 l2 l3 h) := by
  refine qz_con (is := bk_Md_local_0) (ls := [qz_r true 12 l0, qz_i l1, qz_i l2, qz_j l3, qz_u, qz_u]) mw_Md_local.2.2.2 ca_Md_local_0 rfl rfl rfl fun G => ?_
  unfold fn_Md_local bk_Md_local_0; exact
    qz_lload_n rfl <|
    qz_aload_n rfl <|
    qz_getR (k1 := 40) kg_12 fl_Md_118 rfl rfl <|
    qz_iload_n rfl <|
    qz_nnd 1 rfl <|
    qz_iald (k0 := 40) rfl rfl rfl <|
    qz_i2l <|
    qz_lcmp <|
    qz_if_lt rfl ca_Md_local_17
      (qz_aload_n rfl <|
        qz_getR (k1 := 40) kg_12 fl_Md_124 rfl rfl <|
        qz_bipush rfl <|
        qz_iload_n rfl <|
        qz_imul <|
        qz_lload_n rfl <|
        qz_l2i <|
        qz_iadd <|
        qz_nnd 1 rfl <|
        qz_iald (k0 := 40) rfl rfl rfl <|
        qz_istore (by decide) fun x1 =>
        qz_iload_n rfl <|
        qz_bipush rfl <|
        qz_icmp_ne rfl ca_Md_local_46
          (qz_iload_n rfl <|
            qz_bipush rfl <|
            qz_icmp_ne rfl ca_Md_local_61
              (qz_aload_n rfl <|
                qz_iload rfl <|
                qz_invvV [qz_i x1] rfl (cn_Md_takeAndPut l0 x1 h) mw_Md_takeAndPut vw_Md_takeAndPut ⟨_, rfl, rfl, by decide⟩ rfl rfl ln_Md_425 rfl fun _ h3 =>
                qz_fall rfl ca_Md_local_67 <|
                qz_fgt [0, 0, 0, 0, 0, 0] <| jb_Md_local_67 G h3)
              (qz_aload_n rfl <|
                qz_iload rfl <|
                qz_invvV [qz_i x1] rfl (cn_Md_takeResult l0 x1 h) mw_Md_takeResult vw_Md_takeResult ⟨_, rfl, rfl, by decide⟩ rfl rfl ln_Md_412 rfl fun _ h5 =>
                qz_goto rfl ca_Md_local_67 <|
                qz_fgt [0, 0, 0, 0, 0, 0] <| jb_Md_local_67 G h5))
          (qz_aload_n rfl <|
            qz_iload rfl <|
            qz_invvV [qz_i x1] rfl (cn_Md_put l0 x1 h) mw_Md_put vw_Md_put ⟨_, rfl, rfl, by decide⟩ rfl rfl ln_Md_408 rfl fun _ h7 =>
            qz_goto rfl ca_Md_local_67 <|
            qz_fgt [0, 0, 0, 0, 0, 0] <| jb_Md_local_67 G h7))
      (qz_aload_n rfl <|
        qz_invvV [] rfl (cn_Md_bad l0 h) mw_Md_bad vw_Md_bad ⟨_, rfl, rfl, by decide⟩ rfl rfl ln_Md_422 rfl fun _ h9 =>
        qz_return ⟨rfl, rfl⟩ rfl)
def fn_Md_select_27 (s0 : Int) (s1 : Int) (h : qz_H) : Option qz_R :=
  qz_bc (fn_Md_put s0 s1 h) fun _ h2 =>
  some (0, h2)
set_option maxRecDepth 20000 in
def fn_Md_select (l0 : Int) (h : qz_H) : Option qz_R :=
  qz_bc (fn_Md_takeResult l0 1 h) fun _ h2 =>
  qz_bc (fn_Md_take l0 0 h2) fun r3 h4 =>
  qz_bn (r3 : Int) fun x5 =>
  qz_bc (fn_Md_take l0 x5 h4) fun r6 h7 =>
  qz_bn (r6 : Int) fun x8 =>
  if x5 = 0 then
    fn_Md_select_27 l0 x8 h7
  else
    fn_Md_select_27 l0 x5 h7
def bk_Md_select_0 : List (Instr × Nat) := [(.aload_n 0, 1), (.iconst 1, 1), (.invokevirtual 412, 3), (.aload_n 0, 1), (.iconst 0, 1), (.invokevirtual 405, 3), (.istore_n 1, 1), (.aload_n 0, 1), (.iload_n 1, 1), (.invokevirtual 405, 3), (.istore_n 2, 1), (.aload_n 0, 1), (.iload_n 1, 1), (.ifCond .eq 7, 3), (.iload_n 1, 1), (.goto 4, 3)]
def bk_Md_select_26 : List (Instr × Nat) := [(.iload_n 2, 1)]
def bk_Md_select_27 : List (Instr × Nat) := [(.invokevirtual 408, 3), (.return_, 1)]
theorem ca_Md_select_0 : qz_ca yd_Md_select.2.1 0 bk_Md_select_0 := qz_cab_ok _ _ (by decide +kernel)
theorem ca_Md_select_26 : qz_ca yd_Md_select.2.1 26 bk_Md_select_26 := qz_cab_ok _ _ (by decide +kernel)
theorem ca_Md_select_27 : qz_ca yd_Md_select.2.1 27 bk_Md_select_27 := qz_cab_ok _ _ (by decide +kernel)
set_option maxRecDepth 20000 in
theorem jb_Md_select_27 (G : qz_G) (s0 : Int) (s1 : Int) (h : qz_H) : qz_J yd_Md_select G bk_Md_select_27 27 [qz_u, qz_u, qz_u] [qz_i s1, qz_r true 12 s0] h 0 0 (fn_Md_select_27 s0 s1 h) := by
  unfold fn_Md_select_27 bk_Md_select_27; exact
    qz_invvV [qz_i s1] rfl (cn_Md_put s0 s1 h) mw_Md_put vw_Md_put ⟨_, rfl, rfl, by decide⟩ rfl rfl ln_Md_408 rfl fun _ h2 =>
    qz_return ⟨rfl, rfl⟩ rfl
set_option maxRecDepth 20000 in
theorem cn_Md_select (l0 : Int) (h : qz_H) : qz_C yd_Md_select [qz_r true 12 l0] h (fn_Md_select l0 h) := by
  refine qz_con (is := bk_Md_select_0) (ls := [qz_r true 12 l0, qz_u, qz_u]) mw_Md_select.2.2.2 ca_Md_select_0 rfl rfl rfl fun G => ?_
  unfold fn_Md_select bk_Md_select_0; exact
    qz_aload_n rfl <|
    qz_iconst rfl <|
    qz_invvV [qz_i 1] rfl (cn_Md_takeResult l0 1 h) mw_Md_takeResult vw_Md_takeResult ⟨_, rfl, rfl, by decide⟩ rfl rfl ln_Md_412 rfl fun _ h2 =>
    qz_aload_n rfl <|
    qz_iconst rfl <|
    qz_invvI [qz_i 0] rfl (cn_Md_take l0 0 h2) mw_Md_take vw_Md_take ⟨_, rfl, rfl, by decide⟩ rfl rfl ln_Md_405 rfl fun r3 h4 =>
    qz_istore_n (by decide) fun x5 =>
    qz_aload_n rfl <|
    qz_iload_n rfl <|
    qz_invvI [qz_i x5] rfl (cn_Md_take l0 x5 h4) mw_Md_take vw_Md_take ⟨_, rfl, rfl, by decide⟩ rfl rfl ln_Md_405 rfl fun r6 h7 =>
    qz_istore_n (by decide) fun x8 =>
    qz_aload_n rfl <|
    qz_iload_n rfl <|
    qz_if_eq rfl ca_Md_select_26
      (qz_iload_n rfl <|
        qz_fall rfl ca_Md_select_27 <|
        qz_fgt [0, 0, 0] <| jb_Md_select_27 G l0 x8 h7)
      (qz_iload_n rfl <|
        qz_goto rfl ca_Md_select_27 <|
        qz_fgt [0, 0, 0] <| jb_Md_select_27 G l0 x5 h7)
def fn_Md_arithmetic_124 (s0 : Int) (s1 : Int) (h : qz_H) : Option qz_R :=
  qz_bc (fn_Md_put s0 s1 h) fun _ h2 =>
  some (0, h2)
def fn_Md_arithmetic_119 (s0 : Int) (h : qz_H) : Option qz_R :=
  fn_Md_arithmetic_124 s0 2 h
def fn_Md_arithmetic_99 (l0 : Int) (l1 : Int) (h : qz_H) : Option qz_R :=
  if l1 = 124 then
    fn_Md_arithmetic_119 l0 h
  else
    if l1 = 126 then
      fn_Md_arithmetic_119 l0 h
    else
      if ¬ l1 = 172 then
        fn_Md_arithmetic_124 l0 1 h
      else
        fn_Md_arithmetic_119 l0 h
def fn_Md_arithmetic_96 (l0 : Int) (l1 : Int) (s0 : Int) (s1 : Int) (h : qz_H) : Option qz_R :=
  qz_bc (fn_Md_takeResult s0 s1 h) fun _ h2 =>
  fn_Md_arithmetic_99 l0 l1 h2
def fn_Md_arithmetic_79 (l0 : Int) (l1 : Int) (l2 : Int) (l3 : Int) (s0 : Int) (s1 : Int) (h : qz_H) : Option qz_R :=
  qz_bc (fn_Md_takeResult s0 s1 h) fun _ h2 =>
  if ¬ l3 = 0 then
    fn_Md_arithmetic_99 l0 l1 h2
  else
    if l2 = 0 then
      fn_Md_arithmetic_96 l0 l1 l0 2 h2
    else
      fn_Md_arithmetic_96 l0 l1 l0 1 h2
def fn_Md_arithmetic_68 (l0 : Int) (l1 : Int) (l2 : Int) (s0 : Int) (h : qz_H) : Option qz_R :=
  qz_bn (s0 : Int) fun x1 =>
  if l2 = 0 then
    fn_Md_arithmetic_79 l0 l1 l2 x1 l0 2 h
  else
    fn_Md_arithmetic_79 l0 l1 l2 x1 l0 1 h
def fn_Md_arithmetic_63 (l0 : Int) (l1 : Int) (l2 : Int) (h : qz_H) : Option qz_R :=
  fn_Md_arithmetic_68 l0 l1 l2 1 h
def fn_Md_arithmetic_36 (l0 : Int) (l1 : Int) (s0 : Int) (h : qz_H) : Option qz_R :=
  qz_bn (s0 : Int) fun x1 =>
  if l1 = 69 then
    fn_Md_arithmetic_63 l0 l1 x1 h
  else
    if l1 = 80 then
      fn_Md_arithmetic_63 l0 l1 x1 h
    else
      if l1 = 167 then
        fn_Md_arithmetic_63 l0 l1 x1 h
      else
        if ¬ l1 = 172 then
          fn_Md_arithmetic_68 l0 l1 x1 0 h
        else
          fn_Md_arithmetic_63 l0 l1 x1 h
def fn_Md_arithmetic_31 (l0 : Int) (l1 : Int) (h : qz_H) : Option qz_R :=
  fn_Md_arithmetic_36 l0 l1 1 h
def fn_Md_arithmetic_24 (l0 : Int) (l1 : Int) (h : qz_H) : Option qz_R :=
  if ¬ l1 = 172 then
    fn_Md_arithmetic_36 l0 l1 0 h
  else
    fn_Md_arithmetic_31 l0 l1 h
def fn_Md_arithmetic_12 (l0 : Int) (l1 : Int) (h : qz_H) : Option qz_R :=
  if l1 < 106 then
    fn_Md_arithmetic_24 l0 l1 h
  else
    if l1 ≤ 108 then
      fn_Md_arithmetic_31 l0 l1 h
    else
      fn_Md_arithmetic_24 l0 l1 h
set_option maxRecDepth 20000 in
def fn_Md_arithmetic (l0 : Int) (l1 : Int) (h : qz_H) : Option qz_R :=
  if l1 < 69 then
    fn_Md_arithmetic_12 l0 l1 h
  else
    if l1 ≤ 72 then
      fn_Md_arithmetic_31 l0 l1 h
    else
      fn_Md_arithmetic_12 l0 l1 h
def bk_Md_arithmetic_0 : List (Instr × Nat) := [(.iload_n 1, 1), (.bipush 69, 2), (.if_icmp .lt 9, 3), (.iload_n 1, 1), (.bipush 72, 2), (.if_icmp .le 22, 3)]
def bk_Md_arithmetic_12 : List (Instr × Nat) := [(.iload_n 1, 1), (.bipush 106, 2), (.if_icmp .lt 9, 3), (.iload_n 1, 1), (.bipush 108, 2), (.if_icmp .le 10, 3)]
def bk_Md_arithmetic_31 : List (Instr × Nat) := [(.iconst 1, 1), (.goto 4, 3)]
def bk_Md_arithmetic_24 : List (Instr × Nat) := [(.iload_n 1, 1), (.sipush 172, 3), (.if_icmp .ne 7, 3)]
def bk_Md_arithmetic_36 : List (Instr × Nat) := [(.istore_n 2, 1), (.iload_n 1, 1), (.bipush 69, 2), (.if_icmp .eq 23, 3), (.iload_n 1, 1), (.bipush 80, 2), (.if_icmp .eq 17, 3), (.iload_n 1, 1), (.sipush 167, 3), (.if_icmp .eq 10, 3), (.iload_n 1, 1), (.sipush 172, 3), (.if_icmp .ne 7, 3)]
def bk_Md_arithmetic_35 : List (Instr × Nat) := [(.iconst 0, 1)]
def bk_Md_arithmetic_63 : List (Instr × Nat) := [(.iconst 1, 1), (.goto 4, 3)]
def bk_Md_arithmetic_67 : List (Instr × Nat) := [(.iconst 0, 1)]
def bk_Md_arithmetic_68 : List (Instr × Nat) := [(.istore_n 3, 1), (.aload_n 0, 1), (.iload_n 2, 1), (.ifCond .eq 7, 3), (.iconst 1, 1), (.goto 4, 3)]
def bk_Md_arithmetic_78 : List (Instr × Nat) := [(.iconst 2, 1)]
def bk_Md_arithmetic_79 : List (Instr × Nat) := [(.invokevirtual 412, 3), (.iload_n 3, 1), (.ifCond .ne 16, 3), (.aload_n 0, 1), (.iload_n 2, 1), (.ifCond .eq 7, 3), (.iconst 1, 1), (.goto 4, 3)]
def bk_Md_arithmetic_99 : List (Instr × Nat) := [(.aload_n 0, 1), (.iload_n 1, 1), (.bipush 124, 2), (.if_icmp .eq 16, 3), (.iload_n 1, 1), (.bipush 126, 2), (.if_icmp .eq 10, 3), (.iload_n 1, 1), (.sipush 172, 3), (.if_icmp .ne 7, 3)]
def bk_Md_arithmetic_95 : List (Instr × Nat) := [(.iconst 2, 1)]
def bk_Md_arithmetic_96 : List (Instr × Nat) := [(.invokevirtual 412, 3)]
def bk_Md_arithmetic_119 : List (Instr × Nat) := [(.iconst 2, 1), (.goto 4, 3)]
def bk_Md_arithmetic_123 : List (Instr × Nat) := [(.iconst 1, 1)]
def bk_Md_arithmetic_124 : List (Instr × Nat) := [(.invokevirtual 408, 3), (.return_, 1)]
theorem ca_Md_arithmetic_0 : qz_ca yd_Md_arithmetic.2.1 0 bk_Md_arithmetic_0 := qz_cab_ok _ _ (by decide +kernel)
theorem ca_Md_arithmetic_12 : qz_ca yd_Md_arithmetic.2.1 12 bk_Md_arithmetic_12 := qz_cab_ok _ _ (by decide +kernel)
theorem ca_Md_arithmetic_31 : qz_ca yd_Md_arithmetic.2.1 31 bk_Md_arithmetic_31 := qz_cab_ok _ _ (by decide +kernel)
theorem ca_Md_arithmetic_24 : qz_ca yd_Md_arithmetic.2.1 24 bk_Md_arithmetic_24 := qz_cab_ok _ _ (by decide +kernel)
theorem ca_Md_arithmetic_36 : qz_ca yd_Md_arithmetic.2.1 36 bk_Md_arithmetic_36 := qz_cab_ok _ _ (by decide +kernel)
theorem ca_Md_arithmetic_35 : qz_ca yd_Md_arithmetic.2.1 35 bk_Md_arithmetic_35 := qz_cab_ok _ _ (by decide +kernel)
theorem ca_Md_arithmetic_63 : qz_ca yd_Md_arithmetic.2.1 63 bk_Md_arithmetic_63 := qz_cab_ok _ _ (by decide +kernel)
theorem ca_Md_arithmetic_67 : qz_ca yd_Md_arithmetic.2.1 67 bk_Md_arithmetic_67 := qz_cab_ok _ _ (by decide +kernel)
theorem ca_Md_arithmetic_68 : qz_ca yd_Md_arithmetic.2.1 68 bk_Md_arithmetic_68 := qz_cab_ok _ _ (by decide +kernel)
theorem ca_Md_arithmetic_78 : qz_ca yd_Md_arithmetic.2.1 78 bk_Md_arithmetic_78 := qz_cab_ok _ _ (by decide +kernel)
theorem ca_Md_arithmetic_79 : qz_ca yd_Md_arithmetic.2.1 79 bk_Md_arithmetic_79 := qz_cab_ok _ _ (by decide +kernel)
theorem ca_Md_arithmetic_99 : qz_ca yd_Md_arithmetic.2.1 99 bk_Md_arithmetic_99 := qz_cab_ok _ _ (by decide +kernel)
theorem ca_Md_arithmetic_95 : qz_ca yd_Md_arithmetic.2.1 95 bk_Md_arithmetic_95 := qz_cab_ok _ _ (by decide +kernel)
theorem ca_Md_arithmetic_96 : qz_ca yd_Md_arithmetic.2.1 96 bk_Md_arithmetic_96 := qz_cab_ok _ _ (by decide +kernel)
theorem ca_Md_arithmetic_119 : qz_ca yd_Md_arithmetic.2.1 119 bk_Md_arithmetic_119 := qz_cab_ok _ _ (by decide +kernel)
theorem ca_Md_arithmetic_123 : qz_ca yd_Md_arithmetic.2.1 123 bk_Md_arithmetic_123 := qz_cab_ok _ _ (by decide +kernel)
theorem ca_Md_arithmetic_124 : qz_ca yd_Md_arithmetic.2.1 124 bk_Md_arithmetic_124 := qz_cab_ok _ _ (by decide +kernel)
set_option maxRecDepth 20000 in
theorem jb_Md_arithmetic_124 (G : qz_G) (s0 : Int) (s1 : Int) (h : qz_H) : qz_J yd_Md_arithmetic G bk_Md_arithmetic_124 124 [qz_u, qz_u, qz_u, qz_u] [qz_i s1, qz_r true 12 s0] h 0 0 (fn_Md_arithmetic_124 s0 s1 h) := by
  unfold fn_Md_arithmetic_124 bk_Md_arithmetic_124; exact
    qz_invvV [qz_i s1] rfl (cn_Md_put s0 s1 h) mw_Md_put vw_Md_put ⟨_, rfl, rfl, by decide⟩ rfl rfl ln_Md_408 rfl fun _ h2 =>
    qz_return ⟨rfl, rfl⟩ rfl
set_option maxRecDepth 20000 in
theorem jb_Md_arithmetic_119 (G : qz_G) (s0 : Int) (h : qz_H) : qz_J yd_Md_arithmetic G bk_Md_arithmetic_119 119 [qz_u, qz_u, qz_u, qz_u] [qz_r true 12 s0] h 0 0 (fn_Md_arithmetic_119 s0 h) := by
  unfold fn_Md_arithmetic_119 bk_Md_arithmetic_119; exact
    qz_iconst rfl <|
    qz_goto rfl ca_Md_arithmetic_124 <|
    qz_fgt [0, 0, 0, 0] <| jb_Md_arithmetic_124 G s0 2 h
set_option maxRecDepth 20000 in
theorem jb_Md_arithmetic_99 (G : qz_G) (l0 : Int) (l1 : Int) (h : qz_H) : qz_J yd_Md_arithmetic G bk_Md_arithmetic_99 99 [qz_r true 12 l0, qz_i l1, qz_u, qz_u] [] h 0 0 (fn_Md_arithmetic_99 l0 l1 h) := by
  unfold fn_Md_arithmetic_99 bk_Md_arithmetic_99; exact
    qz_aload_n rfl <|
    qz_iload_n rfl <|
    qz_bipush rfl <|
    qz_icmp_eq rfl ca_Md_arithmetic_119
      (qz_fgt [0, 0, 0, 0] <| jb_Md_arithmetic_119 G l0 h)
      (qz_iload_n rfl <|
        qz_bipush rfl <|
        qz_icmp_eq rfl ca_Md_arithmetic_119
          (qz_fgt [0, 0, 0, 0] <| jb_Md_arithmetic_119 G l0 h)
          (qz_iload_n rfl <|
            qz_sipush rfl <|
            qz_icmp_ne rfl ca_Md_arithmetic_123
              (qz_iconst rfl <|
                qz_fall rfl ca_Md_arithmetic_124 <|
                qz_fgt [0, 0, 0, 0] <| jb_Md_arithmetic_124 G l0 1 h)
              (qz_fall rfl ca_Md_arithmetic_119 <|
                qz_fgt [0, 0, 0, 0] <| jb_Md_arithmetic_119 G l0 h)))
set_option maxRecDepth 20000 in
theorem jb_Md_arithmetic_96 (G : qz_G) (l0 : Int) (l1 : Int) (s0 : Int) (s1 : Int) (h : qz_H) : qz_J yd_Md_arithmetic G bk_Md_arithmetic_96 96 [qz_r true 12 l0, qz_i l1, qz_u, qz_u] [qz_i s1, qz_r true 12 s0] h 0 0 (fn_Md_arithmetic_96 l0 l1 s0 s1 h) := by
  unfold fn_Md_arithmetic_96 bk_Md_arithmetic_96; exact
    qz_invvV [qz_i s1] rfl (cn_Md_takeResult s0 s1 h) mw_Md_takeResult vw_Md_takeResult ⟨_, rfl, rfl, by decide⟩ rfl rfl ln_Md_412 rfl fun _ h2 =>
    qz_fall rfl ca_Md_arithmetic_99 <|
    qz_fgt [1, 1, 0, 0] <| jb_Md_arithmetic_99 G l0 l1 h2
set_option maxRecDepth 20000 in
theorem jb_Md_arithmetic_79 (G : qz_G) (l0 : Int) (l1 : Int) (l2 : Int) (l3 : Int) (s0 : Int) (s1 : Int) (h : qz_H) : qz_J yd_Md_arithmetic G bk_Md_arithmetic_79 79 [qz_r true 12 l0, qz_i l1, qz_i l2, qz_i l3] [qz_i s1, qz_r true 12 s0] h 0 0 (fn_Md_arithmetic_79 l0 l1 l2 l3 s0 s1 h) := by
  unfold fn_Md_arithmetic_79 bk_Md_arithmetic_79; exact
    qz_invvV [qz_i s1] rfl (cn_Md_takeResult s0 s1 h) mw_Md_takeResult vw_Md_takeResult ⟨_, rfl, rfl, by decide⟩ rfl rfl ln_Md_412 rfl fun _ h2 =>
    qz_iload_n rfl <|
    qz_if_ne rfl ca_Md_arithmetic_99
      (qz_fgt [1, 1, 0, 0] <| jb_Md_arithmetic_99 G l0 l1 h2)
      (qz_aload_n rfl <|
        qz_iload_n rfl <|
        qz_if_eq rfl ca_Md_arithmetic_95
          (qz_iconst rfl <|
            qz_fall rfl ca_Md_arithmetic_96 <|
            qz_fgt [1, 1, 0, 0] <| jb_Md_arithmetic_96 G l0 l1 l0 2 h2)
          (qz_iconst rfl <|
            qz_goto rfl ca_Md_arithmetic_96 <|
            qz_fgt [1, 1, 0, 0] <| jb_Md_arithmetic_96 G l0 l1 l0 1 h2))
set_option maxRecDepth 20000 in
theorem jb_Md_arithmetic_68 (G : qz_G) (l0 : Int) (l1 : Int) (l2 : Int) (s0 : Int) (h : qz_H) : qz_J yd_Md_arithmetic G bk_Md_arithmetic_68 68 [qz_r true 12 l0, qz_i l1, qz_i l2, qz_u] [qz_i s0] h 0 0 (fn_Md_arithmetic_68 l0 l1 l2 s0 h) := by
  unfold fn_Md_arithmetic_68 bk_Md_arithmetic_68; exact
    qz_istore_n (by decide) fun x1 =>
    qz_aload_n rfl <|
    qz_iload_n rfl <|
    qz_if_eq rfl ca_Md_arithmetic_78
      (qz_iconst rfl <|
        qz_fall rfl ca_Md_arithmetic_79 <|
        qz_fgt [1, 1, 1, 1] <| jb_Md_arithmetic_79 G l0 l1 l2 x1 l0 2 h)
      (qz_iconst rfl <|
        qz_goto rfl ca_Md_arithmetic_79 <|
        qz_fgt [1, 1, 1, 1] <| jb_Md_arithmetic_79 G l0 l1 l2 x1 l0 1 h)
set_option maxRecDepth 20000 in
theorem jb_Md_arithmetic_63 (G : qz_G) (l0 : Int) (l1 : Int) (l2 : Int) (h : qz_H) : qz_J yd_Md_arithmetic G bk_Md_arithmetic_63 63 [qz_r true 12 l0, qz_i l1, qz_i l2, qz_u] [] h 0 0 (fn_Md_arithmetic_63 l0 l1 l2 h) := by
  unfold fn_Md_arithmetic_63 bk_Md_arithmetic_63; exact
    qz_iconst rfl <|
    qz_goto rfl ca_Md_arithmetic_68 <|
    qz_fgt [1, 1, 1, 0] <| jb_Md_arithmetic_68 G l0 l1 l2 1 h
set_option maxRecDepth 20000 in
theorem jb_Md_arithmetic_36 (G : qz_G) (l0 : Int) (l1 : Int) (s0 : Int) (h : qz_H) : qz_J yd_Md_arithmetic G bk_Md_arithmetic_36 36 [qz_r true 12 l0, qz_i l1, qz_u, qz_u] [qz_i s0] h 0 0 (fn_Md_arithmetic_36 l0 l1 s0 h) := by
  unfold fn_Md_arithmetic_36 bk_Md_arithmetic_36; exact
    qz_istore_n (by decide) fun x1 =>
    qz_iload_n rfl <|
    qz_bipush rfl <|
    qz_icmp_eq rfl ca_Md_arithmetic_63
      (qz_fgt [1, 1, 1, 0] <| jb_Md_arithmetic_63 G l0 l1 x1 h)
      (qz_iload_n rfl <|
        qz_bipush rfl <|
        qz_icmp_eq rfl ca_Md_arithmetic_63
          (qz_fgt [1, 1, 1, 0] <| jb_Md_arithmetic_63 G l0 l1 x1 h)
          (qz_iload_n rfl <|
            qz_sipush rfl <|
            qz_icmp_eq rfl ca_Md_arithmetic_63
              (qz_fgt [1, 1, 1, 0] <| jb_Md_arithmetic_63 G l0 l1 x1 h)
              (qz_iload_n rfl <|
                qz_sipush rfl <|
                qz_icmp_ne rfl ca_Md_arithmetic_67
                  (qz_iconst rfl <|
                    qz_fall rfl ca_Md_arithmetic_68 <|
                    qz_fgt [1, 1, 1, 0] <| jb_Md_arithmetic_68 G l0 l1 x1 0 h)
                  (qz_fall rfl ca_Md_arithmetic_63 <|
                    qz_fgt [1, 1, 1, 0] <| jb_Md_arithmetic_63 G l0 l1 x1 h))))
set_option maxRecDepth 20000 in
theorem jb_Md_arithmetic_31 (G : qz_G) (l0 : Int) (l1 : Int) (h : qz_H) : qz_J yd_Md_arithmetic G bk_Md_arithmetic_31 31 [qz_r true 12 l0, qz_i l1, qz_u, qz_u] [] h 0 0 (fn_Md_arithmetic_31 l0 l1 h) := by
  unfold fn_Md_arithmetic_31 bk_Md_arithmetic_31; exact
    qz_iconst rfl <|
    qz_goto rfl ca_Md_arithmetic_36 <|
    qz_fgt [1, 1, 0, 0] <| jb_Md_arithmetic_36 G l0 l1 1 h
set_option maxRecDepth 20000 in
theorem jb_Md_arithmetic_24 (G : qz_G) (l0 : Int) (l1 : Int) (h : qz_H) : qz_J yd_Md_arithmetic G bk_Md_arithmetic_24 24 [qz_r true 12 l0, qz_i l1, qz_u, qz_u] [] h 0 0 (fn_Md_arithmetic_24 l0 l1 h) := by
  unfold fn_Md_arithmetic_24 bk_Md_arithmetic_24; exact
    qz_iload_n rfl <|
    qz_sipush rfl <|
    qz_icmp_ne rfl ca_Md_arithmetic_35
      (qz_iconst rfl <|
        qz_fall rfl ca_Md_arithmetic_36 <|
        qz_fgt [1, 1, 0, 0] <| jb_Md_arithmetic_36 G l0 l1 0 h)
      (qz_fall rfl ca_Md_arithmetic_31 <|
        qz_fgt [1, 1, 0, 0] <| jb_Md_arithmetic_31 G l0 l1 h)
set_option maxRecDepth 20000 in
theorem jb_Md_arithmetic_12 (G : qz_G) (l0 : Int) (l1 : Int) (h : qz_H) : qz_J yd_Md_arithmetic G bk_Md_arithmetic_12 12 [qz_r true 12 l0, qz_i l1, qz_u, qz_u] [] h 0 0 (fn_Md_arithmetic_12 l0 l1 h) := by
  unfold fn_Md_arithmetic_12 bk_Md_arithmetic_12; exact
    qz_iload_n rfl <|
    qz_bipush rfl <|
    qz_icmp_lt rfl ca_Md_arithmetic_24
      (qz_fgt [1, 1, 0, 0] <| jb_Md_arithmetic_24 G l0 l1 h)
      (qz_iload_n rfl <|
        qz_bipush rfl <|
        qz_icmp_le rfl ca_Md_arithmetic_31
          (qz_fgt [1, 1, 0, 0] <| jb_Md_arithmetic_31 G l0 l1 h)
          (qz_fall rfl ca_Md_arithmetic_24 <|
            qz_fgt [1, 1, 0, 0] <| jb_Md_arithmetic_24 G l0 l1 h))
set_option maxRecDepth 20000 in
theorem cn_Md_arithmetic (l0 : Int) (l1 : Int) (h : qz_H) : qz_C yd_Md_arithmetic [qz_r true 12 l0, qz_i l1] h (fn_Md_arithmetic l0 l1 h) := by
  refine qz_con (is := bk_Md_arithmetic_0) (ls := [qz_r true 12 l0, qz_i l1, qz_u, qz_u]) mw_Md_arithmetic.2.2.2 ca_Md_arithmetic_0 rfl rfl rfl fun G => ?_
  unfold fn_Md_arithmetic bk_Md_arithmetic_0; exact
    qz_iload_n rfl <|
    qz_bipush rfl <|
    qz_icmp_lt rfl ca_Md_arithmetic_12
      (qz_fgt [1, 1, 0, 0] <| jb_Md_arithmetic_12 G l0 l1 h)
      (qz_iload_n rfl <|
        qz_bipush rfl <|
        qz_icmp_le rfl ca_Md_arithmetic_31
          (qz_fgt [1, 1, 0, 0] <| jb_Md_arithmetic_31 G l0 l1 h)
          (qz_fall rfl ca_Md_arithmetic_12 <|
            qz_fgt [1, 1, 0, 0] <| jb_Md_arithmetic_12 G l0 l1 h))
def fn_Md_check_179 (h : qz_H) : Option qz_R :=
  some (0, h)
def fn_Md_check_49 (l0 : Int) (l2 : Int) (l3 : Int) (h : qz_H) : Option qz_R :=
  qz_bc (fn_Md_branch l0 l2 l3 h) fun _ h2 =>
  fn_Md_check_179 h2
def fn_Md_check_158 (l0 : Int) (l2 : Int) (h : qz_H) : Option qz_R :=
  qz_bc (fn_Md_put l0 (qz_w (l2 - 64)) h) fun _ h2 =>
  fn_Md_check_179 h2
def fn_Md_check_146 (l0 : Int) (l2 : Int) (h : qz_H) : Option qz_R :=
  if l2 = 65 then
    fn_Md_check_158 l0 l2 h
  else
    if ¬ l2 = 66 then
      if l2 ≤ 1 then
        fn_Md_check_179 h
      else
        qz_bc (fn_Md_arithmetic l0 l2 h) fun _ h2 =>
        fn_Md_check_179 h2
    else
      fn_Md_check_158 l0 l2 h
def fn_Md_check_27 (l0 : Int) (l2 : Int) (l3 : Int) (h : qz_H) : Option qz_R :=
  qz_bc (fn_Md_control l0 l2 (qz_w l3) h) fun _ h2 =>
  fn_Md_check_179 h2
def fn_Md_check_21 (l0 : Int) (l1 : Int) (l2 : Int) (l3 : Int) (h : qz_H) : Option qz_R :=
  if ¬ l2 = 11 then
    if l2 = 12 then
      fn_Md_check_49 l0 l2 l3 h
    else
      if ¬ l2 = 13 then
        if ¬ l2 = 15 then
          if ¬ l2 = 16 then
            if ¬ l2 = 26 then
              if ¬ l2 = 27 then
                if l2 < 32 then
                  fn_Md_check_146 l0 l2 h
                else
                  if 34 < l2 then
                    fn_Md_check_146 l0 l2 h
                  else
                    qz_bc (fn_Md_local l0 l1 l2 l3 h) fun _ h2 =>
                    fn_Md_check_179 h2
              else
                qz_bc (fn_Md_select l0 h) fun _ h4 =>
                fn_Md_check_179 h4
            else
              qz_bc (fn_Md_take l0 0 h) fun r5 h6 =>
              qz_bn (r5 : Int) fun x7 =>
              fn_Md_check_179 h6
          else
            qz_bc (fn_Md_callOf l0 l3 h) fun _ h9 =>
            fn_Md_check_179 h9
        else
          qz_ck ((h l0 18 : Int) ≠ 0) <|
          qz_ck ((0 : Int) ≤ l1 ∧ l1 < h (h l0 18) (-1)) <|
          qz_bc (fn_Md_takeResult l0 (h (h l0 18) l1) h) fun _ h11 =>
          qz_bc (fn_Md_die l0 h11) fun _ h13 =>
          fn_Md_check_179 h13
      else
        fn_Md_check_49 l0 l2 l3 h
  else
    fn_Md_check_27 l0 l2 l3 h
set_option maxRecDepth 20000 in
def fn_Md_check (l0 : Int) (l1 : Int) (l2 : Int) (l3 : Int) (h : qz_H) : Option qz_R :=
  if ¬ l2 = 0 then
    if l2 < 2 then
      fn_Md_check_21 l0 l1 l2 l3 h
    else
      if l2 ≤ 5 then
        fn_Md_check_27 l0 l2 l3 h
      else
        fn_Md_check_21 l0 l1 l2 l3 h
  else
    qz_bc (fn_Md_die l0 h) fun _ h2 =>
    fn_Md_check_179 h2
def bk_Md_check_0 : List (Instr × Nat) := [(.iload_n 2, 1), (.ifCond .ne 10, 3), (.aload_n 0, 1), (.invokevirtual 428, 3), (.goto 171, 3)]
def bk_Md_check_11 : List (Instr × Nat) := [(.iload_n 2, 1), (.iconst 2, 1), (.if_icmp .lt 8, 3), (.iload_n 2, 1), (.iconst 5, 1), (.if_icmp .le 9, 3)]
def bk_Md_check_21 : List (Instr × Nat) := [(.iload_n 2, 1), (.bipush 11, 2), (.if_icmp .ne 13, 3)]
def bk_Md_check_27 : List (Instr × Nat) := [(.aload_n 0, 1), (.iload_n 2, 1), (.lload_n 3, 1), (.l2i, 1), (.invokevirtual 431, 3), (.goto 145, 3)]
def bk_Md_check_179 : List (Instr × Nat) := [(.return_, 1)]
def bk_Md_check_37 : List (Instr × Nat) := [(.iload_n 2, 1), (.bipush 12, 2), (.if_icmp .eq 9, 3), (.iload_n 2, 1), (.bipush 13, 2), (.if_icmp .ne 12, 3)]
def bk_Md_check_49 : List (Instr × Nat) := [(.aload_n 0, 1), (.iload_n 2, 1), (.lload_n 3, 1), (.invokevirtual 434, 3), (.goto 124, 3)]
def bk_Md_check_58 : List (Instr × Nat) := [(.iload_n 2, 1), (.bipush 15, 2), (.if_icmp .ne 20, 3), (.aload_n 0, 1), (.aload_n 0, 1), (.getfield 121, 3), (.iload_n 1, 1), (.iaload, 1), (.invokevirtual 412, 3), (.aload_n 0, 1), (.invokevirtual 428, 3), (.goto 101, 3)]
def bk_Md_check_81 : List (Instr × Nat) := [(.iload_n 2, 1), (.bipush 16, 2), (.if_icmp .ne 11, 3), (.aload_n 0, 1), (.lload_n 3, 1), (.invokevirtual 438, 3), (.goto 87, 3)]
def bk_Md_check_95 : List (Instr × Nat) := [(.iload_n 2, 1), (.bipush 26, 2), (.if_icmp .ne 13, 3), (.aload_n 0, 1), (.iconst 0, 1), (.invokevirtual 405, 3), (.istore 5, 2), (.goto 71, 3)]
def bk_Md_check_111 : List (Instr × Nat) := [(.iload_n 2, 1), (.bipush 27, 2), (.if_icmp .ne 10, 3), (.aload_n 0, 1), (.invokevirtual 442, 3), (.goto 58, 3)]
def bk_Md_check_124 : List (Instr × Nat) := [(.iload_n 2, 1), (.bipush 32, 2), (.if_icmp .lt 19, 3), (.iload_n 2, 1), (.bipush 34, 2), (.if_icmp .gt 13, 3), (.aload_n 0, 1), (.iload_n 1, 1), (.iload_n 2, 1), (.lload_n 3, 1), (.invokevirtual 445, 3), (.goto 36, 3)]
def bk_Md_check_146 : List (Instr × Nat) := [(.iload_n 2, 1), (.bipush 65, 2), (.if_icmp .eq 9, 3), (.iload_n 2, 1), (.bipush 66, 2), (.if_icmp .ne 14, 3)]
def bk_Md_check_158 : List (Instr × Nat) := [(.aload_n 0, 1), (.iload_n 2, 1), (.bipush 64, 2), (.isub, 1), (.invokevirtual 408, 3), (.goto 13, 3)]
def bk_Md_check_169 : List (Instr × Nat) := [(.iload_n 2, 1), (.iconst 1, 1), (.if_icmp .le 8, 3), (.aload_n 0, 1), (.iload_n 2, 1), (.invokevirtual 449, 3)]
theorem ca_Md_check_0 : qz_ca yd_Md_check.2.1 0 bk_Md_check_0 := qz_cab_ok _ _ (by decide +kernel)
theorem ca_Md_check_11 : qz_ca yd_Md_check.2.1 11 bk_Md_check_11 := qz_cab_ok _ _ (by decide +kernel)
theorem ca_Md_check_21 : qz_ca yd_Md_check.2.1 21 bk_Md_check_21 := qz_cab_ok _ _ (by decide +kernel)
theorem ca_Md_check_27 : qz_ca yd_Md_check.2.1 27 bk_Md_check_27 := qz_cab_ok _ _ (by decide +kernel)
theorem ca_Md_check_179 : qz_ca yd_Md_check.2.1 179 bk_Md_check_179 := qz_cab_ok _ _ (by decide +kernel)
theorem ca_Md_check_37 : qz_ca yd_Md_check.2.1 37 bk_Md_check_37 := qz_cab_ok _ _ (by decide +kernel)
theorem ca_Md_check_49 : qz_ca yd_Md_check.2.1 49 bk_Md_check_49 := qz_cab_ok _ _ (by decide +kernel)
theorem ca_Md_check_58 : qz_ca yd_Md_check.2.1 58 bk_Md_check_58 := qz_cab_ok _ _ (by decide +kernel)
theorem ca_Md_check_81 : qz_ca yd_Md_check.2.1 81 bk_Md_check_81 := qz_cab_ok _ _ (by decide +kernel)
theorem ca_Md_check_95 : qz_ca yd_Md_check.2.1 95 bk_Md_check_95 := qz_cab_ok _ _ (by decide +kernel)
theorem ca_Md_check_111 : qz_ca yd_Md_check.2.1 111 bk_Md_check_111 := qz_cab_ok _ _ (by decide +kernel)
theorem ca_Md_check_124 : qz_ca yd_Md_check.2.1 124 bk_Md_check_124 := qz_cab_ok _ _ (by decide +kernel)
theorem ca_Md_check_146 : qz_ca yd_Md_check.2.1 146 bk_Md_check_146 := qz_cab_ok _ _ (by decide +kernel)
theorem ca_Md_check_158 : qz_ca yd_Md_check.2.1 158 bk_Md_check_158 := qz_cab_ok _ _ (by decide +kernel)
theorem ca_Md_check_169 : qz_ca yd_Md_check.2.1 169 bk_Md_check_169 := qz_cab_ok _ _ (by decide +kernel)
set_option maxRecDepth 20000 in
theorem jb_Md_check_179 (G : qz_G) (h : qz_H) : qz_J yd_Md_check G bk_Md_check_179 179 [qz_u, qz_u, qz_u, qz_u, qz_u, qz_u] [] h 0 0 (fn_Md_check_179 h) := by
  unfold fn_Md_check_179 bk_Md_check_179; exact
    qz_return ⟨rfl, rfl⟩ rfl
set_option maxRecDepth 20000 in
theorem jb_Md_check_49 (G : qz_G) (l0 : Int) (l2 : Int) (l3 : Int) (h : qz_H) : qz_J yd_Md_check G bk_Md_check_49 49 [qz_r true 12 l0, qz_u, qz_i l2, qz_j l3, qz_u, qz_u] [] h 0 0 (fn_Md_check_49 l0 l2 l3 h) := by
  unfold fn_Md_check_49 bk_Md_check_49; exact
    qz_aload_n rfl <|
    qz_iload_n rfl <|
    qz_lload_n rfl <|
    qz_invvV [qz_i l2, qz_j l3] rfl (cn_Md_branch l0 l2 l3 h) mw_Md_branch vw_Md_branch ⟨_, rfl, rfl, by decide⟩ rfl rfl ln_Md_434 rfl fun _ h2 =>
    qz_goto rfl ca_Md_check_179 <|
    qz_fgt [0, 0, 0, 0, 0, 0] <| jb_Md_check_179 G h2
set_option maxRecDepth 20000 in
theorem jb_Md_check_158 (G : qz_G) (l0 : Int) (l2 : Int) (h : qz_H) : qz_J yd_Md_check G bk_Md_check_158 158 [qz_r true 12 l0, qz_u, qz_i l2, qz_u, qz_u, qz_u] [] h 0 0 (fn_Md_check_158 l0 l2 h) := by
  unfold fn_Md_check_158 bk_Md_check_158; exact
    qz_aload_n rfl <|
    qz_iload_n rfl <|
    qz_bipush rfl <|
    qz_isub <|
    qz_invvV [qz_i (qz_w (l2 - 64))] rfl (cn_Md_put l0 (qz_w (l2 - 64)) h) mw_Md_put vw_Md_put ⟨_, rfl, rfl, by decide⟩ rfl rfl ln_Md_408 rfl fun _ h2 =>
    qz_goto rfl ca_Md_check_179 <|
    qz_fgt [0, 0, 0, 0, 0, 0] <| jb_Md_check_179 G h2
set_option maxRecDepth 20000 in
theorem jb_Md_check_146 (G : qz_G) (l0 : Int) (l2 : Int) (h : qz_H) : qz_J yd_Md_check G bk_Md_check_146 146 [qz_r true 12 l0, qz_u, qz_i l2, qz_u, qz_u, qz_u] [] h 0 0 (fn_Md_check_146 l0 l2 h) := by
  unfold fn_Md_check_146 bk_Md_check_146; exact
    qz_iload_n rfl <|
    qz_bipush rfl <|
    qz_icmp_eq rfl ca_Md_check_158
      (qz_fgt [1, 0, 1, 0, 0, 0] <| jb_Md_check_158 G l0 l2 h)
      (qz_iload_n rfl <|
        qz_bipush rfl <|
        qz_icmp_ne rfl ca_Md_check_169
          (qz_iload_n rfl <|
            qz_iconst rfl <|
            qz_icmp_le rfl ca_Md_check_179
              (qz_fgt [0, 0, 0, 0, 0, 0] <| jb_Md_check_179 G h)
              (qz_aload_n rfl <|
                qz_iload_n rfl <|
                qz_invvV [qz_i l2] rfl (cn_Md_arithmetic l0 l2 h) mw_Md_arithmetic vw_Md_arithmetic ⟨_, rfl, rfl, by decide⟩ rfl rfl ln_Md_449 rfl fun _ h2 =>
                qz_fall rfl ca_Md_check_179 <|
                qz_fgt [0, 0, 0, 0, 0, 0] <| jb_Md_check_179 G h2))
          (qz_fall rfl ca_Md_check_158 <|
            qz_fgt [1, 0, 1, 0, 0, 0] <| jb_Md_check_158 G l0 l2 h))
set_option maxRecDepth 20000 in
theorem jb_Md_check_27 (G : qz_G) (l0 : Int) (l2 : Int) (l3 : Int) (h : qz_H) : qz_J yd_Md_check G bk_Md_check_27 27 [qz_r true 12 l0, qz_u, qz_i l2, qz_j l3, qz_u, qz_u] [] h 0 0 (fn_Md_check_27 l0 l2 l3 h) := by
  unfold fn_Md_check_27 bk_Md_check_27; exact
    qz_aload_n rfl <|
    qz_iload_n rfl <|
    qz_lload_n rfl <|
    qz_l2i <|
    qz_invvV [qz_i l2, qz_i (qz_w l3)] rfl (cn_Md_control l0 l2 (qz_w l3) h) mw_Md_control vw_Md_control ⟨_, rfl, rfl, by decide⟩ rfl rfl ln_Md_431 rfl fun _ h2 =>
    qz_goto rfl ca_Md_check_179 <|
    qz_fgt [0, 0, 0, 0, 0, 0] <| jb_Md_check_179 G h2
set_option maxRecDepth 20000 in
theorem jb_Md_check_21 (G : qz_G) (l0 : Int) (l1 : Int) (l2 : Int) (l3 : Int) (h : qz_H) : qz_J yd_Md_check G bk_Md_check_21 21 [qz_r true 12 l0, qz_i l1, qz_i l2, qz_j l3, qz_u, qz_u] [] h 0 0 (fn_Md_check_21 l0 l1 l2 l3 h) := by
  unfold fn_Md_check_21 bk_Md_check_21; exact
    qz_iload_n rfl <|
    qz_bipush rfl <|
    qz_icmp_ne rfl ca_Md_check_37
      (qz_iload_n rfl <|
        qz_bipush rfl <|
        qz_icmp_eq rfl ca_Md_check_49
          (qz_fgt [1, 0, 1, 1, 0, 0] <| jb_Md_check_49 G l0 l2 l3 h)
          (qz_iload_n rfl <|
            qz_bipush rfl <|
            qz_icmp_ne rfl ca_Md_check_58
              (qz_iload_n rfl <|
                qz_bipush rfl <|
                qz_icmp_ne rfl ca_Md_check_81
                  (qz_iload_n rfl <|
                    qz_bipush rfl <|
                    qz_icmp_ne rfl ca_Md_check_95
                      (qz_iload_n rfl <|
                        qz_bipush rfl <|
                        qz_icmp_ne rfl ca_Md_check_111
                          (qz_iload_n rfl <|
                            qz_bipush rfl <|
                            qz_icmp_ne rfl ca_Md_check_124
                              (qz_iload_n rfl <|
                                qz_bipush rfl <|
                                qz_icmp_lt rfl ca_Md_check_146
                                  (qz_fgt [1, 0, 1, 0, 0, 0] <| jb_Md_check_146 G l0 l2 h)
                                  (qz_iload_n rfl <|
                                    qz_bipush rfl <|
                                    qz_icmp_gt rfl ca_Md_check_146
                                      (qz_fgt [1, 0, 1, 0, 0, 0] <| jb_Md_check_146 G l0 l2 h)
                                      (qz_aload_n rfl <|
                                        qz_iload_n rfl <|
                                        qz_iload_n rfl <|
                                        qz_lload_n rfl <|
                                        qz_invvV [qz_i l1, qz_i l2, qz_j l3] rfl (cn_Md_local l0 l1 l2 l3 h) mw_Md_local vw_Md_local ⟨_, rfl, rfl, by decide⟩ rfl rfl ln_Md_445 rfl fun _ h2 =>
                                        qz_goto rfl ca_Md_check_179 <|
                                        qz_fgt [0, 0, 0, 0, 0, 0] <| jb_Md_check_179 G h2)))
                              (qz_aload_n rfl <|
                                qz_invvV [] rfl (cn_Md_select l0 h) mw_Md_select vw_Md_select ⟨_, rfl, rfl, by decide⟩ rfl rfl ln_Md_442 rfl fun _ h4 =>
                                qz_goto rfl ca_Md_check_179 <|
                                qz_fgt [0, 0, 0, 0, 0, 0] <| jb_Md_check_179 G h4))
                          (qz_aload_n rfl <|
                            qz_iconst rfl <|
                            qz_invvI [qz_i 0] rfl (cn_Md_take l0 0 h) mw_Md_take vw_Md_take ⟨_, rfl, rfl, by decide⟩ rfl rfl ln_Md_405 rfl fun r5 h6 =>
                            qz_istore (by decide) fun x7 =>
                            qz_goto rfl ca_Md_check_179 <|
                            qz_fgt [0, 0, 0, 0, 0, 0] <| jb_Md_check_179 G h6))
                      (qz_aload_n rfl <|
                        qz_lload_n rfl <|
                        qz_invvV [qz_j l3] rfl (cn_Md_callOf l0 l3 h) mw_Md_callOf vw_Md_callOf ⟨_, rfl, rfl, by decide⟩ rfl rfl ln_Md_438 rfl fun _ h9 =>
                        qz_goto rfl ca_Md_check_179 <|
                        qz_fgt [0, 0, 0, 0, 0, 0] <| jb_Md_check_179 G h9))
                  (qz_aload_n rfl <|
                    qz_aload_n rfl <|
                    qz_getR (k1 := 40) kg_12 fl_Md_121 rfl rfl <|
                    qz_iload_n rfl <|
                    qz_nnd 1 rfl <|
                    qz_iald (k0 := 40) rfl rfl rfl <|
                    qz_invvV [qz_i (h (h l0 18) l1)] rfl (cn_Md_takeResult l0 (h (h l0 18) l1) h) mw_Md_takeResult vw_Md_takeResult ⟨_, rfl, rfl, by decide⟩ rfl rfl ln_Md_412 rfl fun _ h11 =>
                    qz_aload_n rfl <|
                    qz_invvV [] rfl (cn_Md_die l0 h11) mw_Md_die vw_Md_die ⟨_, rfl, rfl, by decide⟩ rfl rfl ln_Md_428 rfl fun _ h13 =>
                    qz_goto rfl ca_Md_check_179 <|
                    qz_fgt [0, 0, 0, 0, 0, 0] <| jb_Md_check_179 G h13))
              (qz_fall rfl ca_Md_check_49 <|
                qz_fgt [1, 0, 1, 1, 0, 0] <| jb_Md_check_49 G l0 l2 l3 h)))
      (qz_fall rfl ca_Md_check_27 <|
        qz_fgt [1, 0, 1, 1, 0, 0] <| jb_Md_check_27 G l0 l2 l3 h)
set_option maxRecDepth 20000 in
theorem cn_Md_check (l0 : Int) (l1 : Int) (l2 : Int) (l3 : Int) (h : qz_H) : qz_C yd_Md_check [qz_r true 12 l0, qz_i l1, qz_i l2, qz_j l3] h (fn_Md_check l0 l1 l2 l3 h) := by
  refine qz_con (is := bk_Md_check_0) (ls := [qz_r true 12 l0, qz_i l1, qz_i l2, qz_j l3, qz_u, qz_u]) mw_Md_check.2.2.2 ca_Md_check_0 rfl rfl rfl fun G => ?_
  unfold fn_Md_check bk_Md_check_0; exact
    qz_iload_n rfl <|
    qz_if_ne rfl ca_Md_check_11
      (qz_iload_n rfl <|
        qz_iconst rfl <|
        qz_icmp_lt rfl ca_Md_check_21
          (qz_fgt [1, 1, 1, 1, 0, 0] <| jb_Md_check_21 G l0 l1 l2 l3 h)
          (qz_iload_n rfl <|
            qz_iconst rfl <|
            qz_icmp_le rfl ca_Md_check_27
              (qz_fgt [1, 0, 1, 1, 0, 0] <| jb_Md_check_27 G l0 l2 l3 h)
              (qz_fall rfl ca_Md_check_21 <|
                qz_fgt [1, 1, 1, 1, 0, 0] <| jb_Md_check_21 G l0 l1 l2 l3 h)))
      (qz_aload_n rfl <|
        qz_invvV [] rfl (cn_Md_die l0 h) mw_Md_die vw_Md_die ⟨_, rfl, rfl, by decide⟩ rfl rfl ln_Md_428 rfl fun _ h2 =>
        qz_goto rfl ca_Md_check_179 <|
        qz_fgt [0, 0, 0, 0, 0, 0] <| jb_Md_check_179 G h2)
def fn_Md_isValid_106 (k2 : Int → Int → qz_H → Option qz_R) (k60 : Int → Int → Int → Int → qz_H → Option qz_R) (l0 : Int) (l1 : Int) (l2 : Int) (l3 : Int) (h : qz_H) : Option qz_R :=
  if h l0 57 = 0 then
    qz_bn (qz_w (l3 + 1)) fun x1 =>
    k60 l0 l1 l2 x1 h
  else
    qz_ck ((0 : Int) < l0) <|
    qz_bn (qz_up h l0 4 (qz_w ((qz_w (64 * l1)) + l3))) fun h2 =>
    qz_ck ((0 : Int) = 0 ∨ (0 : Int) = 1) (some (0, h2))
def fn_Md_isValid_60_b (k2 : Int → Int → qz_H → Option qz_R) (k60 : Int → Int → Int → Int → qz_H → Option qz_R) (l0 : Int) (l1 : Int) (l2 : Int) (l3 : Int) (h : qz_H) : Option qz_R :=
  if l2 < l3 then
    qz_bn (qz_w (l1 + 1)) fun x1 =>
    k2 l0 x1 h
  else
    qz_ck ((h l0 20 : Int) ≠ 0) <|
    qz_ck ((0 : Int) ≤ l1 ∧ l1 < h (h l0 20) (-1)) <|
    qz_bn (qz_w ((h (h l0 20) l1) + l3) : Int) fun x2 =>
    if ¬ l3 = l2 then
      qz_ck ((h l0 21 : Int) ≠ 0) <|
      qz_ck ((0 : Int) ≤ x2 ∧ x2 < h (h l0 21) (-1)) <|
      qz_ck ((h l0 22 : Int) ≠ 0) <|
      qz_ck ((0 : Int) ≤ x2 ∧ x2 < h (h l0 22) (-1)) <|
      qz_bc (fn_Md_check l0 l1 (h (h l0 21) x2) (h (h l0 22) x2) h) fun _ h4 =>
      fn_Md_isValid_106 k2 k60 l0 l1 l2 l3 h4
    else
      qz_bc (fn_Md_endFrame l0 h) fun _ h6 =>
      fn_Md_isValid_106 k2 k60 l0 l1 l2 l3 h6
def fn_Md_isValid_60 (k2 : Int → Int → qz_H → Option qz_R) : Nat → Int → Int → Int → Int → qz_H → Option qz_R
  | 0, _, _, _, _, _ => none
  | n + 1, l0, l1, l2, l3, h => fn_Md_isValid_60_b k2 (fn_Md_isValid_60 k2 n) l0 l1 l2 l3 h
def fn_Md_isValid_2_b (k2 : Int → Int → qz_H → Option qz_R) (l0 : Int) (l1 : Int) (h : qz_H) : Option qz_R :=
  if h l0 15 ≤ l1 then
    qz_ck ((1 : Int) = 0 ∨ (1 : Int) = 1) (some (1, h))
  else
    qz_ck ((0 : Int) < l0) <|
    qz_bn (qz_up h l0 49 0) fun h1 =>
    qz_ck ((0 : Int) < l0) <|
    qz_bn (qz_up h1 l0 51 0) fun h2 =>
    qz_ck ((0 : Int) = 0 ∨ (0 : Int) = 1) <|
    qz_ck ((0 : Int) < l0) <|
    qz_bn (qz_up h2 l0 57 0) fun h3 =>
    qz_ck ((h3 l0 18 : Int) ≠ 0) <|
    qz_ck ((0 : Int) ≤ l1 ∧ l1 < h3 (h3 l0 18) (-1)) <|
    qz_ck ((h3 l0 18 : Int) ≠ 0) <|
    qz_ck ((0 : Int) ≤ l1 ∧ l1 < h3 (h3 l0 18) (-1)) <|
    qz_bc (fn_Md_frame l0 0 (h3 (h3 l0 18) l1) (h3 (h3 l0 18) l1) h3) fun _ h5 =>
    qz_ck ((h5 l0 20 : Int) ≠ 0) <|
    qz_ck ((0 : Int) ≤ qz_w (l1 + 1) ∧ qz_w (l1 + 1) < h5 (h5 l0 20) (-1)) <|
    qz_ck ((h5 l0 20 : Int) ≠ 0) <|
    qz_ck ((0 : Int) ≤ l1 ∧ l1 < h5 (h5 l0 20) (-1)) <|
    qz_bn (qz_w ((h5 (h5 l0 20) (qz_w (l1 + 1))) - (h5 (h5 l0 20) l1)) : Int) fun x6 =>
    qz_bn (0 : Int) fun x7 =>
    fn_Md_isValid_60 k2 qz_NF l0 l1 x6 x7 h5
def fn_Md_isValid_2 : Nat → Int → Int → qz_H → Option qz_R
  | 0, _, _, _ => none
  | n + 1, l0, l1, h => fn_Md_isValid_2_b (fn_Md_isValid_2 n) l0 l1 h
set_option maxRecDepth 20000 in
def fn_Md_isValid (l0 : Int) (h : qz_H) : Option qz_R :=
  qz_bn (0 : Int) fun x1 =>
  fn_Md_isValid_2 qz_NF l0 x1 h
def bk_Md_isValid_0 : List (Instr × Nat) := [(.iconst 0, 1), (.istore_n 1, 1)]
def bk_Md_isValid_2 : List (Instr × Nat) := [(.iload_n 1, 1), (.aload_n 0, 1), (.getfield 307, 3), (.if_icmp .ge 130, 3), (.aload_n 0, 1), (.iconst 0, 1), (.putfield 402, 3), (.aload_n 0, 1), (.iconst 0, 1), (.putfield 399, 3), (.aload_n 0, 1), (.iconst 0, 1), (.putfield 395, 3), (.aload_n 0, 1), (.iconst 0, 1), (.aload_n 0, 1), (.getfield 121, 3), (.iload_n 1, 1), (.iaload, 1), (.aload_n 0, 1), (.getfield 121, 3), (.iload_n 1, 1), (.iaload, 1), (.invokevirtual 415, 3), (.aload_n 0, 1), (.getfield 127, 3), (.iload_n 1, 1), (.iconst 1, 1), (.iadd, 1), (.iaload, 1), (.aload_n 0, 1), (.getfield 127, 3), (.iload_n 1, 1), (.iaload, 1), (.isub, 1), (.istore_n 2, 1), (.iconst 0, 1), (.istore_n 3, 1)]
def bk_Md_isValid_137 : List (Instr × Nat) := [(.iconst 1, 1), (.ireturn, 1)]
def bk_Md_isValid_60 : List (Instr × Nat) := [(.iload_n 3, 1), (.iload_n 2, 1), (.if_icmp .gt 69, 3), (.aload_n 0, 1), (.getfield 127, 3), (.iload_n 1, 1), (.iaload, 1), (.iload_n 3, 1), (.iadd, 1), (.istore 4, 2), (.iload_n 3, 1), (.iload_n 2, 1), (.if_icmp .ne 10, 3), (.aload_n 0, 1), (.invokevirtual 419, 3), (.goto 22, 3)]
def bk_Md_isValid_131 : List (Instr × Nat) := [(.iinc 1 1, 3), (.goto (-132), 3)]
def bk_Md_isValid_87 : List (Instr × Nat) := [(.aload_n 0, 1), (.iload_n 1, 1), (.aload_n 0, 1), (.getfield 130, 3), (.iload 4, 2), (.iaload, 1), (.aload_n 0, 1), (.getfield 133, 3), (.iload 4, 2), (.laload, 1), (.invokevirtual 452, 3)]
def bk_Md_isValid_106 : List (Instr × Nat) := [(.aload_n 0, 1), (.getfield 395, 3), (.ifCond .eq 15, 3), (.aload_n 0, 1), (.bipush 64, 2), (.iload_n 1, 1), (.imul, 1), (.iload_n 3, 1), (.iadd, 1), (.putfield 455, 3), (.iconst 0, 1), (.ireturn, 1)]
def bk_Md_isValid_125 : List (Instr × Nat) := [(.iinc 3 1, 3), (.goto (-68), 3)]
theorem ca_Md_isValid_0 : qz_ca yd_Md_isValid.2.1 0 bk_Md_isValid_0 := qz_cab_ok _ _ (by decide +kernel)
theorem ca_Md_isValid_2 : qz_ca yd_Md_isValid.2.1 2 bk_Md_isValid_2 := qz_cab_ok _ _ (by decide +kernel)
theorem ca_Md_isValid_137 : qz_ca yd_Md_isValid.2.1 137 bk_Md_isValid_137 := qz_cab_ok _ _ (by decide +kernel)
theorem ca_Md_isValid_60 : qz_ca yd_Md_isValid.2.1 60 bk_Md_isValid_60 := qz_cab_ok _ _ (by decide +kernel)
theorem ca_Md_isValid_131 : qz_ca yd_Md_isValid.2.1 131 bk_Md_isValid_131 := qz_cab_ok _ _ (by decide +kernel)
theorem ca_Md_isValid_87 : qz_ca yd_Md_isValid.2.1 87 bk_Md_isValid_87 := qz_cab_ok _ _ (by decide +kernel)
theorem ca_Md_isValid_106 : qz_ca yd_Md_isValid.2.1 106 bk_Md_isValid_106 := qz_cab_ok _ _ (by decide +kernel)
theorem ca_Md_isValid_125 : qz_ca yd_Md_isValid.2.1 125 bk_Md_isValid_125 := qz_cab_ok _ _ (by decide +kernel)
set_option maxRecDepth 20000 in
theorem jb_Md_isValid_106 (G : qz_G) (k2 : Int → Int → qz_H → Option qz_R) (k60 : Int → Int → Int → Int → qz_H → Option qz_R) (jk2 : ∀ (l0 : Int) (l1 : Int) (h : qz_H), qz_J yd_Md_isValid G bk_Md_isValid_2 2 [qz_r true 12 l0, qz_i l1, qz_u, qz_u, qz_u] [] h 0 0 (k2 l0 l1 h)) (jk60 : ∀ (l0 : Int) (l1 : Int) (l2 : Int) (l3 : Int) (h : qz_H), qz_J yd_Md_isValid G bk_Md_isValid_60 60 [qz_r true 12 l0, qz_i l1, qz_i l2, qz_i l3, qz_u] [] h 0 0 (k60 l0 l1 l2 l3 h)) (l0 : Int) (l1 : Int) (l2 : Int) (l3 : Int) (h : qz_H) : qz_J yd_Md_isValid G bk_Md_isValid_106 106 [qz_r true 12 l0, qz_i l1, qz_i l2, qz_i l3, qz_u] [] h 0 0 (fn_Md_isValid_106 k2 k60 l0 l1 l2 l3 h) := by
  unfold fn_Md_isValid_106 bk_Md_isValid_106; exact
    qz_aload_n rfl <|
    qz_getI kg_12 fl_Md_395 rfl rfl <|
    qz_if_eq rfl ca_Md_isValid_125
      (qz_iinc rfl (by decide) fun x1 =>
        qz_goto rfl ca_Md_isValid_60 <|
        qz_fgt [1, 1, 1, 1, 0] <| jk60 l0 l1 l2 x1 h)
      (qz_aload_n rfl <|
        qz_bipush rfl <|
        qz_iload_n rfl <|
        qz_imul <|
        qz_iload_n rfl <|
        qz_iadd <|
        qz_putI kw_12 fp_Md_455_Md_isValid rfl rfl fun h2 =>
        qz_iconst rfl <|
        qz_zreturn ⟨rfl, rfl⟩ rfl)
set_option maxRecDepth 20000 in
theorem jb_Md_isValid_60_b (G : qz_G) (k2 : Int → Int → qz_H → Option qz_R) (jk2 : ∀ (l0 : Int) (l1 : Int) (h : qz_H), qz_J yd_Md_isValid G bk_Md_isValid_2 2 [qz_r true 12 l0, qz_i l1, qz_u, qz_u, qz_u] [] h 0 0 (k2 l0 l1 h)) (k60 : Int → Int → Int → Int → qz_H → Option qz_R) (jk60 : ∀ (l0 : Int) (l1 : Int) (l2 : Int) (l3 : Int) (h : qz_H), qz_J yd_Md_isValid G bk_Md_isValid_60 60 [qz_r true 12 l0, qz_i l1, qz_i l2, qz_i l3, qz_u] [] h 0 0 (k60 l0 l1 l2 l3 h)) (l0 : Int) (l1 : Int) (l2 : Int) (l3 : Int) (h : qz_H) : qz_J yd_Md_isValid G bk_Md_isValid_60 60 [qz_r true 12 l0, qz_i l1, qz_i l2, qz_i l3, qz_u] [] h 0 0 (fn_Md_isValid_60_b k2 k60 l0 l1 l2 l3 h) := by
  unfold fn_Md_isValid_60_b bk_Md_isValid_60; exact
    qz_iload_n rfl <|
    qz_iload_n rfl <|
    qz_icmp_gt rfl ca_Md_isValid_131
      (qz_iinc rfl (by decide) fun x1 =>
        qz_goto rfl ca_Md_isValid_2 <|
        qz_fgt [1, 1, 0, 0, 0] <| jk2 l0 x1 h)
      (qz_aload_n rfl <|
        qz_getR (k1 := 40) kg_12 fl_Md_127 rfl rfl <|
        qz_iload_n rfl <|
        qz_nnd 1 rfl <|
        qz_iald (k0 := 40) rfl rfl rfl <|
        qz_iload_n rfl <|
        qz_iadd <|
        qz_istore (by decide) fun x2 =>
        qz_iload_n rfl <|
        qz_iload_n rfl <|
        qz_icmp_ne rfl ca_Md_isValid_87
          (qz_aload_n rfl <|
            qz_iload_n rfl <|
            qz_aload_n rfl <|
            qz_getR (k1 := 40) kg_12 fl_Md_130 rfl rfl <|
            qz_iload rfl <|
            qz_nnd 1 rfl <|
            qz_iald (k0 := 40) rfl rfl rfl <|
            qz_aload_n rfl <|
            qz_getR (k1 := 41) kg_12 fl_Md_133 rfl rfl <|
            qz_iload rfl <|
            qz_nnd 1 rfl <|
            qz_lald (k0 := 41) rfl rfl rfl <|
            qz_invvV [qz_i l1, qz_i (h (h l0 21) x2), qz_j (h (h l0 22) x2)] rfl (cn_Md_check l0 l1 (h (h l0 21) x2) (h (h l0 22) x2) h) mw_Md_check vw_Md_check ⟨_, rfl, rfl, by decide⟩ rfl rfl ln_Md_452 rfl fun _ h4 =>
            qz_fall rfl ca_Md_isValid_106 <|
            qz_fgt [1, 1, 1, 1, 0] <| jb_Md_isValid_106 G k2 k60 jk2 jk60 l0 l1 l2 l3 h4)
          (qz_aload_n rfl <|
            qz_invvV [] rfl (cn_Md_endFrame l0 h) mw_Md_endFrame vw_Md_endFrame ⟨_, rfl, rfl, by decide⟩ rfl rfl ln_Md_419 rfl fun _ h6 =>
            qz_goto rfl ca_Md_isValid_106 <|
            qz_fgt [1, 1, 1, 1, 0] <| jb_Md_isValid_106 G k2 k60 jk2 jk60 l0 l1 l2 l3 h6))
theorem jb_Md_isValid_60 (G : qz_G) (k2 : Int → Int → qz_H → Option qz_R) (jk2 : ∀ (l0 : Int) (l1 : Int) (h : qz_H), qz_J yd_Md_isValid G bk_Md_isValid_2 2 [qz_r true 12 l0, qz_i l1, qz_u, qz_u, qz_u] [] h 0 0 (k2 l0 l1 h)) : ∀ (n : Nat) (l0 l1 l2 l3 : Int) (h : qz_H), qz_J yd_Md_isValid G bk_Md_isValid_60 60 [qz_r true 12 l0, qz_i l1, qz_i l2, qz_i l3, qz_u] [] h 0 0 (fn_Md_isValid_60 k2 n l0 l1 l2 l3 h)
  | 0, _, _, _, _, _ => qz_none
  | n + 1, l0, l1, l2, l3, h => jb_Md_isValid_60_b G k2 jk2 (fn_Md_isValid_60 k2 n) (jb_Md_isValid_60 G k2 jk2 n) l0 l1 l2 l3 h
set_option maxRecDepth 20000 in
theorem jb_Md_isValid_2_b (G : qz_G) (k2 : Int → Int → qz_H → Option qz_R) (jk2 : ∀ (l0 : Int) (l1 : Int) (h : qz_H), qz_J yd_Md_isValid G bk_Md_isValid_2 2 [qz_r true 12 l0, qz_i l1, qz_u, qz_u, qz_u] [] h 0 0 (k2 l0 l1 h)) (l0 : Int) (l1 : Int) (h : qz_H) : qz_J yd_Md_isValid G bk_Md_isValid_2 2 [qz_r true 12 l0, qz_i l1, qz_u, qz_u, qz_u] [] h 0 0 (fn_Md_isValid_2_b k2 l0 l1 h) := by
  unfold fn_Md_isValid_2_b bk_Md_isValid_2; exact
    qz_iload_n rfl <|
    qz_aload_n rfl <|
    qz_getI kg_12 fl_Md_307 rfl rfl <|
    qz_icmp_ge rfl ca_Md_isValid_137
      (qz_iconst rfl <|
        qz_zreturn ⟨rfl, rfl⟩ rfl)
      (qz_aload_n rfl <|
        qz_iconst rfl <|
        qz_putI kw_12 fp_Md_402_Md_isValid rfl rfl fun h1 =>
        qz_aload_n rfl <|
        qz_iconst rfl <|
        qz_putI kw_12 fp_Md_399_Md_isValid rfl rfl fun h2 =>
        qz_aload_n rfl <|
        qz_iconst rfl <|
        qz_putZ kw_12 fp_Md_395_Md_isValid rfl rfl fun h3 =>
        qz_aload_n rfl <|
        qz_iconst rfl <|
        qz_aload_n rfl <|
        qz_getR (k1 := 40) kg_12 fl_Md_121 rfl rfl <|
        qz_iload_n rfl <|
        qz_nnd 1 rfl <|
        qz_iald (k0 := 40) rfl rfl rfl <|
        qz_aload_n rfl <|
        qz_getR (k1 := 40) kg_12 fl_Md_121 rfl rfl <|
        qz_iload_n rfl <|
        qz_nnd 1 rfl <|
        qz_iald (k0 := 40) rfl rfl rfl <|
        qz_invvV [qz_i 0, qz_i (h3 (h3 l0 18) l1), qz_i (h3 (h3 l0 18) l1)] rfl (cn_Md_frame l0 0 (h3 (h3 l0 18) l1) (h3 (h3 l0 18) l1) h3) mw_Md_frame vw_Md_frame ⟨_, rfl, rfl, by decide⟩ rfl rfl ln_Md_415 rfl fun _ h5 =>
        qz_aload_n rfl <|
        qz_getR (k1 := 40) kg_12 fl_Md_127 rfl rfl <|
        qz_iload_n rfl <|
        qz_iconst rfl <|
        qz_iadd <|
        qz_nnd 1 rfl <|
        qz_iald (k0 := 40) rfl rfl rfl <|
        qz_aload_n rfl <|
        qz_getR (k1 := 40) kg_12 fl_Md_127 rfl rfl <|
        qz_iload_n rfl <|
        qz_nnd 1 rfl <|
        qz_iald (k0 := 40) rfl rfl rfl <|
        qz_isub <|
        qz_istore_n (by decide) fun x6 =>
        qz_iconst rfl <|
        qz_istore_n (by decide) fun x7 =>
        qz_fall rfl ca_Md_isValid_60 <|
        qz_fgt [1, 1, 1, 1, 0] <| jb_Md_isValid_60 G k2 jk2 qz_NF l0 l1 x6 x7 h5)
theorem jb_Md_isValid_2 (G : qz_G) : ∀ (n : Nat) (l0 l1 : Int) (h : qz_H), qz_J yd_Md_isValid G bk_Md_isValid_2 2 [qz_r true 12 l0, qz_i l1, qz_u, qz_u, qz_u] [] h 0 0 (fn_Md_isValid_2 n l0 l1 h)
  | 0, _, _, _ => qz_none
  | n + 1, l0, l1, h => jb_Md_isValid_2_b G (fn_Md_isValid_2 n) (jb_Md_isValid_2 G n) l0 l1 h
set_option maxRecDepth 20000 in
theorem cn_Md_isValid (l0 : Int) (h : qz_H) : qz_C yd_Md_isValid [qz_r true 12 l0] h (fn_Md_isValid l0 h) := by
  refine qz_con (is := bk_Md_isValid_0) (ls := [qz_r true 12 l0, qz_u, qz_u, qz_u, qz_u]) mw_Md_isValid.2.2.2 ca_Md_isValid_0 rfl rfl rfl fun G => ?_
  unfold fn_Md_isValid bk_Md_isValid_0; exact
    qz_iconst rfl <|
    qz_istore_n (by decide) fun x1 =>
    qz_fall rfl ca_Md_isValid_2 <|
    qz_fgt [1, 1, 0, 0, 0] <| jb_Md_isValid_2 G qz_NF l0 x1 h
def fn_Md_adopt_113_b (k113 : Int → Int → qz_H → Option qz_R) (l0 : Int) (l1 : Int) (h : qz_H) : Option qz_R :=
  if h l0 23 ≤ l1 then
    some (0, h)
  else
    qz_ck ((h l0 21 : Int) ≠ 0) <|
    qz_ck ((0 : Int) ≤ l1 ∧ l1 < h (h l0 21) (-1)) <|
    qz_ck ((h l0 13 : Int) ≠ 0) <|
    qz_ck (0 < h l0 13 ∧ (0 : Int) ≤ l1 ∧ l1 < h (h l0 13) (-1)) <|
    qz_bn (qz_up h (h l0 13) l1 (h (h l0 21) l1)) fun h1 =>
    qz_ck ((h1 l0 22 : Int) ≠ 0) <|
    qz_ck ((0 : Int) ≤ l1 ∧ l1 < h1 (h1 l0 22) (-1)) <|
    qz_ck ((h1 l0 14 : Int) ≠ 0) <|
    qz_ck (0 < h1 l0 14 ∧ (0 : Int) ≤ l1 ∧ l1 < h1 (h1 l0 14) (-1)) <|
    qz_bn (qz_up h1 (h1 l0 14) l1 (h1 (h1 l0 22) l1)) fun h2 =>
    qz_bn (qz_w (l1 + 1)) fun x3 =>
    k113 l0 x3 h2
def fn_Md_adopt_113 : Nat → Int → Int → qz_H → Option qz_R
  | 0, _, _, _ => none
  | n + 1, l0, l1, h => fn_Md_adopt_113_b (fn_Md_adopt_113 n) l0 l1 h
def fn_Md_adopt_85_b (k85 : Int → Int → qz_H → Option qz_R) (l0 : Int) (l1 : Int) (h : qz_H) : Option qz_R :=
  if h l0 15 < l1 then
    qz_bn (0 : Int) fun x1 =>
    fn_Md_adopt_113 qz_NF l0 x1 h
  else
    qz_ck ((h l0 20 : Int) ≠ 0) <|
    qz_ck ((0 : Int) ≤ l1 ∧ l1 < h (h l0 20) (-1)) <|
    qz_ck ((h l0 12 : Int) ≠ 0) <|
    qz_ck (0 < h l0 12 ∧ (0 : Int) ≤ l1 ∧ l1 < h (h l0 12) (-1)) <|
    qz_bn (qz_up h (h l0 12) l1 (h (h l0 20) l1)) fun h2 =>
    qz_bn (qz_w (l1 + 1)) fun x3 =>
    k85 l0 x3 h2
def fn_Md_adopt_85 : Nat → Int → Int → qz_H → Option qz_R
  | 0, _, _, _ => none
  | n + 1, l0, l1, h => fn_Md_adopt_85_b (fn_Md_adopt_85 n) l0 l1 h
def fn_Md_adopt_59_b (k59 : Int → Int → qz_H → Option qz_R) (l0 : Int) (l1 : Int) (h : qz_H) : Option qz_R :=
  if 32 ≤ l1 then
    qz_bn (0 : Int) fun x1 =>
    fn_Md_adopt_85 qz_NF l0 x1 h
  else
    qz_ck ((h l0 19 : Int) ≠ 0) <|
    qz_ck ((0 : Int) ≤ l1 ∧ l1 < h (h l0 19) (-1)) <|
    qz_ck ((h l0 11 : Int) ≠ 0) <|
    qz_ck (0 < h l0 11 ∧ (0 : Int) ≤ l1 ∧ l1 < h (h l0 11) (-1)) <|
    qz_bn (qz_up h (h l0 11) l1 (h (h l0 19) l1)) fun h2 =>
    qz_bn (qz_w (l1 + 1)) fun x3 =>
    k59 l0 x3 h2
def fn_Md_adopt_59 : Nat → Int → Int → qz_H → Option qz_R
  | 0, _, _, _ => none
  | n + 1, l0, l1, h => fn_Md_adopt_59_b (fn_Md_adopt_59 n) l0 l1 h
def fn_Md_adopt_10_b (k10 : Int → Int → qz_H → Option qz_R) (l0 : Int) (l1 : Int) (h : qz_H) : Option qz_R :=
  if 4 ≤ l1 then
    qz_bn (0 : Int) fun x1 =>
    fn_Md_adopt_59 qz_NF l0 x1 h
  else
    qz_ck ((h l0 16 : Int) ≠ 0) <|
    qz_ck ((0 : Int) ≤ l1 ∧ l1 < h (h l0 16) (-1)) <|
    qz_ck ((h l0 8 : Int) ≠ 0) <|
    qz_ck (0 < h l0 8 ∧ (0 : Int) ≤ l1 ∧ l1 < h (h l0 8) (-1)) <|
    qz_bn (qz_up h (h l0 8) l1 (h (h l0 16) l1)) fun h2 =>
    qz_ck ((h2 l0 17 : Int) ≠ 0) <|
    qz_ck ((0 : Int) ≤ l1 ∧ l1 < h2 (h2 l0 17) (-1)) <|
    qz_ck ((h2 l0 9 : Int) ≠ 0) <|
    qz_ck (0 < h2 l0 9 ∧ (0 : Int) ≤ l1 ∧ l1 < h2 (h2 l0 9) (-1)) <|
    qz_bn (qz_up h2 (h2 l0 9) l1 (h2 (h2 l0 17) l1)) fun h3 =>
    qz_ck ((h3 l0 18 : Int) ≠ 0) <|
    qz_ck ((0 : Int) ≤ l1 ∧ l1 < h3 (h3 l0 18) (-1)) <|
    qz_ck ((h3 l0 10 : Int) ≠ 0) <|
    qz_ck (0 < h3 l0 10 ∧ (0 : Int) ≤ l1 ∧ l1 < h3 (h3 l0 10) (-1)) <|
    qz_bn (qz_up h3 (h3 l0 10) l1 (h3 (h3 l0 18) l1)) fun h4 =>
    qz_bn (qz_w (l1 + 1)) fun x5 =>
    k10 l0 x5 h4
def fn_Md_adopt_10 : Nat → Int → Int → qz_H → Option qz_R
  | 0, _, _, _ => none
  | n + 1, l0, l1, h => fn_Md_adopt_10_b (fn_Md_adopt_10 n) l0 l1 h
set_option maxRecDepth 20000 in
def fn_Md_adopt (l0 : Int) (h : qz_H) : Option qz_R :=
  qz_ck ((0 : Int) < l0) <|
  qz_bn (qz_up h l0 7 (h l0 15)) fun h1 =>
  qz_bn (0 : Int) fun x2 =>
  fn_Md_adopt_10 qz_NF l0 x2 h1
def bk_Md_adopt_0 : List (Instr × Nat) := [(.aload_n 0, 1), (.aload_n 0, 1), (.getfield 307, 3), (.putfield 458, 3), (.iconst 0, 1), (.istore_n 1, 1)]
def bk_Md_adopt_10 : List (Instr × Nat) := [(.iload_n 1, 1), (.iconst 4, 1), (.if_icmp .ge 45, 3), (.aload_n 0, 1), (.getfield 94, 3), (.iload_n 1, 1), (.aload_n 0, 1), (.getfield 115, 3), (.iload_n 1, 1), (.iaload, 1), (.iastore, 1), (.aload_n 0, 1), (.getfield 97, 3), (.iload_n 1, 1), (.aload_n 0, 1), (.getfield 118, 3), (.iload_n 1, 1), (.iaload, 1), (.iastore, 1), (.aload_n 0, 1), (.getfield 100, 3), (.iload_n 1, 1), (.aload_n 0, 1), (.getfield 121, 3), (.iload_n 1, 1), (.iaload, 1), (.iastore, 1), (.iinc 1 1, 3), (.goto (-44), 3)]
def bk_Md_adopt_57 : List (Instr × Nat) := [(.iconst 0, 1), (.istore_n 1, 1)]
def bk_Md_adopt_59 : List (Instr × Nat) := [(.iload_n 1, 1), (.bipush 32, 2), (.if_icmp .ge 21, 3), (.aload_n 0, 1), (.getfield 103, 3), (.iload_n 1, 1), (.aload_n 0, 1), (.getfield 124, 3), (.iload_n 1, 1), (.iaload, 1), (.iastore, 1), (.iinc 1 1, 3), (.goto (-21), 3)]
def bk_Md_adopt_83 : List (Instr × Nat) := [(.iconst 0, 1), (.istore_n 1, 1)]
def bk_Md_adopt_85 : List (Instr × Nat) := [(.iload_n 1, 1), (.aload_n 0, 1), (.getfield 307, 3), (.if_icmp .gt 21, 3), (.aload_n 0, 1), (.getfield 106, 3), (.iload_n 1, 1), (.aload_n 0, 1), (.getfield 127, 3), (.iload_n 1, 1), (.iaload, 1), (.iastore, 1), (.iinc 1 1, 3), (.goto (-23), 3)]
def bk_Md_adopt_111 : List (Instr × Nat) := [(.iconst 0, 1), (.istore_n 1, 1)]
def bk_Md_adopt_113 : List (Instr × Nat) := [(.iload_n 1, 1), (.aload_n 0, 1), (.getfield 304, 3), (.if_icmp .ge 33, 3), (.aload_n 0, 1), (.getfield 109, 3), (.iload_n 1, 1), (.aload_n 0, 1), (.getfield 130, 3), (.iload_n 1, 1), (.iaload, 1), (.iastore, 1), (.aload_n 0, 1), (.getfield 112, 3), (.iload_n 1, 1), (.aload_n 0, 1), (.getfield 133, 3), (.iload_n 1, 1), (.laload, 1), (.lastore, 1), (.iinc 1 1, 3), (.goto (-35), 3)]
def bk_Md_adopt_151 : List (Instr × Nat) := [(.return_, 1)]
theorem ca_Md_adopt_0 : qz_ca yd_Md_adopt.2.1 0 bk_Md_adopt_0 := qz_cab_ok _ _ (by decide +kernel)
theorem ca_Md_adopt_10 : qz_ca yd_Md_adopt.2.1 10 bk_Md_adopt_10 := qz_cab_ok _ _ (by decide +kernel)
theorem ca_Md_adopt_57 : qz_ca yd_Md_adopt.2.1 57 bk_Md_adopt_57 := qz_cab_ok _ _ (by decide +kernel)
theorem ca_Md_adopt_59 : qz_ca yd_Md_adopt.2.1 59 bk_Md_adopt_59 := qz_cab_ok _ _ (by decide +kernel)
theorem ca_Md_adopt_83 : qz_ca yd_Md_adopt.2.1 83 bk_Md_adopt_83 := qz_cab_ok _ _ (by decide +kernel)
theorem ca_Md_adopt_85 : qz_ca yd_Md_adopt.2.1 85 bk_Md_adopt_85 := qz_cab_ok _ _ (by decide +kernel)
theorem ca_Md_adopt_111 : qz_ca yd_Md_adopt.2.1 111 bk_Md_adopt_111 := qz_cab_ok _ _ (by decide +kernel)
theorem ca_Md_adopt_113 : qz_ca yd_Md_adopt.2.1 113 bk_Md_adopt_113 := qz_cab_ok _ _ (by decide +kernel)
theorem ca_Md_adopt_151 : qz_ca yd_Md_adopt.2.1 151 bk_Md_adopt_151 := qz_cab_ok _ _ (by decide +kernel)
set_option maxRecDepth 20000 in
theorem jb_Md_adopt_113_b (G : qz_G) (k113 : Int → Int → qz_H → Option qz_R) (jk113 : ∀ (l0 : Int) (l1 : Int) (h : qz_H), qz_J yd_Md_adopt G bk_Md_adopt_113 113 [qz_r true 12 l0, qz_i l1] [] h 0 0 (k113 l0 l1 h)) (l0 : Int) (l1 : Int) (h : qz_H) : qz_J yd_Md_adopt G bk_Md_adopt_113 113 [qz_r true 12 l0, qz_i l1] [] h 0 0 (fn_Md_adopt_113_b k113 l0 l1 h) := by
  unfold fn_Md_adopt_113_b bk_Md_adopt_113; exact
    qz_iload_n rfl <|
    qz_aload_n rfl <|
    qz_getI kg_12 fl_Md_304 rfl rfl <|
    qz_icmp_ge rfl ca_Md_adopt_151
      (qz_return ⟨rfl, rfl⟩ rfl)
      (qz_aload_n rfl <|
        qz_getR (k1 := 40) kg_12 fl_Md_109 rfl rfl <|
        qz_iload_n rfl <|
        qz_aload_n rfl <|
        qz_getR (k1 := 40) kg_12 fl_Md_130 rfl rfl <|
        qz_iload_n rfl <|
        qz_nnd 1 rfl <|
        qz_iald (k0 := 40) rfl rfl rfl <|
        qz_nnd 2 rfl <|
        qz_iast rfl rfl rfl fun h1 =>
        qz_aload_n rfl <|
        qz_getR (k1 := 41) kg_12 fl_Md_112 rfl rfl <|
        qz_iload_n rfl <|
        qz_aload_n rfl <|
        qz_getR (k1 := 41) kg_12 fl_Md_133 rfl rfl <|
        qz_iload_n rfl <|
        qz_nnd 1 rfl <|
        qz_lald (k0 := 41) rfl rfl rfl <|
        qz_nnd 2 rfl <|
        qz_last rfl rfl rfl fun h2 =>
        qz_iinc rfl (by decide) fun x3 =>
        qz_goto rfl ca_Md_adopt_113 <|
        qz_fgt [1, 1] <| jk113 l0 x3 h2)
theorem jb_Md_adopt_113 (G : qz_G) : ∀ (n : Nat) (l0 l1 : Int) (h : qz_H), qz_J yd_Md_adopt G bk_Md_adopt_113 113 [qz_r true 12 l0, qz_i l1] [] h 0 0 (fn_Md_adopt_113 n l0 l1 h)
  | 0, _, _, _ => qz_none
  | n + 1, l0, l1, h => jb_Md_adopt_113_b G (fn_Md_adopt_113 n) (jb_Md_adopt_113 G n) l0 l1 h
set_option maxRecDepth 20000 in
theorem jb_Md_adopt_85_b (G : qz_G) (k85 : Int → Int → qz_H → Option qz_R) (jk85 : ∀ (l0 : Int) (l1 : Int) (h : qz_H), qz_J yd_Md_adopt G bk_Md_adopt_85 85 [qz_r true 12 l0, qz_i l1] [] h 0 0 (k85 l0 l1 h)) (l0 : Int) (l1 : Int) (h : qz_H) : qz_J yd_Md_adopt G bk_Md_adopt_85 85 [qz_r true 12 l0, qz_i l1] [] h 0 0 (fn_Md_adopt_85_b k85 l0 l1 h) := by
  unfold fn_Md_adopt_85_b bk_Md_adopt_85; exact
    qz_iload_n rfl <|
    qz_aload_n rfl <|
    qz_getI kg_12 fl_Md_307 rfl rfl <|
    qz_icmp_gt rfl ca_Md_adopt_111
      (qz_iconst rfl <|
        qz_istore_n (by decide) fun x1 =>
        qz_fall rfl ca_Md_adopt_113 <|
        qz_fgt [1, 1] <| jb_Md_adopt_113 G qz_NF l0 x1 h)
      (qz_aload_n rfl <|
        qz_getR (k1 := 40) kg_12 fl_Md_106 rfl rfl <|
        qz_iload_n rfl <|
        qz_aload_n rfl <|
        qz_getR (k1 := 40) kg_12 fl_Md_127 rfl rfl <|
        qz_iload_n rfl <|
        qz_nnd 1 rfl <|
        qz_iald (k0 := 40) rfl rfl rfl <|
        qz_nnd 2 rfl <|
        qz_iast rfl rfl rfl fun h2 =>
        qz_iinc rfl (by decide) fun x3 =>
        qz_goto rfl ca_Md_adopt_85 <|
        qz_fgt [1, 1] <| jk85 l0 x3 h2)
theorem jb_Md_adopt_85 (G : qz_G) : ∀ (n : Nat) (l0 l1 : Int) (h : qz_H), qz_J yd_Md_adopt G bk_Md_adopt_85 85 [qz_r true 12 l0, qz_i l1] [] h 0 0 (fn_Md_adopt_85 n l0 l1 h)
  | 0, _, _, _ => qz_none
  | n + 1, l0, l1, h => jb_Md_adopt_85_b G (fn_Md_adopt_85 n) (jb_Md_adopt_85 G n) l0 l1 h
set_option maxRecDepth 20000 in
theorem jb_Md_adopt_59_b (G : qz_G) (k59 : Int → Int → qz_H → Option qz_R) (jk59 : ∀ (l0 : Int) (l1 : Int) (h : qz_H), qz_J yd_Md_adopt G bk_Md_adopt_59 59 [qz_r true 12 l0, qz_i l1] [] h 0 0 (k59 l0 l1 h)) (l0 : Int) (l1 : Int) (h : qz_H) : qz_J yd_Md_adopt G bk_Md_adopt_59 59 [qz_r true 12 l0, qz_i l1] [] h 0 0 (fn_Md_adopt_59_b k59 l0 l1 h) := by
  unfold fn_Md_adopt_59_b bk_Md_adopt_59; exact
    qz_iload_n rfl <|
    qz_bipush rfl <|
    qz_icmp_ge rfl ca_Md_adopt_83
      (qz_iconst rfl <|
        qz_istore_n (by decide) fun x1 =>
        qz_fall rfl ca_Md_adopt_85 <|
        qz_fgt [1, 1] <| jb_Md_adopt_85 G qz_NF l0 x1 h)
      (qz_aload_n rfl <|
        qz_getR (k1 := 40) kg_12 fl_Md_103 rfl rfl <|
        qz_iload_n rfl <|
        qz_aload_n rfl <|
        qz_getR (k1 := 40) kg_12 fl_Md_124 rfl rfl <|
        qz_iload_n rfl <|
        qz_nnd 1 rfl <|
        qz_iald (k0 := 40) rfl rfl rfl <|
        qz_nnd 2 rfl <|
        qz_iast rfl rfl rfl fun h2 =>
        qz_iinc rfl (by decide) fun x3 =>
        qz_goto rfl ca_Md_adopt_59 <|
        qz_fgt [1, 1] <| jk59 l0 x3 h2)
theorem jb_Md_adopt_59 (G : qz_G) : ∀ (n : Nat) (l0 l1 : Int) (h : qz_H), qz_J yd_Md_adopt G bk_Md_adopt_59 59 [qz_r true 12 l0, qz_i l1] [] h 0 0 (fn_Md_adopt_59 n l0 l1 h)
  | 0, _, _, _ => qz_none
  | n + 1, l0, l1, h => jb_Md_adopt_59_b G (fn_Md_adopt_59 n) (jb_Md_adopt_59 G n) l0 l1 h
set_option maxRecDepth 20000 in
theorem jb_Md_adopt_10_b (G : qz_G) (k10 : Int → Int → qz_H → Option qz_R) (jk10 : ∀ (l0 : Int) (l1 : Int) (h : qz_H), qz_J yd_Md_adopt G bk_Md_adopt_10 10 [qz_r true 12 l0, qz_i l1] [] h 0 0 (k10 l0 l1 h)) (l0 : Int) (l1 : Int) (h : qz_H) : qz_J yd_Md_adopt G bk_Md_adopt_10 10 [qz_r true 12 l0, qz_i l1] [] h 0 0 (fn_Md_adopt_10_b k10 l0 l1 h) := by
  unfold fn_Md_adopt_10_b bk_Md_adopt_10; exact
    qz_iload_n rfl <|
    qz_iconst rfl <|
    qz_icmp_ge rfl ca_Md_adopt_57
      (qz_iconst rfl <|
        qz_istore_n (by decide) fun x1 =>
        qz_fall rfl ca_Md_adopt_59 <|
        qz_fgt [1, 1] <| jb_Md_adopt_59 G qz_NF l0 x1 h)
      (qz_aload_n rfl <|
        qz_getR (k1 := 40) kg_12 fl_Md_94 rfl rfl <|
        qz_iload_n rfl <|
        qz_aload_n rfl <|
        qz_getR (k1 := 40) kg_12 fl_Md_115 rfl rfl <|
        qz_iload_n rfl <|
        qz_nnd 1 rfl <|
        qz_iald (k0 := 40) rfl rfl rfl <|
        qz_nnd 2 rfl <|
        qz_iast rfl rfl rfl fun h2 =>
        qz_aload_n rfl <|
        qz_getR (k1 := 40) kg_12 fl_Md_97 rfl rfl <|
        qz_iload_n rfl <|
        qz_aload_n rfl <|
        qz_getR (k1 := 40) kg_12 fl_Md_118 rfl rfl <|
        qz_iload_n rfl <|
        qz_nnd 1 rfl <|
        qz_iald (k0 := 40) rfl rfl rfl <|
        qz_nnd 2 rfl <|
        qz_iast rfl rfl rfl fun h3 =>
        qz_aload_n rfl <|
        qz_getR (k1 := 40) kg_12 fl_Md_100 rfl rfl <|
        qz_iload_n rfl <|
        qz_aload_n rfl <|
        qz_getR (k1 := 40) kg_12 fl_Md_121 rfl rfl <|
        qz_iload_n rfl <|
        qz_nnd 1 rfl <|
        qz_iald (k0 := 40) rfl rfl rfl <|
        qz_nnd 2 rfl <|
        qz_iast rfl rfl rfl fun h4 =>
        qz_iinc rfl (by decide) fun x5 =>
        qz_goto rfl ca_Md_adopt_10 <|
        qz_fgt [1, 1] <| jk10 l0 x5 h4)
theorem jb_Md_adopt_10 (G : qz_G) : ∀ (n : Nat) (l0 l1 : Int) (h : qz_H), qz_J yd_Md_adopt G bk_Md_adopt_10 10 [qz_r true 12 l0, qz_i l1] [] h 0 0 (fn_Md_adopt_10 n l0 l1 h)
  | 0, _, _, _ => qz_none
  | n + 1, l0, l1, h => jb_Md_adopt_10_b G (fn_Md_adopt_10 n) (jb_Md_adopt_10 G n) l0 l1 h
set_option maxRecDepth 20000 in
theorem cn_Md_adopt (l0 : Int) (h : qz_H) : qz_C yd_Md_adopt [qz_r true 12 l0] h (fn_Md_adopt l0 h) := by
  refine qz_con (is := bk_Md_adopt_0) (ls := [qz_r true 12 l0, qz_u]) mw_Md_adopt.2.2.2 ca_Md_adopt_0 rfl rfl rfl fun G => ?_
  unfold fn_Md_adopt bk_Md_adopt_0; exact
    qz_aload_n rfl <|
    qz_aload_n rfl <|
    qz_getI kg_12 fl_Md_307 rfl rfl <|
    qz_putI kw_12 fp_Md_458_Md_adopt rfl rfl fun h1 =>
    qz_iconst rfl <|
    qz_istore_n (by decide) fun x2 =>
    qz_fall rfl ca_Md_adopt_10 <|
    qz_fgt [1, 1] <| jb_Md_adopt_10 G qz_NF l0 x2 h1
def fn_Md_assemble_14 (l0 : Int) (h : qz_H) : Option qz_R :=
  qz_ck ((0 : Int) < l0) <|
  qz_bn (qz_up h l0 4 (h l0 34)) fun h1 =>
  qz_bc (fn_Md_raise l0 (h1 l0 38) h1) fun r2 h3 =>
  some (r2, h3)
set_option maxRecDepth 20000 in
def fn_Md_assemble (l0 : Int) (h : qz_H) : Option qz_R :=
  qz_bc (fn_Md_readModule l0 h) fun r1 h2 =>
  if r1 = 0 then
    fn_Md_assemble_14 l0 h2
  else
    qz_bc (fn_Md_resolve l0 h2) fun r3 h4 =>
    if ¬ r3 = 0 then
      qz_bc (fn_Md_isValid l0 h4) fun r5 h6 =>
      if ¬ r5 = 0 then
        qz_ck ((0 : Int) < l0) <|
        qz_bn (qz_up h6 l0 3 0) fun h7 =>
        qz_bc (fn_Md_adopt l0 h7) fun _ h9 =>
        some (h9 l0 7, h9)
      else
        qz_bc (fn_Md_raise l0 3 h6) fun r10 h11 =>
        some (r10, h11)
    else
      fn_Md_assemble_14 l0 h4
def bk_Md_assemble_0 : List (Instr × Nat) := [(.aload_n 0, 1), (.invokevirtual 461, 3), (.ifCond .eq 10, 3), (.aload_n 0, 1), (.invokevirtual 464, 3), (.ifCond .ne 20, 3)]
def bk_Md_assemble_14 : List (Instr × Nat) := [(.aload_n 0, 1), (.aload_n 0, 1), (.getfield 224, 3), (.putfield 455, 3), (.aload_n 0, 1), (.aload_n 0, 1), (.getfield 250, 3), (.invokevirtual 467, 3), (.ireturn, 1)]
def bk_Md_assemble_31 : List (Instr × Nat) := [(.aload_n 0, 1), (.invokevirtual 470, 3), (.ifCond .ne 9, 3), (.aload_n 0, 1), (.iconst 3, 1), (.invokevirtual 467, 3), (.ireturn, 1)]
def bk_Md_assemble_44 : List (Instr × Nat) := [(.aload_n 0, 1), (.iconst 0, 1), (.putfield 206, 3), (.aload_n 0, 1), (.invokevirtual 473, 3), (.aload_n 0, 1), (.getfield 458, 3), (.ireturn, 1)]
theorem ca_Md_assemble_0 : qz_ca yd_Md_assemble.2.1 0 bk_Md_assemble_0 := qz_cab_ok _ _ (by decide +kernel)
theorem ca_Md_assemble_14 : qz_ca yd_Md_assemble.2.1 14 bk_Md_assemble_14 := qz_cab_ok _ _ (by decide +kernel)
theorem ca_Md_assemble_31 : qz_ca yd_Md_assemble.2.1 31 bk_Md_assemble_31 := qz_cab_ok _ _ (by decide +kernel)
theorem ca_Md_assemble_44 : qz_ca yd_Md_assemble.2.1 44 bk_Md_assemble_44 := qz_cab_ok _ _ (by decide +kernel)
set_option maxRecDepth 20000 in
theorem jb_Md_assemble_14 (G : qz_G) (l0 : Int) (h : qz_H) : qz_J yd_Md_assemble G bk_Md_assemble_14 14 [qz_r true 12 l0] [] h 0 0 (fn_Md_assemble_14 l0 h) := by
  unfold fn_Md_assemble_14 bk_Md_assemble_14; exact
    qz_aload_n rfl <|
    qz_aload_n rfl <|
    qz_getI kg_12 fl_Md_224 rfl rfl <|
    qz_putI kw_12 fp_Md_455_Md_assemble rfl rfl fun h1 =>
    qz_aload_n rfl <|
    qz_aload_n rfl <|
    qz_getI kg_12 fl_Md_250 rfl rfl <|
    qz_invvI [qz_i (h1 l0 38)] rfl (cn_Md_raise l0 (h1 l0 38) h1) mw_Md_raise vw_Md_raise ⟨_, rfl, rfl, by decide⟩ rfl rfl ln_Md_467 rfl fun r2 h3 =>
    qz_ireturn ⟨rfl, rfl⟩ rfl
set_option maxRecDepth 20000 in
theorem cn_Md_assemble (l0 : Int) (h : qz_H) : qz_C yd_Md_assemble [qz_r true 12 l0] h (fn_Md_assemble l0 h) := by
  refine qz_con (is := bk_Md_assemble_0) (ls := [qz_r true 12 l0]) mw_Md_assemble.2.2.2 ca_Md_assemble_0 rfl rfl rfl fun G => ?_
  unfold fn_Md_assemble bk_Md_assemble_0; exact
    qz_aload_n rfl <|
    qz_invvI [] rfl (cn_Md_readModule l0 h) mw_Md_readModule vw_Md_readModule ⟨_, rfl, rfl, by decide⟩ rfl rfl ln_Md_461 rfl fun r1 h2 =>
    qz_if_eq rfl ca_Md_assemble_14
      (qz_fgt [1] <| jb_Md_assemble_14 G l0 h2)
      (qz_aload_n rfl <|
        qz_invvI [] rfl (cn_Md_resolve l0 h2) mw_Md_resolve vw_Md_resolve ⟨_, rfl, rfl, by decide⟩ rfl rfl ln_Md_464 rfl fun r3 h4 =>
        qz_if_ne rfl ca_Md_assemble_31
          (qz_aload_n rfl <|
            qz_invvI [] rfl (cn_Md_isValid l0 h4) mw_Md_isValid vw_Md_isValid ⟨_, rfl, rfl, by decide⟩ rfl rfl ln_Md_470 rfl fun r5 h6 =>
            qz_if_ne rfl ca_Md_assemble_44
              (qz_aload_n rfl <|
                qz_iconst rfl <|
                qz_putI kw_12 fp_Md_206_Md_assemble rfl rfl fun h7 =>
                qz_aload_n rfl <|
                qz_invvV [] rfl (cn_Md_adopt l0 h7) mw_Md_adopt vw_Md_adopt ⟨_, rfl, rfl, by decide⟩ rfl rfl ln_Md_473 rfl fun _ h9 =>
                qz_aload_n rfl <|
                qz_getI kg_12 fl_Md_458 rfl rfl <|
                qz_ireturn ⟨rfl, rfl⟩ rfl)
              (qz_aload_n rfl <|
                qz_iconst rfl <|
                qz_invvI [qz_i 3] rfl (cn_Md_raise l0 3 h6) mw_Md_raise vw_Md_raise ⟨_, rfl, rfl, by decide⟩ rfl rfl ln_Md_467 rfl fun r10 h11 =>
                qz_ireturn ⟨rfl, rfl⟩ rfl))
          (qz_fall rfl ca_Md_assemble_14 <|
            qz_fgt [1] <| jb_Md_assemble_14 G l0 h4))
set_option maxRecDepth 20000 in
def fn_Md_add (l0 : Int) (l1 : Int) (h : qz_H) : Option qz_R :=
  qz_ck ((h l0 61 : Int) ≠ 0) <|
  qz_ck (0 < h l0 61 ∧ (0 : Int) ≤ h l0 60 ∧ h l0 60 < h (h l0 61) (-1)) <|
  qz_bn (qz_up h (h l0 61) (h l0 60) (qz_and l1 255)) fun h1 =>
  qz_ck ((0 : Int) < l0) <|
  qz_bn (qz_up h1 l0 60 (qz_w ((h1 l0 60) + 1))) fun h2 =>
  some (0, h2)
def bk_Md_add_0 : List (Instr × Nat) := [(.aload_n 0, 1), (.getfield 200, 3), (.aload_n 0, 1), (.getfield 476, 3), (.iload_n 1, 1), (.sipush 255, 3), (.iand, 1), (.iastore, 1), (.aload_n 0, 1), (.dup, 1), (.getfield 476, 3), (.iconst 1, 1), (.iadd, 1), (.putfield 476, 3), (.return_, 1)]
theorem ca_Md_add_0 : qz_ca yd_Md_add.2.1 0 bk_Md_add_0 := qz_cab_ok _ _ (by decide +kernel)
set_option maxRecDepth 20000 in
theorem cn_Md_add (l0 : Int) (l1 : Int) (h : qz_H) : qz_C yd_Md_add [qz_r true 12 l0, qz_i l1] h (fn_Md_add l0 l1 h) := by
  refine qz_con (is := bk_Md_add_0) (ls := [qz_r true 12 l0, qz_i l1]) mw_Md_add.2.2.2 ca_Md_add_0 rfl rfl rfl fun G => ?_
  unfold fn_Md_add bk_Md_add_0; exact
    qz_aload_n rfl <|
    qz_getR (k1 := 40) kg_12 fl_Md_200 rfl rfl <|
    qz_aload_n rfl <|
    qz_getI kg_12 fl_Md_476 rfl rfl <|
    qz_iload_n rfl <|
    qz_sipush rfl <|
    qz_iand <|
    qz_nnd 2 rfl <|
    qz_iast rfl rfl rfl fun h1 =>
    qz_aload_n rfl <|
    qz_dup rfl <|
    qz_getI kg_12 fl_Md_476 rfl rfl <|
    qz_iconst rfl <|
    qz_iadd <|
    qz_putI kw_12 fp_Md_476_Md_add rfl rfl fun h2 =>
    qz_return ⟨rfl, rfl⟩ rfl
def fn_Md_unsigned_2_b (k2 : Int → Int → qz_H → Option qz_R) (l0 : Int) (l3 : Int) (h : qz_H) : Option qz_R :=
  if qz_cmp l3 127 ≤ 0 then
    qz_bc (fn_Md_add l0 (qz_w l3) h) fun _ h2 =>
    some (0, h2)
  else
    qz_bc (fn_Md_add l0 (qz_or (qz_w (qz_andJ l3 127)) 128) h) fun _ h4 =>
    qz_bn (qz_ushJ l3 7 : Int) fun x5 =>
    k2 l0 x5 h4
def fn_Md_unsigned_2 : Nat → Int → Int → qz_H → Option qz_R
  | 0, _, _, _ => none
  | n + 1, l0, l3, h => fn_Md_unsigned_2_b (fn_Md_unsigned_2 n) l0 l3 h
set_option maxRecDepth 20000 in
def fn_Md_unsigned (l0 : Int) (l1 : Int) (h : qz_H) : Option qz_R :=
  qz_bn (l1 : Int) fun x1 =>
  fn_Md_unsigned_2 qz_NF l0 x1 h
def bk_Md_unsigned_0 : List (Instr × Nat) := [(.lload_n 1, 1), (.lstore_n 3, 1)]
def bk_Md_unsigned_2 : List (Instr × Nat) := [(.lload_n 3, 1), (.ldc2_w 479, 3), (.lcmp, 1), (.ifCond .le 25, 3), (.aload_n 0, 1), (.lload_n 3, 1), (.ldc2_w 479, 3), (.land, 1), (.l2i, 1), (.sipush 128, 3), (.ior, 1), (.invokevirtual 481, 3), (.lload_n 3, 1), (.bipush 7, 2), (.lushr, 1), (.lstore_n 3, 1), (.goto (-27), 3)]
def bk_Md_unsigned_32 : List (Instr × Nat) := [(.aload_n 0, 1), (.lload_n 3, 1), (.l2i, 1), (.invokevirtual 481, 3), (.return_, 1)]
theorem ca_Md_unsigned_0 : qz_ca yd_Md_unsigned.2.1 0 bk_Md_unsigned_0 := qz_cab_ok _ _ (by decide +kernel)
theorem ca_Md_unsigned_2 : qz_ca yd_Md_unsigned.2.1 2 bk_Md_unsigned_2 := qz_cab_ok _ _ (by decide +kernel)
theorem ca_Md_unsigned_32 : qz_ca yd_Md_unsigned.2.1 32 bk_Md_unsigned_32 := qz_cab_ok _ _ (by decide +kernel)
set_option maxRecDepth 20000 in
theorem jb_Md_unsigned_2_b (G : qz_G) (k2 : Int → Int → qz_H → Option qz_R) (jk2 : ∀ (l0 : Int) (l3 : Int) (h : qz_H), qz_J yd_Md_unsigned G bk_Md_unsigned_2 2 [qz_r true 12 l0, qz_u, qz_u, qz_j l3, qz_u] [] h 0 0 (k2 l0 l3 h)) (l0 : Int) (l3 : Int) (h : qz_H) : qz_J yd_Md_unsigned G bk_Md_unsigned_2 2 [qz_r true 12 l0, qz_u, qz_u, qz_j l3, qz_u] [] h 0 0 (fn_Md_unsigned_2_b k2 l0 l3 h) := by
  unfold fn_Md_unsigned_2_b bk_Md_unsigned_2; exact
    qz_lload_n rfl <|
    qz_ldc2 wc_Md_479 rfl <|
    qz_lcmp <|
    qz_if_le rfl ca_Md_unsigned_32
      (qz_aload_n rfl <|
        qz_lload_n rfl <|
        qz_l2i <|
        qz_invvV [qz_i (qz_w l3)] rfl (cn_Md_add l0 (qz_w l3) h) mw_Md_add vw_Md_add ⟨_, rfl, rfl, by decide⟩ rfl rfl ln_Md_481 rfl fun _ h2 =>
        qz_return ⟨rfl, rfl⟩ rfl)
      (qz_aload_n rfl <|
        qz_lload_n rfl <|
        qz_ldc2 wc_Md_479 rfl <|
        qz_land <|
        qz_l2i <|
        qz_sipush rfl <|
        qz_ior <|
        qz_invvV [qz_i (qz_or (qz_w (qz_andJ l3 127)) 128)] rfl (cn_Md_add l0 (qz_or (qz_w (qz_andJ l3 127)) 128) h) mw_Md_add vw_Md_add ⟨_, rfl, rfl, by decide⟩ rfl rfl ln_Md_481 rfl fun _ h4 =>
        qz_lload_n rfl <|
        qz_bipush rfl <|
        qz_lushr <|
        qz_lstore_n (by decide) fun x5 =>
        qz_goto rfl ca_Md_unsigned_2 <|
        qz_fgt [1, 0, 0, 1, 0] <| jk2 l0 x5 h4)
theorem jb_Md_unsigned_2 (G : qz_G) : ∀ (n : Nat) (l0 l3 : Int) (h : qz_H), qz_J yd_Md_unsigned G bk_Md_unsigned_2 2 [qz_r true 12 l0, qz_u, qz_u, qz_j l3, qz_u] [] h 0 0 (fn_Md_unsigned_2 n l0 l3 h)
  | 0, _, _, _ => qz_none
  | n + 1, l0, l3, h => jb_Md_unsigned_2_b G (fn_Md_unsigned_2 n) (jb_Md_unsigned_2 G n) l0 l3 h
set_option maxRecDepth 20000 in
theorem cn_Md_unsigned (l0 : Int) (l1 : Int) (h : qz_H) : qz_C yd_Md_unsigned [qz_r true 12 l0, qz_j l1] h (fn_Md_unsigned l0 l1 h) := by
  refine qz_con (is := bk_Md_unsigned_0) (ls := [qz_r true 12 l0, qz_j l1, qz_u, qz_u, qz_u]) mw_Md_unsigned.2.2.2 ca_Md_unsigned_0 rfl rfl rfl fun G => ?_
  unfold fn_Md_unsigned bk_Md_unsigned_0; exact
    qz_lload_n rfl <|
    qz_lstore_n (by decide) fun x1 =>
    qz_fall rfl ca_Md_unsigned_2 <|
    qz_fgt [1, 0, 0, 1, 0] <| jb_Md_unsigned_2 G qz_NF l0 x1 h
def fn_Md_signed_18 (k2 : Int → Int → qz_H → Option qz_R) (l0 : Int) (l3 : Int) (h : qz_H) : Option qz_R :=
  qz_bc (fn_Md_add l0 (qz_or (qz_w (qz_andJ l3 127)) 128) h) fun _ h2 =>
  qz_bn (qz_shrJ l3 7 : Int) fun x3 =>
  k2 l0 x3 h2
def fn_Md_signed_2_b (k2 : Int → Int → qz_H → Option qz_R) (l0 : Int) (l3 : Int) (h : qz_H) : Option qz_R :=
  if 0 < qz_cmp l3 63 then
    fn_Md_signed_18 k2 l0 l3 h
  else
    if 0 ≤ qz_cmp l3 (-64) then
      qz_bc (fn_Md_add l0 (qz_w (qz_andJ l3 127)) h) fun _ h2 =>
      some (0, h2)
    else
      fn_Md_signed_18 k2 l0 l3 h
def fn_Md_signed_2 : Nat → Int → Int → qz_H → Option qz_R
  | 0, _, _, _ => none
  | n + 1, l0, l3, h => fn_Md_signed_2_b (fn_Md_signed_2 n) l0 l3 h
set_option maxRecDepth 20000 in
def fn_Md_signed (l0 : Int) (l1 : Int) (h : qz_H) : Option qz_R :=
  qz_bn (l1 : Int) fun x1 =>
  fn_Md_signed_2 qz_NF l0 x1 h
def bk_Md_signed_0 : List (Instr × Nat) := [(.lload_n 1, 1), (.lstore_n 3, 1)]
def bk_Md_signed_2 : List (Instr × Nat) := [(.lload_n 3, 1), (.ldc2_w 484, 3), (.lcmp, 1), (.ifCond .gt 11, 3), (.lload_n 3, 1), (.ldc2_w 486, 3), (.lcmp, 1), (.ifCond .ge 25, 3)]
def bk_Md_signed_18 : List (Instr × Nat) := [(.aload_n 0, 1), (.lload_n 3, 1), (.ldc2_w 479, 3), (.land, 1), (.l2i, 1), (.sipush 128, 3), (.ior, 1), (.invokevirtual 481, 3), (.lload_n 3, 1), (.bipush 7, 2), (.lshr, 1), (.lstore_n 3, 1), (.goto (-35), 3)]
def bk_Md_signed_40 : List (Instr × Nat) := [(.aload_n 0, 1), (.lload_n 3, 1), (.ldc2_w 479, 3), (.land, 1), (.l2i, 1), (.invokevirtual 481, 3), (.return_, 1)]
theorem ca_Md_signed_0 : qz_ca yd_Md_signed.2.1 0 bk_Md_signed_0 := qz_cab_ok _ _ (by decide +kernel)
theorem ca_Md_signed_2 : qz_ca yd_Md_signed.2.1 2 bk_Md_signed_2 := qz_cab_ok _ _ (by decide +kernel)
theorem ca_Md_signed_18 : qz_ca yd_Md_signed.2.1 18 bk_Md_signed_18 := qz_cab_ok _ _ (by decide +kernel)
theorem ca_Md_signed_40 : qz_ca yd_Md_signed.2.1 40 bk_Md_signed_40 := qz_cab_ok _ _ (by decide +kernel)
set_option maxRecDepth 20000 in
theorem jb_Md_signed_18 (G : qz_G) (k2 : Int → Int → qz_H → Option qz_R) (jk2 : ∀ (l0 : Int) (l3 : Int) (h : qz_H), qz_J yd_Md_signed G bk_Md_signed_2 2 [qz_r true 12 l0, qz_u, qz_u, qz_j l3, qz_u] [] h 0 0 (k2 l0 l3 h)) (l0 : Int) (l3 : Int) (h : qz_H) : qz_J yd_Md_signed G bk_Md_signed_18 18 [qz_r true 12 l0, qz_u, qz_u, qz_j l3, qz_u] [] h 0 0 (fn_Md_signed_18 k2 l0 l3 h) := by
  unfold fn_Md_signed_18 bk_Md_signed_18; exact
    qz_aload_n rfl <|
    qz_lload_n rfl <|
    qz_ldc2 wc_Md_479 rfl <|
    qz_land <|
    qz_l2i <|
    qz_sipush rfl <|
    qz_ior <|
    qz_invvV [qz_i (qz_or (qz_w (qz_andJ l3 127)) 128)] rfl (cn_Md_add l0 (qz_or (qz_w (qz_andJ l3 127)) 128) h) mw_Md_add vw_Md_add ⟨_, rfl, rfl, by decide⟩ rfl rfl ln_Md_481 rfl fun _ h2 =>
    qz_lload_n rfl <|
    qz_bipush rfl <|
    qz_lshr <|
    qz_lstore_n (by decide) fun x3 =>
    qz_goto rfl ca_Md_signed_2 <|
    qz_fgt [1, 0, 0, 1, 0] <| jk2 l0 x3 h2
set_option maxRecDepth 20000 in
theorem jb_Md_signed_2_b (G : qz_G) (k2 : Int → Int → qz_H → Option qz_R) (jk2 : ∀ (l0 : Int) (l3 : Int) (h : qz_H), qz_J yd_Md_signed G bk_Md_signed_2 2 [qz_r true 12 l0, qz_u, qz_u, qz_j l3, qz_u] [] h 0 0 (k2 l0 l3 h)) (l0 : Int) (l3 : Int) (h : qz_H) : qz_J yd_Md_signed G bk_Md_signed_2 2 [qz_r true 12 l0, qz_u, qz_u, qz_j l3, qz_u] [] h 0 0 (fn_Md_signed_2_b k2 l0 l3 h) := by
  unfold fn_Md_signed_2_b bk_Md_signed_2; exact
    qz_lload_n rfl <|
    qz_ldc2 wc_Md_484 rfl <|
    qz_lcmp <|
    qz_if_gt rfl ca_Md_signed_18
      (qz_fgt [1, 0, 0, 1, 0] <| jb_Md_signed_18 G k2 jk2 l0 l3 h)
      (qz_lload_n rfl <|
        qz_ldc2 wc_Md_486 rfl <|
        qz_lcmp <|
        qz_if_ge rfl ca_Md_signed_40
          (qz_aload_n rfl <|
            qz_lload_n rfl <|
            qz_ldc2 wc_Md_479 rfl <|
            qz_land <|
            qz_l2i <|
            qz_invvV [qz_i (qz_w (qz_andJ l3 127))] rfl (cn_Md_add l0 (qz_w (qz_andJ l3 127)) h) mw_Md_add vw_Md_add ⟨_, rfl, rfl, by decide⟩ rfl rfl ln_Md_481 rfl fun _ h2 =>
            qz_return ⟨rfl, rfl⟩ rfl)
          (qz_fall rfl ca_Md_signed_18 <|
            qz_fgt [1, 0, 0, 1, 0] <| jb_Md_signed_18 G k2 jk2 l0 l3 h))
theorem jb_Md_signed_2 (G : qz_G) : ∀ (n : Nat) (l0 l3 : Int) (h : qz_H), qz_J yd_Md_signed G bk_Md_signed_2 2 [qz_r true 12 l0, qz_u, qz_u, qz_j l3, qz_u] [] h 0 0 (fn_Md_signed_2 n l0 l3 h)
  | 0, _, _, _ => qz_none
  | n + 1, l0, l3, h => jb_Md_signed_2_b G (fn_Md_signed_2 n) (jb_Md_signed_2 G n) l0 l3 h
set_option maxRecDepth 20000 in
theorem cn_Md_signed (l0 : Int) (l1 : Int) (h : qz_H) : qz_C yd_Md_signed [qz_r true 12 l0, qz_j l1] h (fn_Md_signed l0 l1 h) := by
  refine qz_con (is := bk_Md_signed_0) (ls := [qz_r true 12 l0, qz_j l1, qz_u, qz_u, qz_u]) mw_Md_signed.2.2.2 ca_Md_signed_0 rfl rfl rfl fun G => ?_
  unfold fn_Md_signed bk_Md_signed_0; exact
    qz_lload_n rfl <|
    qz_lstore_n (by decide) fun x1 =>
    qz_fall rfl ca_Md_signed_2 <|
    qz_fgt [1, 0, 0, 1, 0] <| jb_Md_signed_2 G qz_NF l0 x1 h
def fn_Md_typeByte_22 (s0 : Int) (h : qz_H) : Option qz_R :=
  some (s0, h)
set_option maxRecDepth 20000 in
def fn_Md_typeByte (l0 : Int) (h : qz_H) : Option qz_R :=
  if ¬ l0 = 1 then
    if ¬ l0 = 2 then
      fn_Md_typeByte_22 64 h
    else
      fn_Md_typeByte_22 126 h
  else
    fn_Md_typeByte_22 127 h
def bk_Md_typeByte_0 : List (Instr × Nat) := [(.iload_n 0, 1), (.iconst 1, 1), (.if_icmp .ne 8, 3), (.bipush 127, 2), (.goto 15, 3)]
def bk_Md_typeByte_10 : List (Instr × Nat) := [(.iload_n 0, 1), (.iconst 2, 1), (.if_icmp .ne 8, 3), (.bipush 126, 2), (.goto 5, 3)]
def bk_Md_typeByte_20 : List (Instr × Nat) := [(.bipush 64, 2)]
def bk_Md_typeByte_22 : List (Instr × Nat) := [(.ireturn, 1)]
theorem ca_Md_typeByte_0 : qz_ca yd_Md_typeByte.2.1 0 bk_Md_typeByte_0 := qz_cab_ok _ _ (by decide +kernel)
theorem ca_Md_typeByte_10 : qz_ca yd_Md_typeByte.2.1 10 bk_Md_typeByte_10 := qz_cab_ok _ _ (by decide +kernel)
theorem ca_Md_typeByte_20 : qz_ca yd_Md_typeByte.2.1 20 bk_Md_typeByte_20 := qz_cab_ok _ _ (by decide +kernel)
theorem ca_Md_typeByte_22 : qz_ca yd_Md_typeByte.2.1 22 bk_Md_typeByte_22 := qz_cab_ok _ _ (by decide +kernel)
set_option maxRecDepth 20000 in
theorem jb_Md_typeByte_22 (G : qz_G) (s0 : Int) (h : qz_H) : qz_J yd_Md_typeByte G bk_Md_typeByte_22 22 [qz_u] [qz_i s0] h 0 0 (fn_Md_typeByte_22 s0 h) := by
  unfold fn_Md_typeByte_22 bk_Md_typeByte_22; exact
    qz_ireturn ⟨rfl, rfl⟩ rfl
set_option maxRecDepth 20000 in
theorem cn_Md_typeByte (l0 : Int) (h : qz_H) : qz_C yd_Md_typeByte [qz_i l0] h (fn_Md_typeByte l0 h) := by
  refine qz_con (is := bk_Md_typeByte_0) (ls := [qz_i l0]) mw_Md_typeByte.2.2.2 ca_Md_typeByte_0 rfl rfl rfl fun G => ?_
  unfold fn_Md_typeByte bk_Md_typeByte_0; exact
    qz_iload_n rfl <|
    qz_iconst rfl <|
    qz_icmp_ne rfl ca_Md_typeByte_10
      (qz_iload_n rfl <|
        qz_iconst rfl <|
        qz_icmp_ne rfl ca_Md_typeByte_20
          (qz_bipush rfl <|
            qz_fall rfl ca_Md_typeByte_22 <|
            qz_fgt [0] <| jb_Md_typeByte_22 G 64 h)
          (qz_bipush rfl <|
            qz_goto rfl ca_Md_typeByte_22 <|
            qz_fgt [0] <| jb_Md_typeByte_22 G 126 h))
      (qz_bipush rfl <|
        qz_goto rfl ca_Md_typeByte_22 <|
        qz_fgt [0] <| jb_Md_typeByte_22 G 127 h)
