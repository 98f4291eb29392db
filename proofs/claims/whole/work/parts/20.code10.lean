def fn_Checker_beginFrame_90 (s0 : Int) (s1 : Int) (h : qz_H) : Option qz_R :=
  qz_ck ((s0 : Int) ≠ 0) <|
  qz_ck ((s1 : Int) = 0 ∨ (s1 : Int) = 1) <|
  qz_ck ((0 : Int) < s0) <|
  qz_bn (qz_up h s0 4 s1) fun h1 =>
  some (0, h1)
def fn_Checker_beginFrame_61 (l0 : Int) (l1 : Int) (l2 : Int) (s0 : Int) (s1 : Int) (h : qz_H) : Option qz_R :=
  qz_ck ((s0 : Int) ≠ 0) <|
  qz_bc (fn_Frame_begin s0 s1 l2 (h l0 4) h) fun _ h2 =>
  qz_ck ((h2 l0 1 : Int) ≠ 0) <|
  qz_ck ((0 : Int) ≤ h2 l0 5 ∧ h2 l0 5 < h2 (h2 l0 1) (-1)) <|
  if ¬ l1 = (-5) then
    fn_Checker_beginFrame_90 (h2 (h2 l0 1) (h2 l0 5)) 0 h2
  else
    fn_Checker_beginFrame_90 (h2 (h2 l0 1) (h2 l0 5)) 1 h2
def fn_Checker_beginFrame_13 (l0 : Int) (l1 : Int) (l2 : Int) (h : qz_H) : Option qz_R :=
  if qz_w ((h l0 5) + 1) < 12 then
    qz_ck ((0 : Int) < l0) <|
    qz_bn (qz_up h l0 5 (qz_w ((h l0 5) + 1))) fun h1 =>
    qz_ck ((h1 l0 1 : Int) ≠ 0) <|
    qz_ck ((0 : Int) ≤ h1 l0 5 ∧ h1 l0 5 < h1 (h1 l0 1) (-1)) <|
    if ¬ l1 = (-4) then
      fn_Checker_beginFrame_61 l0 l1 l2 (h1 (h1 l0 1) (h1 l0 5)) l2 h1
    else
      fn_Checker_beginFrame_61 l0 l1 l2 (h1 (h1 l0 1) (h1 l0 5)) 0 h1
  else
    qz_ck ((1 : Int) = 0 ∨ (1 : Int) = 1) <|
    qz_ck ((0 : Int) < l0) <|
    qz_bn (qz_up h l0 6 1) fun h2 =>
    some (0, h2)
set_option maxRecDepth 20000 in
def fn_Checker_beginFrame (l0 : Int) (l1 : Int) (l2 : Int) (h : qz_H) : Option qz_R :=
  if ¬ l1 = (-5) then
    fn_Checker_beginFrame_13 l0 l1 l2 h
  else
    qz_bc (fn_Checker_take l0 1 h) fun r1 h2 =>
    fn_Checker_beginFrame_13 l0 l1 l2 h2
def bk_Checker_beginFrame_0 : List (Instr × Nat) := [(.aload_n 1, 1), (.getstatic 151, 3), (.if_acmp .ne 9, 3), (.aload_n 0, 1), (.iconst 1, 1), (.invokevirtual 125, 3), (.pop, 1)]
def bk_Checker_beginFrame_13 : List (Instr × Nat) := [(.aload_n 0, 1), (.getfield 58, 3), (.iconst 1, 1), (.iadd, 1), (.bipush 12, 2), (.if_icmp .lt 9, 3), (.aload_n 0, 1), (.iconst 1, 1), (.putfield 36, 3), (.return_, 1)]
def bk_Checker_beginFrame_30 : List (Instr × Nat) := [(.aload_n 0, 1), (.dup, 1), (.getfield 58, 3), (.iconst 1, 1), (.iadd, 1), (.putfield 58, 3), (.aload_n 0, 1), (.getfield 17, 3), (.aload_n 0, 1), (.getfield 58, 3), (.aaload, 1), (.aload_n 1, 1), (.getstatic 155, 3), (.if_acmp .ne 7, 3), (.iconst 0, 1), (.goto 4, 3)]
def bk_Checker_beginFrame_60 : List (Instr × Nat) := [(.iload_n 2, 1)]
def bk_Checker_beginFrame_61 : List (Instr × Nat) := [(.iload_n 2, 1), (.aload_n 0, 1), (.getfield 55, 3), (.invokevirtual 66, 3), (.aload_n 0, 1), (.getfield 17, 3), (.aload_n 0, 1), (.getfield 58, 3), (.aaload, 1), (.aload_n 1, 1), (.getstatic 151, 3), (.if_acmp .ne 7, 3), (.iconst 1, 1), (.goto 4, 3)]
def bk_Checker_beginFrame_89 : List (Instr × Nat) := [(.iconst 0, 1)]
def bk_Checker_beginFrame_90 : List (Instr × Nat) := [(.putfield 158, 3), (.return_, 1)]
theorem ca_Checker_beginFrame_0 : qz_ca yd_Checker_beginFrame.2.1 0 bk_Checker_beginFrame_0 := qz_cab_ok _ _ (by decide +kernel)
theorem ca_Checker_beginFrame_13 : qz_ca yd_Checker_beginFrame.2.1 13 bk_Checker_beginFrame_13 := qz_cab_ok _ _ (by decide +kernel)
theorem ca_Checker_beginFrame_30 : qz_ca yd_Checker_beginFrame.2.1 30 bk_Checker_beginFrame_30 := qz_cab_ok _ _ (by decide +kernel)
theorem ca_Checker_beginFrame_60 : qz_ca yd_Checker_beginFrame.2.1 60 bk_Checker_beginFrame_60 := qz_cab_ok _ _ (by decide +kernel)
theorem ca_Checker_beginFrame_61 : qz_ca yd_Checker_beginFrame.2.1 61 bk_Checker_beginFrame_61 := qz_cab_ok _ _ (by decide +kernel)
theorem ca_Checker_beginFrame_89 : qz_ca yd_Checker_beginFrame.2.1 89 bk_Checker_beginFrame_89 := qz_cab_ok _ _ (by decide +kernel)
theorem ca_Checker_beginFrame_90 : qz_ca yd_Checker_beginFrame.2.1 90 bk_Checker_beginFrame_90 := qz_cab_ok _ _ (by decide +kernel)
set_option maxRecDepth 20000 in
theorem jb_Checker_beginFrame_90 (G : qz_G) (s0 : Int) (s1 : Int) (h : qz_H) : qz_J yd_Checker_beginFrame G bk_Checker_beginFrame_90 90 [qz_u, qz_u, qz_u] [qz_i s1, qz_r false 3 s0] h 0 0 (fn_Checker_beginFrame_90 s0 s1 h) := by
  unfold fn_Checker_beginFrame_90 bk_Checker_beginFrame_90; exact
    qz_nnd 1 rfl <|
    qz_putZ kw_3 fp_Checker_158_Checker_beginFrame rfl rfl fun h1 =>
    qz_return ⟨rfl, rfl⟩ rfl
set_option maxRecDepth 20000 in
theorem jb_Checker_beginFrame_61 (G : qz_G) (l0 : Int) (l1 : Int) (l2 : Int) (s0 : Int) (s1 : Int) (h : qz_H) : qz_J yd_Checker_beginFrame G bk_Checker_beginFrame_61 61 [qz_r true 1 l0, qz_r false 7 l1, qz_i l2] [qz_i s1, qz_r false 3 s0] h 0 0 (fn_Checker_beginFrame_61 l0 l1 l2 s0 s1 h) := by
  unfold fn_Checker_beginFrame_61 bk_Checker_beginFrame_61; exact
    qz_iload_n rfl <|
    qz_aload_n rfl <|
    qz_getI kg_1 fl_Checker_55 rfl rfl <|
    qz_nnd 3 rfl <|
    qz_invvV [qz_i s1, qz_i l2, qz_i (h l0 4)] rfl (cn_Frame_begin s0 s1 l2 (h l0 4) h) mw_Frame_begin vw_Frame_begin ⟨_, rfl, rfl, by decide⟩ rfl rfl ln_Checker_66 rfl fun _ h2 =>
    qz_aload_n rfl <|
    qz_getR (k1 := 48) kg_1 fl_Checker_17 rfl rfl <|
    qz_aload_n rfl <|
    qz_getI kg_1 fl_Checker_58 rfl rfl <|
    qz_nnd 1 rfl <|
    qz_aald (k0 := 48) (k1 := 3) rfl rfl rfl <|
    qz_aload_n rfl <|
    qz_getsR sz_Op_IF sl_Checker_151 rfl <|
    qz_acmp_ne rfl ca_Checker_beginFrame_89
      (qz_iconst rfl <|
        qz_fall rfl ca_Checker_beginFrame_90 <|
        qz_fgt [0, 0, 0] <| jb_Checker_beginFrame_90 G (h2 (h2 l0 1) (h2 l0 5)) 0 h2)
      (qz_iconst rfl <|
        qz_goto rfl ca_Checker_beginFrame_90 <|
        qz_fgt [0, 0, 0] <| jb_Checker_beginFrame_90 G (h2 (h2 l0 1) (h2 l0 5)) 1 h2)
set_option maxRecDepth 20000 in
theorem jb_Checker_beginFrame_13 (G : qz_G) (l0 : Int) (l1 : Int) (l2 : Int) (h : qz_H) : qz_J yd_Checker_beginFrame G bk_Checker_beginFrame_13 13 [qz_r true 1 l0, qz_r false 7 l1, qz_i l2] [] h 0 0 (fn_Checker_beginFrame_13 l0 l1 l2 h) := by
  unfold fn_Checker_beginFrame_13 bk_Checker_beginFrame_13; exact
    qz_aload_n rfl <|
    qz_getI kg_1 fl_Checker_58 rfl rfl <|
    qz_iconst rfl <|
    qz_iadd <|
    qz_bipush rfl <|
    qz_icmp_lt rfl ca_Checker_beginFrame_30
      (qz_aload_n rfl <|
        qz_dup rfl <|
        qz_getI kg_1 fl_Checker_58 rfl rfl <|
        qz_iconst rfl <|
        qz_iadd <|
        qz_putI kw_1 fp_Checker_58_Checker_beginFrame rfl rfl fun h1 =>
        qz_aload_n rfl <|
        qz_getR (k1 := 48) kg_1 fl_Checker_17 rfl rfl <|
        qz_aload_n rfl <|
        qz_getI kg_1 fl_Checker_58 rfl rfl <|
        qz_nnd 1 rfl <|
        qz_aald (k0 := 48) (k1 := 3) rfl rfl rfl <|
        qz_aload_n rfl <|
        qz_getsR sz_Op_LOOP sl_Checker_155 rfl <|
        qz_acmp_ne rfl ca_Checker_beginFrame_60
          (qz_iload_n rfl <|
            qz_fall rfl ca_Checker_beginFrame_61 <|
            qz_fgt [1, 1, 1] <| jb_Checker_beginFrame_61 G l0 l1 l2 (h1 (h1 l0 1) (h1 l0 5)) l2 h1)
          (qz_iconst rfl <|
            qz_goto rfl ca_Checker_beginFrame_61 <|
            qz_fgt [1, 1, 1] <| jb_Checker_beginFrame_61 G l0 l1 l2 (h1 (h1 l0 1) (h1 l0 5)) 0 h1))
      (qz_aload_n rfl <|
        qz_iconst rfl <|
        qz_putZ kw_1 fp_Checker_36_Checker_beginFrame rfl rfl fun h2 =>
        qz_return ⟨rfl, rfl⟩ rfl)
set_option maxRecDepth 20000 in
theorem cn_Checker_beginFrame (l0 : Int) (l1 : Int) (l2 : Int) (h : qz_H) : qz_C yd_Checker_beginFrame [qz_r true 1 l0, qz_r false 7 l1, qz_i l2] h (fn_Checker_beginFrame l0 l1 l2 h) := by
  refine qz_con (is := bk_Checker_beginFrame_0) (ls := [qz_r true 1 l0, qz_r false 7 l1, qz_i l2]) mw_Checker_beginFrame.2.2.2 ca_Checker_beginFrame_0 rfl rfl fun G => ?_
  unfold fn_Checker_beginFrame bk_Checker_beginFrame_0; exact
    qz_aload_n rfl <|
    qz_getsR sz_Op_IF sl_Checker_151 rfl <|
    qz_acmp_ne rfl ca_Checker_beginFrame_13
      (qz_fgt [1, 1, 1] <| jb_Checker_beginFrame_13 G l0 l1 l2 h)
      (qz_aload_n rfl <|
        qz_iconst rfl <|
        qz_invvI [qz_i 1] rfl (cn_Checker_take l0 1 h) mw_Checker_take vw_Checker_take ⟨_, rfl, rfl, by decide⟩ rfl rfl ln_Checker_125 rfl fun r1 h2 =>
        qz_pop rfl <|
        qz_fall rfl ca_Checker_beginFrame_13 <|
        qz_fgt [1, 1, 1] <| jb_Checker_beginFrame_13 G l0 l1 l2 h2)
def fn_Checker_takeResult_10 (h : qz_H) : Option qz_R :=
  some (0, h)
set_option maxRecDepth 20000 in
def fn_Checker_takeResult (l0 : Int) (l1 : Int) (h : qz_H) : Option qz_R :=
  if l1 = 0 then
    fn_Checker_takeResult_10 h
  else
    qz_bc (fn_Checker_take l0 l1 h) fun r1 h2 =>
    fn_Checker_takeResult_10 h2
def bk_Checker_takeResult_0 : List (Instr × Nat) := [(.iload_n 1, 1), (.ifCond .eq 9, 3), (.aload_n 0, 1), (.iload_n 1, 1), (.invokevirtual 125, 3), (.pop, 1)]
def bk_Checker_takeResult_10 : List (Instr × Nat) := [(.return_, 1)]
theorem ca_Checker_takeResult_0 : qz_ca yd_Checker_takeResult.2.1 0 bk_Checker_takeResult_0 := qz_cab_ok _ _ (by decide +kernel)
theorem ca_Checker_takeResult_10 : qz_ca yd_Checker_takeResult.2.1 10 bk_Checker_takeResult_10 := qz_cab_ok _ _ (by decide +kernel)
set_option maxRecDepth 20000 in
theorem jb_Checker_takeResult_10 (G : qz_G) (h : qz_H) : qz_J yd_Checker_takeResult G bk_Checker_takeResult_10 10 [qz_u, qz_u] [] h 0 0 (fn_Checker_takeResult_10 h) := by
  unfold fn_Checker_takeResult_10 bk_Checker_takeResult_10; exact
    qz_return ⟨rfl, rfl⟩ rfl
set_option maxRecDepth 20000 in
theorem cn_Checker_takeResult (l0 : Int) (l1 : Int) (h : qz_H) : qz_C yd_Checker_takeResult [qz_r true 1 l0, qz_i l1] h (fn_Checker_takeResult l0 l1 h) := by
  refine qz_con (is := bk_Checker_takeResult_0) (ls := [qz_r true 1 l0, qz_i l1]) mw_Checker_takeResult.2.2.2 ca_Checker_takeResult_0 rfl rfl fun G => ?_
  unfold fn_Checker_takeResult bk_Checker_takeResult_0; exact
    qz_iload_n rfl <|
    qz_if_eq rfl ca_Checker_takeResult_10
      (qz_fgt [0, 0] <| jb_Checker_takeResult_10 G h)
      (qz_aload_n rfl <|
        qz_iload_n rfl <|
        qz_invvI [qz_i l1] rfl (cn_Checker_take l0 l1 h) mw_Checker_take vw_Checker_take ⟨_, rfl, rfl, by decide⟩ rfl rfl ln_Checker_125 rfl fun r1 h2 =>
        qz_pop rfl <|
        qz_fall rfl ca_Checker_takeResult_10 <|
        qz_fgt [0, 0] <| jb_Checker_takeResult_10 G h2)
def fn_Checker_endFrame_40 (h : qz_H) : Option qz_R :=
  some (0, h)
set_option maxRecDepth 20000 in
def fn_Checker_endFrame (l0 : Int) (h : qz_H) : Option qz_R :=
  qz_ck ((h l0 1 : Int) ≠ 0) <|
  qz_ck ((0 : Int) ≤ h l0 5 ∧ h l0 5 < h (h l0 1) (-1)) <|
  qz_ck ((h (h l0 1) (h l0 5) : Int) ≠ 0) <|
  qz_bc (fn_Checker_takeResult l0 (h (h (h l0 1) (h l0 5)) 1) h) fun _ h2 =>
  qz_ck ((h2 l0 1 : Int) ≠ 0) <|
  qz_ck ((0 : Int) ≤ h2 l0 5 ∧ h2 l0 5 < h2 (h2 l0 1) (-1)) <|
  qz_ck ((h2 (h2 l0 1) (h2 l0 5) : Int) ≠ 0) <|
  if h2 l0 4 = h2 (h2 (h2 l0 1) (h2 l0 5)) 2 then
    fn_Checker_endFrame_40 h2
  else
    qz_ck ((1 : Int) = 0 ∨ (1 : Int) = 1) <|
    qz_ck ((0 : Int) < l0) <|
    qz_bn (qz_up h2 l0 6 1) fun h3 =>
    fn_Checker_endFrame_40 h3
def bk_Checker_endFrame_0 : List (Instr × Nat) := [(.aload_n 0, 1), (.aload_n 0, 1), (.getfield 17, 3), (.aload_n 0, 1), (.getfield 58, 3), (.aaload, 1), (.getfield 161, 3), (.invokevirtual 114, 3), (.aload_n 0, 1), (.getfield 55, 3), (.aload_n 0, 1), (.getfield 17, 3), (.aload_n 0, 1), (.getfield 58, 3), (.aaload, 1), (.getfield 162, 3), (.if_icmp .eq 8, 3), (.aload_n 0, 1), (.iconst 1, 1), (.putfield 36, 3)]
def bk_Checker_endFrame_40 : List (Instr × Nat) := [(.return_, 1)]
theorem ca_Checker_endFrame_0 : qz_ca yd_Checker_endFrame.2.1 0 bk_Checker_endFrame_0 := qz_cab_ok _ _ (by decide +kernel)
theorem ca_Checker_endFrame_40 : qz_ca yd_Checker_endFrame.2.1 40 bk_Checker_endFrame_40 := qz_cab_ok _ _ (by decide +kernel)
set_option maxRecDepth 20000 in
theorem jb_Checker_endFrame_40 (G : qz_G) (h : qz_H) : qz_J yd_Checker_endFrame G bk_Checker_endFrame_40 40 [qz_u] [] h 0 0 (fn_Checker_endFrame_40 h) := by
  unfold fn_Checker_endFrame_40 bk_Checker_endFrame_40; exact
    qz_return ⟨rfl, rfl⟩ rfl
set_option maxRecDepth 20000 in
theorem cn_Checker_endFrame (l0 : Int) (h : qz_H) : qz_C yd_Checker_endFrame [qz_r true 1 l0] h (fn_Checker_endFrame l0 h) := by
  refine qz_con (is := bk_Checker_endFrame_0) (ls := [qz_r true 1 l0]) mw_Checker_endFrame.2.2.2 ca_Checker_endFrame_0 rfl rfl fun G => ?_
  unfold fn_Checker_endFrame bk_Checker_endFrame_0; exact
    qz_aload_n rfl <|
    qz_aload_n rfl <|
    qz_getR (k1 := 48) kg_1 fl_Checker_17 rfl rfl <|
    qz_aload_n rfl <|
    qz_getI kg_1 fl_Checker_58 rfl rfl <|
    qz_nnd 1 rfl <|
    qz_aald (k0 := 48) (k1 := 3) rfl rfl rfl <|
    qz_nnd 0 rfl <|
    qz_getI kg_3 fl_Checker_161 rfl rfl <|
    qz_invvV [qz_i (h (h (h l0 1) (h l0 5)) 1)] rfl (cn_Checker_takeResult l0 (h (h (h l0 1) (h l0 5)) 1) h) mw_Checker_takeResult vw_Checker_takeResult ⟨_, rfl, rfl, by decide⟩ rfl rfl ln_Checker_114 rfl fun _ h2 =>
    qz_aload_n rfl <|
    qz_getI kg_1 fl_Checker_55 rfl rfl <|
    qz_aload_n rfl <|
    qz_getR (k1 := 48) kg_1 fl_Checker_17 rfl rfl <|
    qz_aload_n rfl <|
    qz_getI kg_1 fl_Checker_58 rfl rfl <|
    qz_nnd 1 rfl <|
    qz_aald (k0 := 48) (k1 := 3) rfl rfl rfl <|
    qz_nnd 0 rfl <|
    qz_getI kg_3 fl_Checker_162 rfl rfl <|
    qz_icmp_eq rfl ca_Checker_endFrame_40
      (qz_fgt [0] <| jb_Checker_endFrame_40 G h2)
      (qz_aload_n rfl <|
        qz_iconst rfl <|
        qz_putZ kw_1 fp_Checker_36_Checker_endFrame rfl rfl fun h3 =>
        qz_fall rfl ca_Checker_endFrame_40 <|
        qz_fgt [0] <| jb_Checker_endFrame_40 G h3)
set_option maxRecDepth 20000 in
def fn_Checker_restartFrame (l0 : Int) (h : qz_H) : Option qz_R :=
  qz_ck ((h l0 1 : Int) ≠ 0) <|
  qz_ck ((0 : Int) ≤ h l0 5 ∧ h l0 5 < h (h l0 1) (-1)) <|
  qz_bn (h (h l0 1) (h l0 5) : Int) fun x1 =>
  qz_ck ((x1 : Int) ≠ 0) <|
  qz_ck ((0 : Int) < l0) <|
  qz_bn (qz_up h l0 4 (h x1 2)) fun h2 =>
  qz_ck ((x1 : Int) ≠ 0) <|
  qz_ck ((0 : Int) = 0 ∨ (0 : Int) = 1) <|
  qz_ck ((0 : Int) < x1) <|
  qz_bn (qz_up h2 x1 3 0) fun h3 =>
  qz_ck ((x1 : Int) ≠ 0) <|
  qz_ck ((0 : Int) = 0 ∨ (0 : Int) = 1) <|
  qz_ck ((0 : Int) < x1) <|
  qz_bn (qz_up h3 x1 4 0) fun h4 =>
  some (0, h4)
def bk_Checker_restartFrame_0 : List (Instr × Nat) := [(.aload_n 0, 1), (.getfield 17, 3), (.aload_n 0, 1), (.getfield 58, 3), (.aaload, 1), (.astore_n 1, 1), (.aload_n 0, 1), (.aload_n 1, 1), (.getfield 162, 3), (.putfield 55, 3), (.aload_n 1, 1), (.iconst 0, 1), (.putfield 163, 3), (.aload_n 1, 1), (.iconst 0, 1), (.putfield 158, 3), (.return_, 1)]
theorem ca_Checker_restartFrame_0 : qz_ca yd_Checker_restartFrame.2.1 0 bk_Checker_restartFrame_0 := qz_cab_ok _ _ (by decide +kernel)
set_option maxRecDepth 20000 in
theorem cn_Checker_restartFrame (l0 : Int) (h : qz_H) : qz_C yd_Checker_restartFrame [qz_r true 1 l0] h (fn_Checker_restartFrame l0 h) := by
  refine qz_con (is := bk_Checker_restartFrame_0) (ls := [qz_r true 1 l0, qz_u]) mw_Checker_restartFrame.2.2.2 ca_Checker_restartFrame_0 rfl rfl fun G => ?_
  unfold fn_Checker_restartFrame bk_Checker_restartFrame_0; exact
    qz_aload_n rfl <|
    qz_getR (k1 := 48) kg_1 fl_Checker_17 rfl rfl <|
    qz_aload_n rfl <|
    qz_getI kg_1 fl_Checker_58 rfl rfl <|
    qz_nnd 1 rfl <|
    qz_aald (k0 := 48) (k1 := 3) rfl rfl rfl <|
    qz_astore_n (by decide) fun x1 =>
    qz_aload_n rfl <|
    qz_aload_n rfl <|
    qz_nnd 0 rfl <|
    qz_getI kg_3 fl_Checker_162 rfl rfl <|
    qz_putI kw_1 fp_Checker_55_Checker_restartFrame rfl rfl fun h2 =>
    qz_aload_n rfl <|
    qz_iconst rfl <|
    qz_nnd 1 rfl <|
    qz_putZ kw_3 fp_Checker_163_Checker_restartFrame rfl rfl fun h3 =>
    qz_aload_n rfl <|
    qz_iconst rfl <|
    qz_nnd 1 rfl <|
    qz_putZ kw_3 fp_Checker_158_Checker_restartFrame rfl rfl fun h4 =>
    qz_return ⟨rfl, rfl⟩ rfl
def fn_Checker_put_40 (h : qz_H) : Option qz_R :=
  some (0, h)
set_option maxRecDepth 20000 in
def fn_Checker_put (l0 : Int) (l1 : Int) (h : qz_H) : Option qz_R :=
  if l1 = 0 then
    fn_Checker_put_40 h
  else
    if h l0 4 < 0 then
      fn_Checker_put_40 h
    else
      if 64 ≤ h l0 4 then
        fn_Checker_put_40 h
      else
        qz_ck ((h l0 0 : Int) ≠ 0) <|
        qz_ck (0 < h l0 0 ∧ (0 : Int) ≤ h l0 4 ∧ h l0 4 < h (h l0 0) (-1)) <|
        qz_bn (qz_up h (h l0 0) (h l0 4) l1) fun h1 =>
        qz_ck ((0 : Int) < l0) <|
        qz_bn (qz_up h1 l0 4 (qz_w ((h1 l0 4) + 1))) fun h2 =>
        fn_Checker_put_40 h2
def bk_Checker_put_0 : List (Instr × Nat) := [(.iload_n 1, 1), (.ifCond .eq 39, 3), (.aload_n 0, 1), (.getfield 55, 3), (.ifCond .lt 32, 3), (.aload_n 0, 1), (.getfield 55, 3), (.bipush 64, 2), (.if_icmp .ge 23, 3), (.aload_n 0, 1), (.getfield 9, 3), (.aload_n 0, 1), (.getfield 55, 3), (.iload_n 1, 1), (.iastore, 1), (.aload_n 0, 1), (.dup, 1), (.getfield 55, 3), (.iconst 1, 1), (.iadd, 1), (.putfield 55, 3)]
def bk_Checker_put_40 : List (Instr × Nat) := [(.return_, 1)]
theorem ca_Checker_put_0 : qz_ca yd_Checker_put.2.1 0 bk_Checker_put_0 := qz_cab_ok _ _ (by decide +kernel)
theorem ca_Checker_put_40 : qz_ca yd_Checker_put.2.1 40 bk_Checker_put_40 := qz_cab_ok _ _ (by decide +kernel)
set_option maxRecDepth 20000 in
theorem jb_Checker_put_40 (G : qz_G) (h : qz_H) : qz_J yd_Checker_put G bk_Checker_put_40 40 [qz_u, qz_u] [] h 0 0 (fn_Checker_put_40 h) := by
  unfold fn_Checker_put_40 bk_Checker_put_40; exact
    qz_return ⟨rfl, rfl⟩ rfl
set_option maxRecDepth 20000 in
theorem cn_Checker_put (l0 : Int) (l1 : Int) (h : qz_H) : qz_C yd_Checker_put [qz_r true 1 l0, qz_i l1] h (fn_Checker_put l0 l1 h) := by
  refine qz_con (is := bk_Checker_put_0) (ls := [qz_r true 1 l0, qz_i l1]) mw_Checker_put.2.2.2 ca_Checker_put_0 rfl rfl fun G => ?_
  unfold fn_Checker_put bk_Checker_put_0; exact
    qz_iload_n rfl <|
    qz_if_eq rfl ca_Checker_put_40
      (qz_fgt [0, 0] <| jb_Checker_put_40 G h)
      (qz_aload_n rfl <|
        qz_getI kg_1 fl_Checker_55 rfl rfl <|
        qz_if_lt rfl ca_Checker_put_40
          (qz_fgt [0, 0] <| jb_Checker_put_40 G h)
          (qz_aload_n rfl <|
            qz_getI kg_1 fl_Checker_55 rfl rfl <|
            qz_bipush rfl <|
            qz_icmp_ge rfl ca_Checker_put_40
              (qz_fgt [0, 0] <| jb_Checker_put_40 G h)
              (qz_aload_n rfl <|
                qz_getR (k1 := 40) kg_1 fl_Checker_9 rfl rfl <|
                qz_aload_n rfl <|
                qz_getI kg_1 fl_Checker_55 rfl rfl <|
                qz_iload_n rfl <|
                qz_nnd 2 rfl <|
                qz_iast rfl rfl rfl fun h1 =>
                qz_aload_n rfl <|
                qz_dup rfl <|
                qz_getI kg_1 fl_Checker_55 rfl rfl <|
                qz_iconst rfl <|
                qz_iadd <|
                qz_putI kw_1 fp_Checker_55_Checker_put rfl rfl fun h2 =>
                qz_fall rfl ca_Checker_put_40 <|
                qz_fgt [0, 0] <| jb_Checker_put_40 G h2)))
def fn_Checker_leaveFrame_33 (l0 : Int) (l1 : Int) (h : qz_H) : Option qz_R :=
  qz_ck ((0 : Int) < l0) <|
  qz_bn (qz_up h l0 5 (qz_max 0 (qz_w ((h l0 5) - 1)))) fun h1 =>
  qz_ck ((l1 : Int) ≠ 0) <|
  qz_bc (fn_Checker_put l0 (h1 l1 1) h1) fun _ h3 =>
  some (0, h3)
set_option maxRecDepth 20000 in
def fn_Checker_leaveFrame (l0 : Int) (h : qz_H) : Option qz_R :=
  qz_ck ((h l0 1 : Int) ≠ 0) <|
  qz_ck ((0 : Int) ≤ h l0 5 ∧ h l0 5 < h (h l0 1) (-1)) <|
  qz_bn (h (h l0 1) (h l0 5) : Int) fun x1 =>
  qz_bc (fn_Checker_endFrame l0 h) fun _ h3 =>
  qz_ck ((x1 : Int) ≠ 0) <|
  if h3 x1 4 = 0 then
    fn_Checker_leaveFrame_33 l0 x1 h3
  else
    qz_ck ((x1 : Int) ≠ 0) <|
    if h3 x1 1 = 0 then
      fn_Checker_leaveFrame_33 l0 x1 h3
    else
      qz_ck ((1 : Int) = 0 ∨ (1 : Int) = 1) <|
      qz_ck ((0 : Int) < l0) <|
      qz_bn (qz_up h3 l0 6 1) fun h4 =>
      fn_Checker_leaveFrame_33 l0 x1 h4
def bk_Checker_leaveFrame_0 : List (Instr × Nat) := [(.aload_n 0, 1), (.getfield 17, 3), (.aload_n 0, 1), (.getfield 58, 3), (.aaload, 1), (.astore_n 1, 1), (.aload_n 0, 1), (.invokevirtual 88, 3), (.aload_n 1, 1), (.getfield 158, 3), (.ifCond .eq 15, 3), (.aload_n 1, 1), (.getfield 161, 3), (.ifCond .eq 8, 3), (.aload_n 0, 1), (.iconst 1, 1), (.putfield 36, 3)]
def bk_Checker_leaveFrame_33 : List (Instr × Nat) := [(.aload_n 0, 1), (.iconst 0, 1), (.aload_n 0, 1), (.getfield 58, 3), (.iconst 1, 1), (.isub, 1), (.invokestatic 166, 3), (.putfield 58, 3), (.aload_n 0, 1), (.aload_n 1, 1), (.getfield 161, 3), (.invokevirtual 148, 3), (.return_, 1)]
theorem ca_Checker_leaveFrame_0 : qz_ca yd_Checker_leaveFrame.2.1 0 bk_Checker_leaveFrame_0 := qz_cab_ok _ _ (by decide +kernel)
theorem ca_Checker_leaveFrame_33 : qz_ca yd_Checker_leaveFrame.2.1 33 bk_Checker_leaveFrame_33 := qz_cab_ok _ _ (by decide +kernel)
set_option maxRecDepth 20000 in
theorem jb_Checker_leaveFrame_33 (G : qz_G) (l0 : Int) (l1 : Int) (h : qz_H) : qz_J yd_Checker_leaveFrame G bk_Checker_leaveFrame_33 33 [qz_r true 1 l0, qz_r false 3 l1] [] h 0 0 (fn_Checker_leaveFrame_33 l0 l1 h) := by
  unfold fn_Checker_leaveFrame_33 bk_Checker_leaveFrame_33; exact
    qz_aload_n rfl <|
    qz_iconst rfl <|
    qz_aload_n rfl <|
    qz_getI kg_1 fl_Checker_58 rfl rfl <|
    qz_iconst rfl <|
    qz_isub <|
    qz_mmax ma_Checker_166 rfl <|
    qz_putI kw_1 fp_Checker_58_Checker_leaveFrame rfl rfl fun h1 =>
    qz_aload_n rfl <|
    qz_aload_n rfl <|
    qz_nnd 0 rfl <|
    qz_getI kg_3 fl_Checker_161 rfl rfl <|
    qz_invvV [qz_i (h1 l1 1)] rfl (cn_Checker_put l0 (h1 l1 1) h1) mw_Checker_put vw_Checker_put ⟨_, rfl, rfl, by decide⟩ rfl rfl ln_Checker_148 rfl fun _ h3 =>
    qz_return ⟨rfl, rfl⟩ rfl
set_option maxRecDepth 20000 in
theorem cn_Checker_leaveFrame (l0 : Int) (h : qz_H) : qz_C yd_Checker_leaveFrame [qz_r true 1 l0] h (fn_Checker_leaveFrame l0 h) := by
  refine qz_con (is := bk_Checker_leaveFrame_0) (ls := [qz_r true 1 l0, qz_u]) mw_Checker_leaveFrame.2.2.2 ca_Checker_leaveFrame_0 rfl rfl fun G => ?_
  unfold fn_Checker_leaveFrame bk_Checker_leaveFrame_0; exact
    qz_aload_n rfl <|
    qz_getR (k1 := 48) kg_1 fl_Checker_17 rfl rfl <|
    qz_aload_n rfl <|
    qz_getI kg_1 fl_Checker_58 rfl rfl <|
    qz_nnd 1 rfl <|
    qz_aald (k0 := 48) (k1 := 3) rfl rfl rfl <|
    qz_astore_n (by decide) fun x1 =>
    qz_aload_n rfl <|
    qz_invvV [] rfl (cn_Checker_endFrame l0 h) mw_Checker_endFrame vw_Checker_endFrame ⟨_, rfl, rfl, by decide⟩ rfl rfl ln_Checker_88 rfl fun _ h3 =>
    qz_aload_n rfl <|
    qz_nnd 0 rfl <|
    qz_getI kg_3 fl_Checker_158 rfl rfl <|
    qz_if_eq rfl ca_Checker_leaveFrame_33
      (qz_fgt [1, 1] <| jb_Checker_leaveFrame_33 G l0 x1 h3)
      (qz_aload_n rfl <|
        qz_nnd 0 rfl <|
        qz_getI kg_3 fl_Checker_161 rfl rfl <|
        qz_if_eq rfl ca_Checker_leaveFrame_33
          (qz_fgt [1, 1] <| jb_Checker_leaveFrame_33 G l0 x1 h3)
          (qz_aload_n rfl <|
            qz_iconst rfl <|
            qz_putZ kw_1 fp_Checker_36_Checker_leaveFrame rfl rfl fun h4 =>
            qz_fall rfl ca_Checker_leaveFrame_33 <|
            qz_fgt [1, 1] <| jb_Checker_leaveFrame_33 G l0 x1 h4))
set_option maxRecDepth 20000 in
def fn_Checker_makeUnreachable (l0 : Int) (h : qz_H) : Option qz_R :=
  qz_ck ((h l0 1 : Int) ≠ 0) <|
  qz_ck ((0 : Int) ≤ h l0 5 ∧ h l0 5 < h (h l0 1) (-1)) <|
  qz_ck ((h (h l0 1) (h l0 5) : Int) ≠ 0) <|
  qz_ck ((0 : Int) < l0) <|
  qz_bn (qz_up h l0 4 (h (h (h l0 1) (h l0 5)) 2)) fun h1 =>
  qz_ck ((h1 l0 1 : Int) ≠ 0) <|
  qz_ck ((0 : Int) ≤ h1 l0 5 ∧ h1 l0 5 < h1 (h1 l0 1) (-1)) <|
  qz_ck ((h1 (h1 l0 1) (h1 l0 5) : Int) ≠ 0) <|
  qz_ck ((1 : Int) = 0 ∨ (1 : Int) = 1) <|
  qz_ck ((0 : Int) < h1 (h1 l0 1) (h1 l0 5)) <|
  qz_bn (qz_up h1 (h1 (h1 l0 1) (h1 l0 5)) 3 1) fun h2 =>
  some (0, h2)
def bk_Checker_makeUnreachable_0 : List (Instr × Nat) := [(.aload_n 0, 1), (.aload_n 0, 1), (.getfield 17, 3), (.aload_n 0, 1), (.getfield 58, 3), (.aaload, 1), (.getfield 162, 3), (.putfield 55, 3), (.aload_n 0, 1), (.getfield 17, 3), (.aload_n 0, 1), (.getfield 58, 3), (.aaload, 1), (.iconst 1, 1), (.putfield 163, 3), (.return_, 1)]
theorem ca_Checker_makeUnreachable_0 : qz_ca yd_Checker_makeUnreachable.2.1 0 bk_Checker_makeUnreachable_0 := qz_cab_ok _ _ (by decide +kernel)
set_option maxRecDepth 20000 in
theorem cn_Checker_makeUnreachable (l0 : Int) (h : qz_H) : qz_C yd_Checker_makeUnreachable [qz_r true 1 l0] h (fn_Checker_makeUnreachable l0 h) := by
  refine qz_con (is := bk_Checker_makeUnreachable_0) (ls := [qz_r true 1 l0]) mw_Checker_makeUnreachable.2.2.2 ca_Checker_makeUnreachable_0 rfl rfl fun G => ?_
  unfold fn_Checker_makeUnreachable bk_Checker_makeUnreachable_0; exact
    qz_aload_n rfl <|
    qz_aload_n rfl <|
    qz_getR (k1 := 48) kg_1 fl_Checker_17 rfl rfl <|
    qz_aload_n rfl <|
    qz_getI kg_1 fl_Checker_58 rfl rfl <|
    qz_nnd 1 rfl <|
    qz_aald (k0 := 48) (k1 := 3) rfl rfl rfl <|
    qz_nnd 0 rfl <|
    qz_getI kg_3 fl_Checker_162 rfl rfl <|
    qz_putI kw_1 fp_Checker_55_Checker_makeUnreachable rfl rfl fun h1 =>
    qz_aload_n rfl <|
    qz_getR (k1 := 48) kg_1 fl_Checker_17 rfl rfl <|
    qz_aload_n rfl <|
    qz_getI kg_1 fl_Checker_58 rfl rfl <|
    qz_nnd 1 rfl <|
    qz_aald (k0 := 48) (k1 := 3) rfl rfl rfl <|
    qz_iconst rfl <|
    qz_nnd 1 rfl <|
    qz_putZ kw_3 fp_Checker_163_Checker_makeUnreachable rfl rfl fun h2 =>
    qz_return ⟨rfl, rfl⟩ rfl
def fn_Checker_checkBranch_29 (l0 : Int) (h : qz_H) : Option qz_R :=
  qz_ck ((1 : Int) = 0 ∨ (1 : Int) = 1) <|
  qz_ck ((0 : Int) < l0) <|
  qz_bn (qz_up h l0 6 1) fun h1 =>
  some (0, h1)
def fn_Checker_checkBranch_78 (h : qz_H) : Option qz_R :=
  some (0, h)
def fn_Checker_checkBranch_13 (l0 : Int) (l1 : Int) (l2 : Int) (h : qz_H) : Option qz_R :=
  if qz_cmp l2 0 < 0 then
    fn_Checker_checkBranch_29 l0 h
  else
    if qz_cmp l2 (h l0 5) ≤ 0 then
      qz_ck ((h l0 1 : Int) ≠ 0) <|
      qz_ck ((0 : Int) ≤ qz_w ((h l0 5) - (qz_w l2)) ∧ qz_w ((h l0 5) - (qz_w l2)) < h (h l0 1) (-1)) <|
      qz_ck ((h (h l0 1) (qz_w ((h l0 5) - (qz_w l2))) : Int) ≠ 0) <|
      qz_bn (h (h (h l0 1) (qz_w ((h l0 5) - (qz_w l2)))) 0 : Int) fun x1 =>
      qz_bc (fn_Checker_takeResult l0 x1 h) fun _ h3 =>
      if ¬ l1 = (-9) then
        qz_bc (fn_Checker_makeUnreachable l0 h3) fun _ h5 =>
        fn_Checker_checkBranch_78 h5
      else
        qz_bc (fn_Checker_put l0 x1 h3) fun _ h7 =>
        fn_Checker_checkBranch_78 h7
    else
      fn_Checker_checkBranch_29 l0 h
set_option maxRecDepth 20000 in
def fn_Checker_checkBranch (l0 : Int) (l1 : Int) (l2 : Int) (h : qz_H) : Option qz_R :=
  if ¬ l1 = (-9) then
    fn_Checker_checkBranch_13 l0 l1 l2 h
  else
    qz_bc (fn_Checker_take l0 1 h) fun r1 h2 =>
    fn_Checker_checkBranch_13 l0 l1 l2 h2
def bk_Checker_checkBranch_0 : List (Instr × Nat) := [(.aload_n 1, 1), (.getstatic 172, 3), (.if_acmp .ne 9, 3), (.aload_n 0, 1), (.iconst 1, 1), (.invokevirtual 125, 3), (.pop, 1)]
def bk_Checker_checkBranch_13 : List (Instr × Nat) := [(.lload_n 2, 1), (.lconst 0, 1), (.lcmp, 1), (.ifCond .lt 13, 3), (.lload_n 2, 1), (.aload_n 0, 1), (.getfield 58, 3), (.i2l, 1), (.lcmp, 1), (.ifCond .le 9, 3)]
def bk_Checker_checkBranch_29 : List (Instr × Nat) := [(.aload_n 0, 1), (.iconst 1, 1), (.putfield 36, 3), (.return_, 1)]
def bk_Checker_checkBranch_35 : List (Instr × Nat) := [(.aload_n 0, 1), (.getfield 17, 3), (.aload_n 0, 1), (.getfield 58, 3), (.lload_n 2, 1), (.l2i, 1), (.isub, 1), (.aaload, 1), (.getfield 175, 3), (.istore 4, 2), (.aload_n 0, 1), (.iload 4, 2), (.invokevirtual 114, 3), (.aload_n 1, 1), (.getstatic 172, 3), (.if_acmp .ne 12, 3), (.aload_n 0, 1), (.iload 4, 2), (.invokevirtual 148, 3), (.goto 7, 3)]
def bk_Checker_checkBranch_74 : List (Instr × Nat) := [(.aload_n 0, 1), (.invokevirtual 118, 3)]
def bk_Checker_checkBranch_78 : List (Instr × Nat) := [(.return_, 1)]
theorem ca_Checker_checkBranch_0 : qz_ca yd_Checker_checkBranch.2.1 0 bk_Checker_checkBranch_0 := qz_cab_ok _ _ (by decide +kernel)
theorem ca_Checker_checkBranch_13 : qz_ca yd_Checker_checkBranch.2.1 13 bk_Checker_checkBranch_13 := qz_cab_ok _ _ (by decide +kernel)
theorem ca_Checker_checkBranch_29 : qz_ca yd_Checker_checkBranch.2.1 29 bk_Checker_checkBranch_29 := qz_cab_ok _ _ (by decide +kernel)
theorem ca_Checker_checkBranch_35 : qz_ca yd_Checker_checkBranch.2.1 35 bk_Checker_checkBranch_35 := qz_cab_ok _ _ (by decide +kernel)
theorem ca_Checker_checkBranch_74 : qz_ca yd_Checker_checkBranch.2.1 74 bk_Checker_checkBranch_74 := qz_cab_ok _ _ (by decide +kernel)
theorem ca_Checker_checkBranch_78 : qz_ca yd_Checker_checkBranch.2.1 78 bk_Checker_checkBranch_78 := qz_cab_ok _ _ (by decide +kernel)
set_option maxRecDepth 20000 in
theorem jb_Checker_checkBranch_29 (G : qz_G) (l0 : Int) (h : qz_H) : qz_J yd_Checker_checkBranch G bk_Checker_checkBranch_29 29 [qz_r true 1 l0, qz_u, qz_u, qz_u, qz_u] [] h 0 0 (fn_Checker_checkBranch_29 l0 h) := by
  unfold fn_Checker_checkBranch_29 bk_Checker_checkBranch_29; exact
    qz_aload_n rfl <|
    qz_iconst rfl <|
    qz_putZ kw_1 fp_Checker_36_Checker_checkBranch rfl rfl fun h1 =>
    qz_return ⟨rfl, rfl⟩ rfl
set_option maxRecDepth 20000 in
theorem jb_Checker_checkBranch_78 (G : qz_G) (h : qz_H) : qz_J yd_Checker_checkBranch G bk_Checker_checkBranch_78 78 [qz_u, qz_u, qz_u, qz_u, qz_u] [] h 0 0 (fn_Checker_checkBranch_78 h) := by
  unfold fn_Checker_checkBranch_78 bk_Checker_checkBranch_78; exact
    qz_return ⟨rfl, rfl⟩ rfl
set_option maxRecDepth 20000 in
theorem jb_Checker_checkBranch_13 (G : qz_G) (l0 : Int) (l1 : Int) (l2 : Int) (h : qz_H) : qz_J yd_Checker_checkBranch G bk_Checker_checkBranch_13 13 [qz_r true 1 l0, qz_r false 7 l1, qz_j l2, qz_u, qz_u] [] h 0 0 (fn_Checker_checkBranch_13 l0 l1 l2 h) := by
  unfold fn_Checker_checkBranch_13 bk_Checker_checkBranch_13; exact
    qz_lload_n rfl <|
    qz_lconst rfl <|
    qz_lcmp <|
    qz_if_lt rfl ca_Checker_checkBranch_29
      (qz_fgt [1, 0, 0, 0, 0] <| jb_Checker_checkBranch_29 G l0 h)
      (qz_lload_n rfl <|
        qz_aload_n rfl <|
        qz_getI kg_1 fl_Checker_58 rfl rfl <|
        qz_i2l <|
        qz_lcmp <|
        qz_if_le rfl ca_Checker_checkBranch_35
          (qz_aload_n rfl <|
            qz_getR (k1 := 48) kg_1 fl_Checker_17 rfl rfl <|
            qz_aload_n rfl <|
            qz_getI kg_1 fl_Checker_58 rfl rfl <|
            qz_lload_n rfl <|
            qz_l2i <|
            qz_isub <|
            qz_nnd 1 rfl <|
            qz_aald (k0 := 48) (k1 := 3) rfl rfl rfl <|
            qz_nnd 0 rfl <|
            qz_getI kg_3 fl_Checker_175 rfl rfl <|
            qz_istore (by decide) fun x1 =>
            qz_aload_n rfl <|
            qz_iload rfl <|
            qz_invvV [qz_i x1] rfl (cn_Checker_takeResult l0 x1 h) mw_Checker_takeResult vw_Checker_takeResult ⟨_, rfl, rfl, by decide⟩ rfl rfl ln_Checker_114 rfl fun _ h3 =>
            qz_aload_n rfl <|
            qz_getsR sz_Op_BR_IF sl_Checker_172 rfl <|
            qz_acmp_ne rfl ca_Checker_checkBranch_74
              (qz_aload_n rfl <|
                qz_invvV [] rfl (cn_Checker_makeUnreachable l0 h3) mw_Checker_makeUnreachable vw_Checker_makeUnreachable ⟨_, rfl, rfl, by decide⟩ rfl rfl ln_Checker_118 rfl fun _ h5 =>
                qz_fall rfl ca_Checker_checkBranch_78 <|
                qz_fgt [0, 0, 0, 0, 0] <| jb_Checker_checkBranch_78 G h5)
              (qz_aload_n rfl <|
                qz_iload rfl <|
                qz_invvV [qz_i x1] rfl (cn_Checker_put l0 x1 h3) mw_Checker_put vw_Checker_put ⟨_, rfl, rfl, by decide⟩ rfl rfl ln_Checker_148 rfl fun _ h7 =>
                qz_goto rfl ca_Checker_checkBranch_78 <|
                qz_fgt [0, 0, 0, 0, 0] <| jb_Checker_checkBranch_78 G h7))
          (qz_fall rfl ca_Checker_checkBranch_29 <|
            qz_fgt [1, 0, 0, 0, 0] <| jb_Checker_checkBranch_29 G l0 h))
set_option maxRecDepth 20000 in
theorem cn_Checker_checkBranch (l0 : Int) (l1 : Int) (l2 : Int) (h : qz_H) : qz_C yd_Checker_checkBranch [qz_r true 1 l0, qz_r false 7 l1, qz_j l2] h (fn_Checker_checkBranch l0 l1 l2 h) := by
  refine qz_con (is := bk_Checker_checkBranch_0) (ls := [qz_r true 1 l0, qz_r false 7 l1, qz_j l2, qz_u, qz_u]) mw_Checker_checkBranch.2.2.2 ca_Checker_checkBranch_0 rfl rfl fun G => ?_
  unfold fn_Checker_checkBranch bk_Checker_checkBranch_0; exact
    qz_aload_n rfl <|
    qz_getsR sz_Op_BR_IF sl_Checker_172 rfl <|
    qz_acmp_ne rfl ca_Checker_checkBranch_13
      (qz_fgt [1, 1, 1, 0, 0] <| jb_Checker_checkBranch_13 G l0 l1 l2 h)
      (qz_aload_n rfl <|
        qz_iconst rfl <|
        qz_invvI [qz_i 1] rfl (cn_Checker_take l0 1 h) mw_Checker_take vw_Checker_take ⟨_, rfl, rfl, by decide⟩ rfl rfl ln_Checker_125 rfl fun r1 h2 =>
        qz_pop rfl <|
        qz_fall rfl ca_Checker_checkBranch_13 <|
        qz_fgt [1, 1, 1, 0, 0] <| jb_Checker_checkBranch_13 G l0 l1 l2 h2)
def fn_Checker_checkCall_41_b (k41 : Int → Int → Int → qz_H → Option qz_R) (l0 : Int) (l3 : Int) (l4 : Int) (h : qz_H) : Option qz_R :=
  if l4 < 0 then
    qz_ck ((l3 : Int) ≠ 0) <|
    qz_bc (fn_Checker_put l0 (h l3 3) h) fun _ h2 =>
    some (0, h2)
  else
    qz_ck ((l3 : Int) ≠ 0) <|
    qz_ck ((h l3 0 : Int) ≠ 0) <|
    qz_ck ((0 : Int) ≤ l4 ∧ l4 < h (h l3 0) (-1)) <|
    qz_bc (fn_Checker_take l0 (h (h l3 0) l4) h) fun r3 h4 =>
    qz_bn (qz_w (l4 + (-1))) fun x5 =>
    k41 l0 l3 x5 h4
def fn_Checker_checkCall_41 : Nat → Int → Int → Int → qz_H → Option qz_R
  | 0, _, _, _, _ => none
  | n + 1, l0, l3, l4, h => fn_Checker_checkCall_41_b (fn_Checker_checkCall_41 n) l0 l3 l4 h
set_option maxRecDepth 20000 in
def fn_Checker_checkCall (l0 : Int) (l1 : Int) (h : qz_H) : Option qz_R :=
  qz_ck ((h l0 2 : Int) ≠ 0) <|
  qz_bc (fn_Module_hasFunction (h l0 2) l1 h) fun r1 h2 =>
  if ¬ r1 = 0 then
    qz_ck ((h2 l0 2 : Int) ≠ 0) <|
    qz_ck ((h2 (h2 l0 2) 0 : Int) ≠ 0) <|
    qz_ck ((0 : Int) ≤ qz_w l1 ∧ qz_w l1 < h2 (h2 (h2 l0 2) 0) (-1)) <|
    qz_bn (h2 (h2 (h2 l0 2) 0) (qz_w l1) : Int) fun x3 =>
    qz_ck ((x3 : Int) ≠ 0) <|
    qz_bn (qz_w ((qz_min (h2 x3 1) 6) - 1) : Int) fun x4 =>
    fn_Checker_checkCall_41 qz_NF l0 x3 x4 h2
  else
    qz_ck ((1 : Int) = 0 ∨ (1 : Int) = 1) <|
    qz_ck ((0 : Int) < l0) <|
    qz_bn (qz_up h2 l0 6 1) fun h5 =>
    some (0, h5)
def bk_Checker_checkCall_0 : List (Instr × Nat) := [(.aload_n 0, 1), (.getfield 21, 3), (.lload_n 1, 1), (.invokevirtual 178, 3), (.ifCond .ne 9, 3), (.aload_n 0, 1), (.iconst 1, 1), (.putfield 36, 3), (.return_, 1)]
def bk_Checker_checkCall_17 : List (Instr × Nat) := [(.aload_n 0, 1), (.getfield 21, 3), (.getfield 44, 3), (.lload_n 1, 1), (.l2i, 1), (.aaload, 1), (.astore_n 3, 1), (.aload_n 3, 1), (.getfield 182, 3), (.bipush 6, 2), (.invokestatic 185, 3), (.iconst 1, 1), (.isub, 1), (.istore 4, 2)]
def bk_Checker_checkCall_41 : List (Instr × Nat) := [(.iload 4, 2), (.ifCond .lt 21, 3), (.aload_n 0, 1), (.aload_n 3, 1), (.getfield 188, 3), (.iload 4, 2), (.iaload, 1), (.invokevirtual 125, 3), (.pop, 1), (.iinc 4 (-1), 3), (.goto (-20), 3)]
def bk_Checker_checkCall_64 : List (Instr × Nat) := [(.aload_n 0, 1), (.aload_n 3, 1), (.getfield 61, 3), (.invokevirtual 148, 3), (.return_, 1)]
theorem ca_Checker_checkCall_0 : qz_ca yd_Checker_checkCall.2.1 0 bk_Checker_checkCall_0 := qz_cab_ok _ _ (by decide +kernel)
theorem ca_Checker_checkCall_17 : qz_ca yd_Checker_checkCall.2.1 17 bk_Checker_checkCall_17 := qz_cab_ok _ _ (by decide +kernel)
theorem ca_Checker_checkCall_41 : qz_ca yd_Checker_checkCall.2.1 41 bk_Checker_checkCall_41 := qz_cab_ok _ _ (by decide +kernel)
theorem ca_Checker_checkCall_64 : qz_ca yd_Checker_checkCall.2.1 64 bk_Checker_checkCall_64 := qz_cab_ok _ _ (by decide +kernel)
set_option maxRecDepth 20000 in
theorem jb_Checker_checkCall_41_b (G : qz_G) (k41 : Int → Int → Int → qz_H → Option qz_R) (jk41 : ∀ (l0 : Int) (l3 : Int) (l4 : Int) (h : qz_H), qz_J yd_Checker_checkCall G bk_Checker_checkCall_41 41 [qz_r true 1 l0, qz_u, qz_u, qz_r false 4 l3, qz_i l4] [] h 0 0 (k41 l0 l3 l4 h)) (l0 : Int) (l3 : Int) (l4 : Int) (h : qz_H) : qz_J yd_Checker_checkCall G bk_Checker_checkCall_41 41 [qz_r true 1 l0, qz_u, qz_u, qz_r false 4 l3, qz_i l4] [] h 0 0 (fn_Checker_checkCall_41_b k41 l0 l3 l4 h) := by
  unfold fn_Checker_checkCall_41_b bk_Checker_checkCall_41; exact
    qz_iload rfl <|
    qz_if_lt rfl ca_Checker_checkCall_64
      (qz_aload_n rfl <|
        qz_aload_n rfl <|
        qz_nnd 0 rfl <|
        qz_getI kg_4 fl_Checker_61 rfl rfl <|
        qz_invvV [qz_i (h l3 3)] rfl (cn_Checker_put l0 (h l3 3) h) mw_Checker_put vw_Checker_put ⟨_, rfl, rfl, by decide⟩ rfl rfl ln_Checker_148 rfl fun _ h2 =>
        qz_return ⟨rfl, rfl⟩ rfl)
      (qz_aload_n rfl <|
        qz_aload_n rfl <|
        qz_nnd 0 rfl <|
        qz_getR (k1 := 40) kg_4 fl_Checker_188 rfl rfl <|
        qz_iload rfl <|
        qz_nnd 1 rfl <|
        qz_iald (k0 := 40) rfl rfl rfl <|
        qz_invvI [qz_i (h (h l3 0) l4)] rfl (cn_Checker_take l0 (h (h l3 0) l4) h) mw_Checker_take vw_Checker_take ⟨_, rfl, rfl, by decide⟩ rfl rfl ln_Checker_125 rfl fun r3 h4 =>
        qz_pop rfl <|
        qz_iinc rfl (by decide) fun x5 =>
        qz_goto rfl ca_Checker_checkCall_41 <|
        qz_fgt [1, 0, 0, 1, 1] <| jk41 l0 l3 x5 h4)
theorem jb_Checker_checkCall_41 (G : qz_G) : ∀ (n : Nat) (l0 l3 l4 : Int) (h : qz_H), qz_J yd_Checker_checkCall G bk_Checker_checkCall_41 41 [qz_r true 1 l0, qz_u, qz_u, qz_r false 4 l3, qz_i l4] [] h 0 0 (fn_Checker_checkCall_41 n l0 l3 l4 h)
  | 0, _, _, _, _ => qz_none
  | n + 1, l0, l3, l4, h => jb_Checker_checkCall_41_b G (fn_Checker_checkCall_41 n) (jb_Checker_checkCall_41 G n) l0 l3 l4 h
set_option maxRecDepth 20000 in
theorem cn_Checker_checkCall (l0 : Int) (l1 : Int) (h : qz_H) : qz_C yd_Checker_checkCall [qz_r true 1 l0, qz_j l1] h (fn_Checker_checkCall l0 l1 h) := by
  refine qz_con (is := bk_Checker_checkCall_0) (ls := [qz_r true 1 l0, qz_j l1, qz_u, qz_u, qz_u]) mw_Checker_checkCall.2.2.2 ca_Checker_checkCall_0 rfl rfl fun G => ?_
  unfold fn_Checker_checkCall bk_Checker_checkCall_0; exact
    qz_aload_n rfl <|
    qz_getR (k1 := 6) kg_1 fl_Checker_21 rfl rfl <|
    qz_lload_n rfl <|
    qz_nnd 1 rfl <|
    qz_invvI [qz_j l1] rfl (cn_Module_hasFunction (h l0 2) l1 h) mw_Module_hasFunction vw_Module_hasFunction ⟨_, rfl, rfl, by decide⟩ rfl rfl ln_Checker_178 rfl fun r1 h2 =>
    qz_if_ne rfl ca_Checker_checkCall_17
      (qz_aload_n rfl <|
        qz_getR (k1 := 6) kg_1 fl_Checker_21 rfl rfl <|
        qz_nnd 0 rfl <|
        qz_getR (k1 := 45) kg_6 fl_Checker_44 rfl rfl <|
        qz_lload_n rfl <|
        qz_l2i <|
        qz_nnd 1 rfl <|
        qz_aald (k0 := 45) (k1 := 4) rfl rfl rfl <|
        qz_astore_n (by decide) fun x3 =>
        qz_aload_n rfl <|
        qz_nnd 0 rfl <|
        qz_getI kg_4 fl_Checker_182 rfl rfl <|
        qz_bipush rfl <|
        qz_mmin ma_Checker_185 rfl <|
        qz_iconst rfl <|
        qz_isub <|
        qz_istore (by decide) fun x4 =>
        qz_fall rfl ca_Checker_checkCall_41 <|
        qz_fgt [1, 0, 0, 1, 1] <| jb_Checker_checkCall_41 G qz_NF l0 x3 x4 h2)
      (qz_aload_n rfl <|
        qz_iconst rfl <|
        qz_putZ kw_1 fp_Checker_36_Checker_checkCall rfl rfl fun h5 =>
        qz_return ⟨rfl, rfl⟩ rfl)
def fn_Checker_checkSelect_29 (s0 : Int) (s1 : Int) (h : qz_H) : Option qz_R :=
  qz_bc (fn_Checker_put s0 s1 h) fun _ h2 =>
  some (0, h2)
set_option maxRecDepth 20000 in
def fn_Checker_checkSelect (l0 : Int) (h : qz_H) : Option qz_R :=
  qz_bc (fn_Checker_take l0 1 h) fun r1 h2 =>
  qz_bc (fn_Checker_take l0 3 h2) fun r3 h4 =>
  qz_bn (r3 : Int) fun x5 =>
  qz_bc (fn_Checker_take l0 x5 h4) fun r6 h7 =>
  qz_bn (r6 : Int) fun x8 =>
  if ¬ x5 = 3 then
    fn_Checker_checkSelect_29 l0 x5 h7
  else
    fn_Checker_checkSelect_29 l0 x8 h7
def bk_Checker_checkSelect_0 : List (Instr × Nat) := [(.aload_n 0, 1), (.iconst 1, 1), (.invokevirtual 125, 3), (.pop, 1), (.aload_n 0, 1), (.iconst 3, 1), (.invokevirtual 125, 3), (.istore_n 1, 1), (.aload_n 0, 1), (.iload_n 1, 1), (.invokevirtual 125, 3), (.istore_n 2, 1), (.aload_n 0, 1), (.iload_n 1, 1), (.iconst 3, 1), (.if_icmp .ne 7, 3), (.iload_n 2, 1), (.goto 4, 3)]
def bk_Checker_checkSelect_28 : List (Instr × Nat) := [(.iload_n 1, 1)]
def bk_Checker_checkSelect_29 : List (Instr × Nat) := [(.invokevirtual 148, 3), (.return_, 1)]
theorem ca_Checker_checkSelect_0 : qz_ca yd_Checker_checkSelect.2.1 0 bk_Checker_checkSelect_0 := qz_cab_ok _ _ (by decide +kernel)
theorem ca_Checker_checkSelect_28 : qz_ca yd_Checker_checkSelect.2.1 28 bk_Checker_checkSelect_28 := qz_cab_ok _ _ (by decide +kernel)
theorem ca_Checker_checkSelect_29 : qz_ca yd_Checker_checkSelect.2.1 29 bk_Checker_checkSelect_29 := qz_cab_ok _ _ (by decide +kernel)
set_option maxRecDepth 20000 in
theorem jb_Checker_checkSelect_29 (G : qz_G) (s0 : Int) (s1 : Int) (h : qz_H) : qz_J yd_Checker_checkSelect G bk_Checker_checkSelect_29 29 [qz_u, qz_u, qz_u] [qz_i s1, qz_r true 1 s0] h 0 0 (fn_Checker_checkSelect_29 s0 s1 h) := by
  unfold fn_Checker_checkSelect_29 bk_Checker_checkSelect_29; exact
    qz_invvV [qz_i s1] rfl (cn_Checker_put s0 s1 h) mw_Checker_put vw_Checker_put ⟨_, rfl, rfl, by decide⟩ rfl rfl ln_Checker_148 rfl fun _ h2 =>
    qz_return ⟨rfl, rfl⟩ rfl
set_option maxRecDepth 20000 in
theorem cn_Checker_checkSelect (l0 : Int) (h : qz_H) : qz_C yd_Checker_checkSelect [qz_r true 1 l0] h (fn_Checker_checkSelect l0 h) := by
  refine qz_con (is := bk_Checker_checkSelect_0) (ls := [qz_r true 1 l0, qz_u, qz_u]) mw_Checker_checkSelect.2.2.2 ca_Checker_checkSelect_0 rfl rfl fun G => ?_
  unfold fn_Checker_checkSelect bk_Checker_checkSelect_0; exact
    qz_aload_n rfl <|
    qz_iconst rfl <|
    qz_invvI [qz_i 1] rfl (cn_Checker_take l0 1 h) mw_Checker_take vw_Checker_take ⟨_, rfl, rfl, by decide⟩ rfl rfl ln_Checker_125 rfl fun r1 h2 =>
    qz_pop rfl <|
    qz_aload_n rfl <|
    qz_iconst rfl <|
    qz_invvI [qz_i 3] rfl (cn_Checker_take l0 3 h2) mw_Checker_take vw_Checker_take ⟨_, rfl, rfl, by decide⟩ rfl rfl ln_Checker_125 rfl fun r3 h4 =>
    qz_istore_n (by decide) fun x5 =>
    qz_aload_n rfl <|
    qz_iload_n rfl <|
    qz_invvI [qz_i x5] rfl (cn_Checker_take l0 x5 h4) mw_Checker_take vw_Checker_take ⟨_, rfl, rfl, by decide⟩ rfl rfl ln_Checker_125 rfl fun r6 h7 =>
    qz_istore_n (by decide) fun x8 =>
    qz_aload_n rfl <|
    qz_iload_n rfl <|
    qz_iconst rfl <|
    qz_icmp_ne rfl ca_Checker_checkSelect_28
      (qz_iload_n rfl <|
        qz_fall rfl ca_Checker_checkSelect_29 <|
        qz_fgt [0, 0, 0] <| jb_Checker_checkSelect_29 G l0 x5 h7)
      (qz_iload_n rfl <|
        qz_goto rfl ca_Checker_checkSelect_29 <|
        qz_fgt [0, 0, 0] <| jb_Checker_checkSelect_29 G l0 x8 h7)
def fn_Checker_checkSlot_56 (h : qz_H) : Option qz_R :=
  some (0, h)
def fn_Checker_checkSlot_43 (l0 : Int) (l1 : Int) (l4 : Int) (h : qz_H) : Option qz_R :=
  if l1 = (-15) then
    fn_Checker_checkSlot_56 h
  else
    qz_bc (fn_Checker_put l0 l4 h) fun _ h2 =>
    fn_Checker_checkSlot_56 h2
set_option maxRecDepth 20000 in
def fn_Checker_checkSlot (l0 : Int) (l1 : Int) (l2 : Int) (h : qz_H) : Option qz_R :=
  qz_ck ((h l0 3 : Int) ≠ 0) <|
  qz_bc (fn_Function_hasSlot (h l0 3) l2 h) fun r1 h2 =>
  if ¬ r1 = 0 then
    qz_ck ((h2 l0 3 : Int) ≠ 0) <|
    qz_ck ((h2 (h2 l0 3) 0 : Int) ≠ 0) <|
    qz_ck ((0 : Int) ≤ qz_w l2 ∧ qz_w l2 < h2 (h2 (h2 l0 3) 0) (-1)) <|
    qz_bn (h2 (h2 (h2 l0 3) 0) (qz_w l2) : Int) fun x3 =>
    if l1 = (-14) then
      fn_Checker_checkSlot_43 l0 l1 x3 h2
    else
      qz_bc (fn_Checker_take l0 x3 h2) fun r4 h5 =>
      fn_Checker_checkSlot_43 l0 l1 x3 h5
  else
    qz_ck ((1 : Int) = 0 ∨ (1 : Int) = 1) <|
    qz_ck ((0 : Int) < l0) <|
    qz_bn (qz_up h2 l0 6 1) fun h6 =>
    some (0, h6)
def bk_Checker_checkSlot_0 : List (Instr × Nat) := [(.aload_n 0, 1), (.getfield 31, 3), (.lload_n 2, 1), (.invokevirtual 191, 3), (.ifCond .ne 9, 3), (.aload_n 0, 1), (.iconst 1, 1), (.putfield 36, 3), (.return_, 1)]
def bk_Checker_checkSlot_17 : List (Instr × Nat) := [(.aload_n 0, 1), (.getfield 31, 3), (.getfield 188, 3), (.lload_n 2, 1), (.l2i, 1), (.iaload, 1), (.istore 4, 2), (.aload_n 1, 1), (.getstatic 194, 3), (.if_acmp .eq 10, 3), (.aload_n 0, 1), (.iload 4, 2), (.invokevirtual 125, 3), (.pop, 1)]
def bk_Checker_checkSlot_43 : List (Instr × Nat) := [(.aload_n 1, 1), (.getstatic 197, 3), (.if_acmp .eq 9, 3), (.aload_n 0, 1), (.iload 4, 2), (.invokevirtual 148, 3)]
def bk_Checker_checkSlot_56 : List (Instr × Nat) := [(.return_, 1)]
theorem ca_Checker_checkSlot_0 : qz_ca yd_Checker_checkSlot.2.1 0 bk_Checker_checkSlot_0 := qz_cab_ok _ _ (by decide +kernel)
theorem ca_Checker_checkSlot_17 : qz_ca yd_Checker_checkSlot.2.1 17 bk_Checker_checkSlot_17 := qz_cab_ok _ _ (by decide +kernel)
theorem ca_Checker_checkSlot_43 : qz_ca yd_Checker_checkSlot.2.1 43 bk_Checker_checkSlot_43 := qz_cab_ok _ _ (by decide +kernel)
theorem ca_Checker_checkSlot_56 : qz_ca yd_Checker_checkSlot.2.1 56 bk_Checker_checkSlot_56 := qz_cab_ok _ _ (by decide +kernel)
set_option maxRecDepth 20000 in
theorem jb_Checker_checkSlot_56 (G : qz_G) (h : qz_H) : qz_J yd_Checker_checkSlot G bk_Checker_checkSlot_56 56 [qz_u, qz_u, qz_u, qz_u, qz_u] [] h 0 0 (fn_Checker_checkSlot_56 h) := by
  unfold fn_Checker_checkSlot_56 bk_Checker_checkSlot_56; exact
    qz_return ⟨rfl, rfl⟩ rfl
set_option maxRecDepth 20000 in
theorem jb_Checker_checkSlot_43 (G : qz_G) (l0 : Int) (l1 : Int) (l4 : Int) (h : qz_H) : qz_J yd_Checker_checkSlot G bk_Checker_checkSlot_43 43 [qz_r true 1 l0, qz_r false 7 l1, qz_u, qz_u, qz_i l4] [] h 0 0 (fn_Checker_checkSlot_43 l0 l1 l4 h) := by
  unfold fn_Checker_checkSlot_43 bk_Checker_checkSlot_43; exact
    qz_aload_n rfl <|
    qz_getsR sz_Op_LOCAL_SET sl_Checker_197 rfl <|
    qz_acmp_eq rfl ca_Checker_checkSlot_56
      (qz_fgt [0, 0, 0, 0, 0] <| jb_Checker_checkSlot_56 G h)
      (qz_aload_n rfl <|
        qz_iload rfl <|
        qz_invvV [qz_i l4] rfl (cn_Checker_put l0 l4 h) mw_Checker_put vw_Checker_put ⟨_, rfl, rfl, by decide⟩ rfl rfl ln_Checker_148 rfl fun _ h2 =>
        qz_fall rfl ca_Checker_checkSlot_56 <|
        qz_fgt [0, 0, 0, 0, 0] <| jb_Checker_checkSlot_56 G h2)
set_option maxRecDepth 20000 in
theorem cn_Checker_checkSlot (l0 : Int) (l1 : Int) (l2 : Int) (h : qz_H) : qz_C yd_Checker_checkSlot [qz_r true 1 l0, qz_r false 7 l1, qz_j l2] h (fn_Checker_checkSlot l0 l1 l2 h) := by
  refine qz_con (is := bk_Checker_checkSlot_0) (ls := [qz_r true 1 l0, qz_r false 7 l1, qz_j l2, qz_u, qz_u]) mw_Checker_checkSlot.2.2.2 ca_Checker_checkSlot_0 rfl rfl fun G => ?_
  unfold fn_Checker_checkSlot bk_Checker_checkSlot_0; exact
    qz_aload_n rfl <|
    qz_getR (k1 := 4) kg_1 fl_Checker_31 rfl rfl <|
    qz_lload_n rfl <|
    qz_nnd 1 rfl <|
    qz_invvI [qz_j l2] rfl (cn_Function_hasSlot (h l0 3) l2 h) mw_Function_hasSlot vw_Function_hasSlot ⟨_, rfl, rfl, by decide⟩ rfl rfl ln_Checker_191 rfl fun r1 h2 =>
    qz_if_ne rfl ca_Checker_checkSlot_17
      (qz_aload_n rfl <|
        qz_getR (k1 := 4) kg_1 fl_Checker_31 rfl rfl <|
        qz_nnd 0 rfl <|
        qz_getR (k1 := 40) kg_4 fl_Checker_188 rfl rfl <|
        qz_lload_n rfl <|
        qz_l2i <|
        qz_nnd 1 rfl <|
        qz_iald (k0 := 40) rfl rfl rfl <|
        qz_istore (by decide) fun x3 =>
        qz_aload_n rfl <|
        qz_getsR sz_Op_LOCAL_GET sl_Checker_194 rfl <|
        qz_acmp_eq rfl ca_Checker_checkSlot_43
          (qz_fgt [1, 1, 0, 0, 1] <| jb_Checker_checkSlot_43 G l0 l1 x3 h2)
          (qz_aload_n rfl <|
            qz_iload rfl <|
            qz_invvI [qz_i x3] rfl (cn_Checker_take l0 x3 h2) mw_Checker_take vw_Checker_take ⟨_, rfl, rfl, by decide⟩ rfl rfl ln_Checker_125 rfl fun r4 h5 =>
            qz_pop rfl <|
            qz_fall rfl ca_Checker_checkSlot_43 <|
            qz_fgt [1, 1, 0, 0, 1] <| jb_Checker_checkSlot_43 G l0 l1 x3 h5))
      (qz_aload_n rfl <|
        qz_iconst rfl <|
        qz_putZ kw_1 fp_Checker_36_Checker_checkSlot rfl rfl fun h6 =>
        qz_return ⟨rfl, rfl⟩ rfl)
def fn_Checker_checkSimple_2_b (k2 : Int → Int → Int → qz_H → Option qz_R) (l0 : Int) (l1 : Int) (l2 : Int) (h : qz_H) : Option qz_R :=
  qz_ck ((l1 : Int) ≠ 0) <|
  if h l1 3 ≤ l2 then
    qz_ck ((l1 : Int) ≠ 0) <|
    qz_bc (fn_Checker_put l0 (h l1 5) h) fun _ h2 =>
    some (0, h2)
  else
    qz_ck ((l1 : Int) ≠ 0) <|
    qz_bc (fn_Checker_take l0 (h l1 4) h) fun r3 h4 =>
    qz_bn (qz_w (l2 + 1)) fun x5 =>
    k2 l0 l1 x5 h4
def fn_Checker_checkSimple_2 : Nat → Int → Int → Int → qz_H → Option qz_R
  | 0, _, _, _, _ => none
  | n + 1, l0, l1, l2, h => fn_Checker_checkSimple_2_b (fn_Checker_checkSimple_2 n) l0 l1 l2 h
set_option maxRecDepth 20000 in
def fn_Checker_checkSimple (l0 : Int) (l1 : Int) (h : qz_H) : Option qz_R :=
  qz_bn (0 : Int) fun x1 =>
  fn_Checker_checkSimple_2 qz_NF l0 l1 x1 h
def bk_Checker_checkSimple_0 : List (Instr × Nat) := [(.iconst 0, 1), (.istore_n 2, 1)]
def bk_Checker_checkSimple_2 : List (Instr × Nat) := [(.iload_n 2, 1), (.aload_n 1, 1), (.getfield 139, 3), (.if_icmp .ge 18, 3), (.aload_n 0, 1), (.aload_n 1, 1), (.getfield 142, 3), (.invokevirtual 125, 3), (.pop, 1), (.iinc 2 1, 3), (.goto (-20), 3)]
def bk_Checker_checkSimple_25 : List (Instr × Nat) := [(.aload_n 0, 1), (.aload_n 1, 1), (.getfield 145, 3), (.invokevirtual 148, 3), (.return_, 1)]
theorem ca_Checker_checkSimple_0 : qz_ca yd_Checker_checkSimple.2.1 0 bk_Checker_checkSimple_0 := qz_cab_ok _ _ (by decide +kernel)
theorem ca_Checker_checkSimple_2 : qz_ca yd_Checker_checkSimple.2.1 2 bk_Checker_checkSimple_2 := qz_cab_ok _ _ (by decide +kernel)
theorem ca_Checker_checkSimple_25 : qz_ca yd_Checker_checkSimple.2.1 25 bk_Checker_checkSimple_25 := qz_cab_ok _ _ (by decide +kernel)
set_option maxRecDepth 20000 in
theorem jb_Checker_checkSimple_2_b (G : qz_G) (k2 : Int → Int → Int → qz_H → Option qz_R) (jk2 : ∀ (l0 : Int) (l1 : Int) (l2 : Int) (h : qz_H), qz_J yd_Checker_checkSimple G bk_Checker_checkSimple_2 2 [qz_r true 1 l0, qz_r false 7 l1, qz_i l2] [] h 0 0 (k2 l0 l1 l2 h)) (l0 : Int) (l1 : Int) (l2 : Int) (h : qz_H) : qz_J yd_Checker_checkSimple G bk_Checker_checkSimple_2 2 [qz_r true 1 l0, qz_r false 7 l1, qz_i l2] [] h 0 0 (fn_Checker_checkSimple_2_b k2 l0 l1 l2 h) := by
  unfold fn_Checker_checkSimple_2_b bk_Checker_checkSimple_2; exact
    qz_iload_n rfl <|
    qz_aload_n rfl <|
    qz_nnd 0 rfl <|
    qz_getI kg_7 fl_Checker_139 rfl rfl <|
    qz_icmp_ge rfl ca_Checker_checkSimple_25
      (qz_aload_n rfl <|
        qz_aload_n rfl <|
        qz_nnd 0 rfl <|
        qz_getI kg_7 fl_Checker_145 rfl rfl <|
        qz_invvV [qz_i (h l1 5)] rfl (cn_Checker_put l0 (h l1 5) h) mw_Checker_put vw_Checker_put ⟨_, rfl, rfl, by decide⟩ rfl rfl ln_Checker_148 rfl fun _ h2 =>
        qz_return ⟨rfl, rfl⟩ rfl)
      (qz_aload_n rfl <|
        qz_aload_n rfl <|
        qz_nnd 0 rfl <|
        qz_getI kg_7 fl_Checker_142 rfl rfl <|
        qz_invvI [qz_i (h l1 4)] rfl (cn_Checker_take l0 (h l1 4) h) mw_Checker_take vw_Checker_take ⟨_, rfl, rfl, by decide⟩ rfl rfl ln_Checker_125 rfl fun r3 h4 =>
        qz_pop rfl <|
        qz_iinc rfl (by decide) fun x5 =>
        qz_goto rfl ca_Checker_checkSimple_2 <|
        qz_fgt [1, 1, 1] <| jk2 l0 l1 x5 h4)
theorem jb_Checker_checkSimple_2 (G : qz_G) : ∀ (n : Nat) (l0 l1 l2 : Int) (h : qz_H), qz_J yd_Checker_checkSimple G bk_Checker_checkSimple_2 2 [qz_r true 1 l0, qz_r false 7 l1, qz_i l2] [] h 0 0 (fn_Checker_checkSimple_2 n l0 l1 l2 h)
  | 0, _, _, _, _ => qz_none
  | n + 1, l0, l1, l2, h => jb_Checker_checkSimple_2_b G (fn_Checker_checkSimple_2 n) (jb_Checker_checkSimple_2 G n) l0 l1 l2 h
set_option maxRecDepth 20000 in
theorem cn_Checker_checkSimple (l0 : Int) (l1 : Int) (h : qz_H) : qz_C yd_Checker_checkSimple [qz_r true 1 l0, qz_r false 7 l1] h (fn_Checker_checkSimple l0 l1 h) := by
  refine qz_con (is := bk_Checker_checkSimple_0) (ls := [qz_r true 1 l0, qz_r false 7 l1, qz_u]) mw_Checker_checkSimple.2.2.2 ca_Checker_checkSimple_0 rfl rfl fun G => ?_
  unfold fn_Checker_checkSimple bk_Checker_checkSimple_0; exact
    qz_iconst rfl <|
    qz_istore_n (by decide) fun x1 =>
    qz_fall rfl ca_Checker_checkSimple_2 <|
    qz_fgt [1, 1, 1] <| jb_Checker_checkSimple_2 G qz_NF l0 l1 x1 h
def fn_Checker_check_184 (h : qz_H) : Option qz_R :=
  some (0, h)
set_option maxRecDepth 20000 in
def fn_Checker_check (l0 : Int) (l1 : Int) (l2 : Int) (h : qz_H) : Option qz_R :=
  qz_ck ((l1 : Int) ≠ 0) <|
  qz_bc (fn_Enum_ordinal l1 h) fun r1 h2 =>
  qz_ck ((0 : Int) ≤ r1 ∧ r1 < h2 (-33) (-1)) <|
  qz_swt (h2 (-33) r1) [
    (1,
      qz_bc (fn_Checker_beginFrame l0 l1 (qz_w l2) h2) fun _ h4 =>
      fn_Checker_check_184 h4),
    (2,
      qz_bc (fn_Checker_beginFrame l0 l1 (qz_w l2) h2) fun _ h6 =>
      fn_Checker_check_184 h6),
    (3,
      qz_bc (fn_Checker_beginFrame l0 l1 (qz_w l2) h2) fun _ h8 =>
      fn_Checker_check_184 h8),
    (4,
      qz_bc (fn_Checker_endFrame l0 h2) fun _ h10 =>
      qz_bc (fn_Checker_restartFrame l0 h10) fun _ h12 =>
      fn_Checker_check_184 h12),
    (5,
      qz_bc (fn_Checker_leaveFrame l0 h2) fun _ h14 =>
      fn_Checker_check_184 h14),
    (6,
      qz_bc (fn_Checker_checkBranch l0 l1 l2 h2) fun _ h16 =>
      fn_Checker_check_184 h16),
    (7,
      qz_bc (fn_Checker_checkBranch l0 l1 l2 h2) fun _ h18 =>
      fn_Checker_check_184 h18),
    (8,
      qz_ck ((h2 l0 3 : Int) ≠ 0) <|
      qz_bc (fn_Checker_takeResult l0 (h2 (h2 l0 3) 3) h2) fun _ h20 =>
      qz_bc (fn_Checker_makeUnreachable l0 h20) fun _ h22 =>
      fn_Checker_check_184 h22),
    (9,
      qz_bc (fn_Checker_makeUnreachable l0 h2) fun _ h24 =>
      fn_Checker_check_184 h24),
    (10,
      qz_bc (fn_Checker_checkCall l0 l2 h2) fun _ h26 =>
      fn_Checker_check_184 h26),
    (11,
      qz_bc (fn_Checker_take l0 3 h2) fun r27 h28 =>
      fn_Checker_check_184 h28),
    (12,
      qz_bc (fn_Checker_checkSelect l0 h2) fun _ h30 =>
      fn_Checker_check_184 h30),
    (13,
      qz_bc (fn_Checker_checkSlot l0 l1 l2 h2) fun _ h32 =>
      fn_Checker_check_184 h32),
    (14,
      qz_bc (fn_Checker_checkSlot l0 l1 l2 h2) fun _ h34 =>
      fn_Checker_check_184 h34),
    (15,
      qz_bc (fn_Checker_checkSlot l0 l1 l2 h2) fun _ h36 =>
      fn_Checker_check_184 h36)] <|
    qz_bc (fn_Checker_checkSimple l0 l1 h2) fun _ h38 =>
    fn_Checker_check_184 h38
def bk_Checker_check_0 : List (Instr × Nat) := [(.getstatic 91, 3), (.aload_n 1, 1), (.invokevirtual 96, 3), (.iaload, 1), (.tableswitch 171 1 15 #[76, 76, 76, 86, 97, 104, 104, 113, 131, 138, 146, 155, 162, 162, 162], 76)]
def bk_Checker_check_84 : List (Instr × Nat) := [(.aload_n 0, 1), (.aload_n 1, 1), (.lload_n 2, 1), (.l2i, 1), (.invokevirtual 101, 3), (.goto 93, 3)]
def bk_Checker_check_184 : List (Instr × Nat) := [(.return_, 1)]
def bk_Checker_check_94 : List (Instr × Nat) := [(.aload_n 0, 1), (.invokevirtual 88, 3), (.aload_n 0, 1), (.invokevirtual 105, 3), (.goto 82, 3)]
def bk_Checker_check_105 : List (Instr × Nat) := [(.aload_n 0, 1), (.invokevirtual 108, 3), (.goto 75, 3)]
def bk_Checker_check_112 : List (Instr × Nat) := [(.aload_n 0, 1), (.aload_n 1, 1), (.lload_n 2, 1), (.invokevirtual 111, 3), (.goto 66, 3)]
def bk_Checker_check_121 : List (Instr × Nat) := [(.aload_n 0, 1), (.aload_n 0, 1), (.getfield 31, 3), (.getfield 61, 3), (.invokevirtual 114, 3), (.aload_n 0, 1), (.invokevirtual 118, 3), (.goto 48, 3)]
def bk_Checker_check_139 : List (Instr × Nat) := [(.aload_n 0, 1), (.invokevirtual 118, 3), (.goto 41, 3)]
def bk_Checker_check_146 : List (Instr × Nat) := [(.aload_n 0, 1), (.lload_n 2, 1), (.invokevirtual 121, 3), (.goto 33, 3)]
def bk_Checker_check_154 : List (Instr × Nat) := [(.aload_n 0, 1), (.iconst 3, 1), (.invokevirtual 125, 3), (.pop, 1), (.goto 24, 3)]
def bk_Checker_check_163 : List (Instr × Nat) := [(.aload_n 0, 1), (.invokevirtual 129, 3), (.goto 17, 3)]
def bk_Checker_check_170 : List (Instr × Nat) := [(.aload_n 0, 1), (.aload_n 1, 1), (.lload_n 2, 1), (.invokevirtual 132, 3), (.goto 8, 3)]
def bk_Checker_check_179 : List (Instr × Nat) := [(.aload_n 0, 1), (.aload_n 1, 1), (.invokevirtual 135, 3)]
theorem ca_Checker_check_0 : qz_ca yd_Checker_check.2.1 0 bk_Checker_check_0 := qz_cab_ok _ _ (by decide +kernel)
theorem ca_Checker_check_84 : qz_ca yd_Checker_check.2.1 84 bk_Checker_check_84 := qz_cab_ok _ _ (by decide +kernel)
theorem ca_Checker_check_184 : qz_ca yd_Checker_check.2.1 184 bk_Checker_check_184 := qz_cab_ok _ _ (by decide +kernel)
theorem ca_Checker_check_94 : qz_ca yd_Checker_check.2.1 94 bk_Checker_check_94 := qz_cab_ok _ _ (by decide +kernel)
theorem ca_Checker_check_105 : qz_ca yd_Checker_check.2.1 105 bk_Checker_check_105 := qz_cab_ok _ _ (by decide +kernel)
theorem ca_Checker_check_112 : qz_ca yd_Checker_check.2.1 112 bk_Checker_check_112 := qz_cab_ok _ _ (by decide +kernel)
theorem ca_Checker_check_121 : qz_ca yd_Checker_check.2.1 121 bk_Checker_check_121 := qz_cab_ok _ _ (by decide +kernel)
theorem ca_Checker_check_139 : qz_ca yd_Checker_check.2.1 139 bk_Checker_check_139 := qz_cab_ok _ _ (by decide +kernel)
theorem ca_Checker_check_146 : qz_ca yd_Checker_check.2.1 146 bk_Checker_check_146 := qz_cab_ok _ _ (by decide +kernel)
theorem ca_Checker_check_154 : qz_ca yd_Checker_check.2.1 154 bk_Checker_check_154 := qz_cab_ok _ _ (by decide +kernel)
theorem ca_Checker_check_163 : qz_ca yd_Checker_check.2.1 163 bk_Checker_check_163 := qz_cab_ok _ _ (by decide +kernel)
theorem ca_Checker_check_170 : qz_ca yd_Checker_check.2.1 170 bk_Checker_check_170 := qz_cab_ok _ _ (by decide +kernel)
theorem ca_Checker_check_179 : qz_ca yd_Checker_check.2.1 179 bk_Checker_check_179 := qz_cab_ok _ _ (by decide +kernel)
set_option maxRecDepth 20000 in
theorem jb_Checker_check_184 (G : qz_G) (h : qz_H) : qz_J yd_Checker_check G bk_Checker_check_184 184 [qz_u, qz_u, qz_u, qz_u] [] h 0 0 (fn_Checker_check_184 h) := by
  unfold fn_Checker_check_184 bk_Checker_check_184; exact
    qz_return ⟨rfl, rfl⟩ rfl
set_option maxRecDepth 20000 in
theorem cn_Checker_check (l0 : Int) (l1 : Int) (l2 : Int) (h : qz_H) : qz_C yd_Checker_check [qz_r true 1 l0, qz_r false 7 l1, qz_j l2] h (fn_Checker_check l0 l1 l2 h) := by
  refine qz_con (is := bk_Checker_check_0) (ls := [qz_r true 1 l0, qz_r false 7 l1, qz_j l2, qz_u]) mw_Checker_check.2.2.2 ca_Checker_check_0 rfl rfl fun G => ?_
  unfold fn_Checker_check bk_Checker_check_0; exact
    qz_getsR sz_1__SwitchMap_StackAssembler_Op sl_Checker_91 rfl <|
    qz_aload_n rfl <|
    qz_nnd 0 rfl <|
    qz_invuI (xm := ⟨"StackAssembler$Op", "ordinal", "()I"⟩) [] rfl (cn_Enum_ordinal l1 h) mw_Enum_ordinal ou_Checker_96 rfl ⟨_, rfl, rfl, by decide⟩ rfl rfl rfl fun r1 h2 =>
    qz_iald (k0 := 40) rfl rfl rfl <|
    qz_tsw [(1, 84, bk_Checker_check_84), (2, 84, bk_Checker_check_84), (3, 84, bk_Checker_check_84), (4, 94, bk_Checker_check_94), (5, 105, bk_Checker_check_105), (6, 112, bk_Checker_check_112), (7, 112, bk_Checker_check_112), (8, 121, bk_Checker_check_121), (9, 139, bk_Checker_check_139), (10, 146, bk_Checker_check_146), (11, 154, bk_Checker_check_154), (12, 163, bk_Checker_check_163), (13, 170, bk_Checker_check_170), (14, 170, bk_Checker_check_170), (15, 170, bk_Checker_check_170)] ca_Checker_check_179 rfl rfl rfl
      ⟨ca_Checker_check_84, qz_aload_n rfl <|
        qz_aload_n rfl <|
        qz_lload_n rfl <|
        qz_l2i <|
        qz_invvV [qz_r false 7 l1, qz_i (qz_w l2)] rfl (cn_Checker_beginFrame l0 l1 (qz_w l2) h2) mw_Checker_beginFrame vw_Checker_beginFrame ⟨_, rfl, rfl, by decide⟩ rfl rfl ln_Checker_101 rfl fun _ h4 =>
        qz_goto rfl ca_Checker_check_184 <|
        qz_fgt [0, 0, 0, 0] <| jb_Checker_check_184 G h4,
      ⟨ca_Checker_check_84, qz_aload_n rfl <|
        qz_aload_n rfl <|
        qz_lload_n rfl <|
        qz_l2i <|
        qz_invvV [qz_r false 7 l1, qz_i (qz_w l2)] rfl (cn_Checker_beginFrame l0 l1 (qz_w l2) h2) mw_Checker_beginFrame vw_Checker_beginFrame ⟨_, rfl, rfl, by decide⟩ rfl rfl ln_Checker_101 rfl fun _ h6 =>
        qz_goto rfl ca_Checker_check_184 <|
        qz_fgt [0, 0, 0, 0] <| jb_Checker_check_184 G h6,
      ⟨ca_Checker_check_84, qz_aload_n rfl <|
        qz_aload_n rfl <|
        qz_lload_n rfl <|
        qz_l2i <|
        qz_invvV [qz_r false 7 l1, qz_i (qz_w l2)] rfl (cn_Checker_beginFrame l0 l1 (qz_w l2) h2) mw_Checker_beginFrame vw_Checker_beginFrame ⟨_, rfl, rfl, by decide⟩ rfl rfl ln_Checker_101 rfl fun _ h8 =>
        qz_goto rfl ca_Checker_check_184 <|
        qz_fgt [0, 0, 0, 0] <| jb_Checker_check_184 G h8,
      ⟨ca_Checker_check_94, qz_aload_n rfl <|
        qz_invvV [] rfl (cn_Checker_endFrame l0 h2) mw_Checker_endFrame vw_Checker_endFrame ⟨_, rfl, rfl, by decide⟩ rfl rfl ln_Checker_88 rfl fun _ h10 =>
        qz_aload_n rfl <|
        qz_invvV [] rfl (cn_Checker_restartFrame l0 h10) mw_Checker_restartFrame vw_Checker_restartFrame ⟨_, rfl, rfl, by decide⟩ rfl rfl ln_Checker_105 rfl fun _ h12 =>
        qz_goto rfl ca_Checker_check_184 <|
        qz_fgt [0, 0, 0, 0] <| jb_Checker_check_184 G h12,
      ⟨ca_Checker_check_105, qz_aload_n rfl <|
        qz_invvV [] rfl (cn_Checker_leaveFrame l0 h2) mw_Checker_leaveFrame vw_Checker_leaveFrame ⟨_, rfl, rfl, by decide⟩ rfl rfl ln_Checker_108 rfl fun _ h14 =>
        qz_goto rfl ca_Checker_check_184 <|
        qz_fgt [0, 0, 0, 0] <| jb_Checker_check_184 G h14,
      ⟨ca_Checker_check_112, qz_aload_n rfl <|
        qz_aload_n rfl <|
        qz_lload_n rfl <|
        qz_invvV [qz_r false 7 l1, qz_j l2] rfl (cn_Checker_checkBranch l0 l1 l2 h2) mw_Checker_checkBranch vw_Checker_checkBranch ⟨_, rfl, rfl, by decide⟩ rfl rfl ln_Checker_111 rfl fun _ h16 =>
        qz_goto rfl ca_Checker_check_184 <|
        qz_fgt [0, 0, 0, 0] <| jb_Checker_check_184 G h16,
      ⟨ca_Checker_check_112, qz_aload_n rfl <|
        qz_aload_n rfl <|
        qz_lload_n rfl <|
        qz_invvV [qz_r false 7 l1, qz_j l2] rfl (cn_Checker_checkBranch l0 l1 l2 h2) mw_Checker_checkBranch vw_Checker_checkBranch ⟨_, rfl, rfl, by decide⟩ rfl rfl ln_Checker_111 rfl fun _ h18 =>
        qz_goto rfl ca_Checker_check_184 <|
        qz_fgt [0, 0, 0, 0] <| jb_Checker_check_184 G h18,
      ⟨ca_Checker_check_121, qz_aload_n rfl <|
        qz_aload_n rfl <|
        qz_getR (k1 := 4) kg_1 fl_Checker_31 rfl rfl <|
        qz_nnd 0 rfl <|
        qz_getI kg_4 fl_Checker_61 rfl rfl <|
        qz_invvV [qz_i (h2 (h2 l0 3) 3)] rfl (cn_Checker_takeResult l0 (h2 (h2 l0 3) 3) h2) mw_Checker_takeResult vw_Checker_takeResult ⟨_, rfl, rfl, by decide⟩ rfl rfl ln_Checker_114 rfl fun _ h20 =>
        qz_aload_n rfl <|
        qz_invvV [] rfl (cn_Checker_makeUnreachable l0 h20) mw_Checker_makeUnreachable vw_Checker_makeUnreachable ⟨_, rfl, rfl, by decide⟩ rfl rfl ln_Checker_118 rfl fun _ h22 =>
        qz_goto rfl ca_Checker_check_184 <|
        qz_fgt [0, 0, 0, 0] <| jb_Checker_check_184 G h22,
      ⟨ca_Checker_check_139, qz_aload_n rfl <|
        qz_invvV [] rfl (cn_Checker_makeUnreachable l0 h2) mw_Checker_makeUnreachable vw_Checker_makeUnreachable ⟨_, rfl, rfl, by decide⟩ rfl rfl ln_Checker_118 rfl fun _ h24 =>
        qz_goto rfl ca_Checker_check_184 <|
        qz_fgt [0, 0, 0, 0] <| jb_Checker_check_184 G h24,
      ⟨ca_Checker_check_146, qz_aload_n rfl <|
        qz_lload_n rfl <|
        qz_invvV [qz_j l2] rfl (cn_Checker_checkCall l0 l2 h2) mw_Checker_checkCall vw_Checker_checkCall ⟨_, rfl, rfl, by decide⟩ rfl rfl ln_Checker_121 rfl fun _ h26 =>
        qz_goto rfl ca_Checker_check_184 <|
        qz_fgt [0, 0, 0, 0] <| jb_Checker_check_184 G h26,
      ⟨ca_Checker_check_154, qz_aload_n rfl <|
        qz_iconst rfl <|
        qz_invvI [qz_i 3] rfl (cn_Checker_take l0 3 h2) mw_Checker_take vw_Checker_take ⟨_, rfl, rfl, by decide⟩ rfl rfl ln_Checker_125 rfl fun r27 h28 =>
        qz_pop rfl <|
        qz_goto rfl ca_Checker_check_184 <|
        qz_fgt [0, 0, 0, 0] <| jb_Checker_check_184 G h28,
      ⟨ca_Checker_check_163, qz_aload_n rfl <|
        qz_invvV [] rfl (cn_Checker_checkSelect l0 h2) mw_Checker_checkSelect vw_Checker_checkSelect ⟨_, rfl, rfl, by decide⟩ rfl rfl ln_Checker_129 rfl fun _ h30 =>
        qz_goto rfl ca_Checker_check_184 <|
        qz_fgt [0, 0, 0, 0] <| jb_Checker_check_184 G h30,
      ⟨ca_Checker_check_170, qz_aload_n rfl <|
        qz_aload_n rfl <|
        qz_lload_n rfl <|
        qz_invvV [qz_r false 7 l1, qz_j l2] rfl (cn_Checker_checkSlot l0 l1 l2 h2) mw_Checker_checkSlot vw_Checker_checkSlot ⟨_, rfl, rfl, by decide⟩ rfl rfl ln_Checker_132 rfl fun _ h32 =>
        qz_goto rfl ca_Checker_check_184 <|
        qz_fgt [0, 0, 0, 0] <| jb_Checker_check_184 G h32,
      ⟨ca_Checker_check_170, qz_aload_n rfl <|
        qz_aload_n rfl <|
        qz_lload_n rfl <|
        qz_invvV [qz_r false 7 l1, qz_j l2] rfl (cn_Checker_checkSlot l0 l1 l2 h2) mw_Checker_checkSlot vw_Checker_checkSlot ⟨_, rfl, rfl, by decide⟩ rfl rfl ln_Checker_132 rfl fun _ h34 =>
        qz_goto rfl ca_Checker_check_184 <|
        qz_fgt [0, 0, 0, 0] <| jb_Checker_check_184 G h34,
      ⟨ca_Checker_check_170, qz_aload_n rfl <|
        qz_aload_n rfl <|
        qz_lload_n rfl <|
        qz_invvV [qz_r false 7 l1, qz_j l2] rfl (cn_Checker_checkSlot l0 l1 l2 h2) mw_Checker_checkSlot vw_Checker_checkSlot ⟨_, rfl, rfl, by decide⟩ rfl rfl ln_Checker_132 rfl fun _ h36 =>
        qz_goto rfl ca_Checker_check_184 <|
        qz_fgt [0, 0, 0, 0] <| jb_Checker_check_184 G h36,
      trivial⟩⟩⟩⟩⟩⟩⟩⟩⟩⟩⟩⟩⟩⟩⟩
      (qz_aload_n rfl <|
        qz_aload_n rfl <|
        qz_invvV [qz_r false 7 l1] rfl (cn_Checker_checkSimple l0 l1 h2) mw_Checker_checkSimple vw_Checker_checkSimple ⟨_, rfl, rfl, by decide⟩ rfl rfl ln_Checker_135 rfl fun _ h38 =>
        qz_fall rfl ca_Checker_check_184 <|
        qz_fgt [0, 0, 0, 0] <| jb_Checker_check_184 G h38)
def fn_Checker_checkFunction_114 (l0 : Int) (h : qz_H) : Option qz_R :=
  qz_bc (fn_Checker_endFrame l0 h) fun _ h2 =>
  qz_ck ((h2 l0 3 : Int) ≠ 0) <|
  some (h2 (h2 l0 3) 5, h2)
def fn_Checker_checkFunction_36_b (k36 : Int → Int → qz_H → Option qz_R) (l0 : Int) (l1 : Int) (h : qz_H) : Option qz_R :=
  qz_ck ((h l0 3 : Int) ≠ 0) <|
  if h (h l0 3) 5 ≤ l1 then
    fn_Checker_checkFunction_114 l0 h
  else
    qz_ck ((h l0 3 : Int) ≠ 0) <|
    if 64 ≤ qz_w ((h (h l0 3) 4) + l1) then
      fn_Checker_checkFunction_114 l0 h
    else
      qz_ck ((h l0 2 : Int) ≠ 0) <|
      qz_ck ((h l0 3 : Int) ≠ 0) <|
      qz_ck ((h (h l0 2) 1 : Int) ≠ 0) <|
      qz_ck ((0 : Int) ≤ qz_w ((h (h l0 3) 4) + l1) ∧ qz_w ((h (h l0 3) 4) + l1) < h (h (h l0 2) 1) (-1)) <|
      qz_ck ((h l0 2 : Int) ≠ 0) <|
      qz_ck ((h l0 3 : Int) ≠ 0) <|
      qz_ck ((h (h l0 2) 2 : Int) ≠ 0) <|
      qz_ck ((0 : Int) ≤ qz_w ((h (h l0 3) 4) + l1) ∧ qz_w ((h (h l0 3) 4) + l1) < h (h (h l0 2) 2) (-1)) <|
      qz_bc (fn_Checker_check l0 (h (h (h l0 2) 1) (qz_w ((h (h l0 3) 4) + l1))) (h (h (h l0 2) 2) (qz_w ((h (h l0 3) 4) + l1))) h) fun _ h2 =>
      if h2 l0 6 = 0 then
        qz_bn (qz_w (l1 + 1)) fun x3 =>
        k36 l0 x3 h2
      else
        some (l1, h2)
def fn_Checker_checkFunction_36 : Nat → Int → Int → qz_H → Option qz_R
  | 0, _, _, _ => none
  | n + 1, l0, l1, h => fn_Checker_checkFunction_36_b (fn_Checker_checkFunction_36 n) l0 l1 h
set_option maxRecDepth 20000 in
def fn_Checker_checkFunction (l0 : Int) (h : qz_H) : Option qz_R :=
  qz_ck ((0 : Int) < l0) <|
  qz_bn (qz_up h l0 4 0) fun h1 =>
  qz_ck ((0 : Int) < l0) <|
  qz_bn (qz_up h1 l0 5 0) fun h2 =>
  qz_ck ((h2 l0 1 : Int) ≠ 0) <|
  qz_ck ((0 : Int) ≤ 0 ∧ 0 < h2 (h2 l0 1) (-1)) <|
  qz_ck ((h2 l0 3 : Int) ≠ 0) <|
  qz_ck ((h2 l0 3 : Int) ≠ 0) <|
  qz_ck ((h2 (h2 l0 1) 0 : Int) ≠ 0) <|
  qz_bc (fn_Frame_begin (h2 (h2 l0 1) 0) (h2 (h2 l0 3) 3) (h2 (h2 l0 3) 3) 0 h2) fun _ h4 =>
  qz_bn (0 : Int) fun x5 =>
  fn_Checker_checkFunction_36 qz_NF l0 x5 h4
def bk_Checker_checkFunction_0 : List (Instr × Nat) := [(.aload_n 0, 1), (.iconst 0, 1), (.putfield 55, 3), (.aload_n 0, 1), (.iconst 0, 1), (.putfield 58, 3), (.aload_n 0, 1), (.getfield 17, 3), (.iconst 0, 1), (.aaload, 1), (.aload_n 0, 1), (.getfield 31, 3), (.getfield 61, 3), (.aload_n 0, 1), (.getfield 31, 3), (.getfield 61, 3), (.iconst 0, 1), (.invokevirtual 66, 3), (.iconst 0, 1), (.istore_n 1, 1)]
def bk_Checker_checkFunction_36 : List (Instr × Nat) := [(.iload_n 1, 1), (.aload_n 0, 1), (.getfield 31, 3), (.getfield 70, 3), (.if_icmp .ge 70, 3), (.aload_n 0, 1), (.getfield 31, 3), (.getfield 73, 3), (.iload_n 1, 1), (.iadd, 1), (.bipush 64, 2), (.if_icmp .ge 56, 3), (.aload_n 0, 1), (.aload_n 0, 1), (.getfield 21, 3), (.getfield 76, 3), (.aload_n 0, 1), (.getfield 31, 3), (.getfield 73, 3), (.iload_n 1, 1), (.iadd, 1), (.aaload, 1), (.aload_n 0, 1), (.getfield 21, 3), (.getfield 80, 3), (.aload_n 0, 1), (.getfield 31, 3), (.getfield 73, 3), (.iload_n 1, 1), (.iadd, 1), (.laload, 1), (.invokevirtual 84, 3), (.aload_n 0, 1), (.getfield 36, 3), (.ifCond .eq 5, 3), (.iload_n 1, 1), (.ireturn, 1)]
def bk_Checker_checkFunction_114 : List (Instr × Nat) := [(.aload_n 0, 1), (.invokevirtual 88, 3), (.aload_n 0, 1), (.getfield 31, 3), (.getfield 70, 3), (.ireturn, 1)]
def bk_Checker_checkFunction_108 : List (Instr × Nat) := [(.iinc 1 1, 3), (.goto (-75), 3)]
theorem ca_Checker_checkFunction_0 : qz_ca yd_Checker_checkFunction.2.1 0 bk_Checker_checkFunction_0 := qz_cab_ok _ _ (by decide +kernel)
theorem ca_Checker_checkFunction_36 : qz_ca yd_Checker_checkFunction.2.1 36 bk_Checker_checkFunction_36 := qz_cab_ok _ _ (by decide +kernel)
theorem ca_Checker_checkFunction_114 : qz_ca yd_Checker_checkFunction.2.1 114 bk_Checker_checkFunction_114 := qz_cab_ok _ _ (by decide +kernel)
theorem ca_Checker_checkFunction_108 : qz_ca yd_Checker_checkFunction.2.1 108 bk_Checker_checkFunction_108 := qz_cab_ok _ _ (by decide +kernel)
set_option maxRecDepth 20000 in
theorem jb_Checker_checkFunction_114 (G : qz_G) (l0 : Int) (h : qz_H) : qz_J yd_Checker_checkFunction G bk_Checker_checkFunction_114 114 [qz_r true 1 l0, qz_u] [] h 0 0 (fn_Checker_checkFunction_114 l0 h) := by
  unfold fn_Checker_checkFunction_114 bk_Checker_checkFunction_114; exact
    qz_aload_n rfl <|
    qz_invvV [] rfl (cn_Checker_endFrame l0 h) mw_Checker_endFrame vw_Checker_endFrame ⟨_, rfl, rfl, by decide⟩ rfl rfl ln_Checker_88 rfl fun _ h2 =>
    qz_aload_n rfl <|
    qz_getR (k1 := 4) kg_1 fl_Checker_31 rfl rfl <|
    qz_nnd 0 rfl <|
    qz_getI kg_4 fl_Checker_70 rfl rfl <|
    qz_ireturn ⟨rfl, rfl⟩ rfl
set_option maxRecDepth 20000 in
theorem jb_Checker_checkFunction_36_b (G : qz_G) (k36 : Int → Int → qz_H → Option qz_R) (jk36 : ∀ (l0 : Int) (l1 : Int) (h : qz_H), qz_J yd_Checker_checkFunction G bk_Checker_checkFunction_36 36 [qz_r true 1 l0, qz_i l1] [] h 0 0 (k36 l0 l1 h)) (l0 : Int) (l1 : Int) (h : qz_H) : qz_J yd_Checker_checkFunction G bk_Checker_checkFunction_36 36 [qz_r true 1 l0, qz_i l1] [] h 0 0 (fn_Checker_checkFunction_36_b k36 l0 l1 h) := by
  unfold fn_Checker_checkFunction_36_b bk_Checker_checkFunction_36; exact
    qz_iload_n rfl <|
    qz_aload_n rfl <|
    qz_getR (k1 := 4) kg_1 fl_Checker_31 rfl rfl <|
    qz_nnd 0 rfl <|
    qz_getI kg_4 fl_Checker_70 rfl rfl <|
    qz_icmp_ge rfl ca_Checker_checkFunction_114
      (qz_fgt [1, 0] <| jb_Checker_checkFunction_114 G l0 h)
      (qz_aload_n rfl <|
        qz_getR (k1 := 4) kg_1 fl_Checker_31 rfl rfl <|
        qz_nnd 0 rfl <|
        qz_getI kg_4 fl_Checker_73 rfl rfl <|
        qz_iload_n rfl <|
        qz_iadd <|
        qz_bipush rfl <|
        qz_icmp_ge rfl ca_Checker_checkFunction_114
          (qz_fgt [1, 0] <| jb_Checker_checkFunction_114 G l0 h)
          (qz_aload_n rfl <|
            qz_aload_n rfl <|
            qz_getR (k1 := 6) kg_1 fl_Checker_21 rfl rfl <|
            qz_nnd 0 rfl <|
            qz_getR (k1 := 46) kg_6 fl_Checker_76 rfl rfl <|
            qz_aload_n rfl <|
            qz_getR (k1 := 4) kg_1 fl_Checker_31 rfl rfl <|
            qz_nnd 0 rfl <|
            qz_getI kg_4 fl_Checker_73 rfl rfl <|
            qz_iload_n rfl <|
            qz_iadd <|
            qz_nnd 1 rfl <|
            qz_aald (k0 := 46) (k1 := 7) rfl rfl rfl <|
            qz_aload_n rfl <|
            qz_getR (k1 := 6) kg_1 fl_Checker_21 rfl rfl <|
            qz_nnd 0 rfl <|
            qz_getR (k1 := 41) kg_6 fl_Checker_80 rfl rfl <|
            qz_aload_n rfl <|
            qz_getR (k1 := 4) kg_1 fl_Checker_31 rfl rfl <|
            qz_nnd 0 rfl <|
            qz_getI kg_4 fl_Checker_73 rfl rfl <|
            qz_iload_n rfl <|
            qz_iadd <|
            qz_nnd 1 rfl <|
            qz_lald (k0 := 41) rfl rfl rfl <|
            qz_invvV [qz_r false 7 (h (h (h l0 2) 1) (qz_w ((h (h l0 3) 4) + l1))), qz_j (h (h (h l0 2) 2) (qz_w ((h (h l0 3) 4) + l1)))] rfl (cn_Checker_check l0 (h (h (h l0 2) 1) (qz_w ((h (h l0 3) 4) + l1))) (h (h (h l0 2) 2) (qz_w ((h (h l0 3) 4) + l1))) h) mw_Checker_check vw_Checker_check ⟨_, rfl, rfl, by decide⟩ rfl rfl ln_Checker_84 rfl fun _ h2 =>
            qz_aload_n rfl <|
            qz_getI kg_1 fl_Checker_36 rfl rfl <|
            qz_if_eq rfl ca_Checker_checkFunction_108
              (qz_iinc rfl (by decide) fun x3 =>
                qz_goto rfl ca_Checker_checkFunction_36 <|
                qz_fgt [1, 1] <| jk36 l0 x3 h2)
              (qz_iload_n rfl <|
                qz_ireturn ⟨rfl, rfl⟩ rfl)))
theorem jb_Checker_checkFunction_36 (G : qz_G) : ∀ (n : Nat) (l0 l1 : Int) (h : qz_H), qz_J yd_Checker_checkFunction G bk_Checker_checkFunction_36 36 [qz_r true 1 l0, qz_i l1] [] h 0 0 (fn_Checker_checkFunction_36 n l0 l1 h)
  | 0, _, _, _ => qz_none
  | n + 1, l0, l1, h => jb_Checker_checkFunction_36_b G (fn_Checker_checkFunction_36 n) (jb_Checker_checkFunction_36 G n) l0 l1 h
set_option maxRecDepth 20000 in
theorem cn_Checker_checkFunction (l0 : Int) (h : qz_H) : qz_C yd_Checker_checkFunction [qz_r true 1 l0] h (fn_Checker_checkFunction l0 h) := by
  refine qz_con (is := bk_Checker_checkFunction_0) (ls := [qz_r true 1 l0, qz_u]) mw_Checker_checkFunction.2.2.2 ca_Checker_checkFunction_0 rfl rfl fun G => ?_
  unfold fn_Checker_checkFunction bk_Checker_checkFunction_0; exact
    qz_aload_n rfl <|
    qz_iconst rfl <|
    qz_putI kw_1 fp_Checker_55_Checker_checkFunction rfl rfl fun h1 =>
    qz_aload_n rfl <|
    qz_iconst rfl <|
    qz_putI kw_1 fp_Checker_58_Checker_checkFunction rfl rfl fun h2 =>
    qz_aload_n rfl <|
    qz_getR (k1 := 48) kg_1 fl_Checker_17 rfl rfl <|
    qz_iconst rfl <|
    qz_nnd 1 rfl <|
    qz_aald (k0 := 48) (k1 := 3) rfl rfl rfl <|
    qz_aload_n rfl <|
    qz_getR (k1 := 4) kg_1 fl_Checker_31 rfl rfl <|
    qz_nnd 0 rfl <|
    qz_getI kg_4 fl_Checker_61 rfl rfl <|
    qz_aload_n rfl <|
    qz_getR (k1 := 4) kg_1 fl_Checker_31 rfl rfl <|
    qz_nnd 0 rfl <|
    qz_getI kg_4 fl_Checker_61 rfl rfl <|
    qz_iconst rfl <|
    qz_nnd 3 rfl <|
    qz_invvV [qz_i (h2 (h2 l0 3) 3), qz_i (h2 (h2 l0 3) 3), qz_i 0] rfl (cn_Frame_begin (h2 (h2 l0 1) 0) (h2 (h2 l0 3) 3) (h2 (h2 l0 3) 3) 0 h2) mw_Frame_begin vw_Frame_begin ⟨_, rfl, rfl, by decide⟩ rfl rfl ln_Checker_66 rfl fun _ h4 =>
    qz_iconst rfl <|
    qz_istore_n (by decide) fun x5 =>
    qz_fall rfl ca_Checker_checkFunction_36 <|
    qz_fgt [1, 1] <| jb_Checker_checkFunction_36 G qz_NF l0 x5 h4
def fn_Checker_accepts_71 (h : qz_H) : Option qz_R :=
  qz_ck ((1 : Int) = 0 ∨ (1 : Int) = 1) (some (1, h))
def fn_Checker_accepts_12_b (k12 : Int → Int → qz_H → Option qz_R) (l0 : Int) (l2 : Int) (h : qz_H) : Option qz_R :=
  qz_ck ((h l0 2 : Int) ≠ 0) <|
  if h (h l0 2) 3 ≤ l2 then
    fn_Checker_accepts_71 h
  else
    if 4 ≤ l2 then
      fn_Checker_accepts_71 h
    else
      qz_ck ((h l0 2 : Int) ≠ 0) <|
      qz_ck ((h (h l0 2) 0 : Int) ≠ 0) <|
      qz_ck ((0 : Int) ≤ l2 ∧ l2 < h (h (h l0 2) 0) (-1)) <|
      qz_ck ((0 : Int) < l0) <|
      qz_bn (qz_up h l0 3 (h (h (h l0 2) 0) l2)) fun h1 =>
      qz_bc (fn_Checker_checkFunction l0 h1) fun r2 h3 =>
      qz_bn (r2 : Int) fun x4 =>
      if h3 l0 6 = 0 then
        qz_bn (qz_w (l2 + 1)) fun x5 =>
        k12 l0 x5 h3
      else
        qz_ck ((0 : Int) < l0) <|
        qz_bn (qz_up h3 l0 7 (qz_w ((qz_w (64 * l2)) + x4))) fun h6 =>
        qz_ck ((0 : Int) = 0 ∨ (0 : Int) = 1) (some (0, h6))
def fn_Checker_accepts_12 : Nat → Int → Int → qz_H → Option qz_R
  | 0, _, _, _ => none
  | n + 1, l0, l2, h => fn_Checker_accepts_12_b (fn_Checker_accepts_12 n) l0 l2 h
set_option maxRecDepth 20000 in
def fn_Checker_accepts (l0 : Int) (l1 : Int) (h : qz_H) : Option qz_R :=
  qz_ck ((0 : Int) < l0) <|
  qz_bn (qz_up h l0 2 l1) fun h1 =>
  qz_ck ((0 : Int) = 0 ∨ (0 : Int) = 1) <|
  qz_ck ((0 : Int) < l0) <|
  qz_bn (qz_up h1 l0 6 0) fun h2 =>
  qz_bn (0 : Int) fun x3 =>
  fn_Checker_accepts_12 qz_NF l0 x3 h2
def bk_Checker_accepts_0 : List (Instr × Nat) := [(.aload_n 0, 1), (.aload_n 1, 1), (.putfield 21, 3), (.aload_n 0, 1), (.iconst 0, 1), (.putfield 36, 3), (.iconst 0, 1), (.istore_n 2, 1)]
def bk_Checker_accepts_12 : List (Instr × Nat) := [(.iload_n 2, 1), (.aload_n 0, 1), (.getfield 21, 3), (.getfield 40, 3), (.if_icmp .ge 51, 3), (.iload_n 2, 1), (.iconst 4, 1), (.if_icmp .ge 46, 3), (.aload_n 0, 1), (.aload_n 0, 1), (.getfield 21, 3), (.getfield 44, 3), (.iload_n 2, 1), (.aaload, 1), (.putfield 31, 3), (.aload_n 0, 1), (.invokevirtual 48, 3), (.istore_n 3, 1), (.aload_n 0, 1), (.getfield 36, 3), (.ifCond .eq 15, 3), (.aload_n 0, 1), (.bipush 64, 2), (.iload_n 2, 1), (.imul, 1), (.iload_n 3, 1), (.iadd, 1), (.putfield 52, 3), (.iconst 0, 1), (.ireturn, 1)]
def bk_Checker_accepts_71 : List (Instr × Nat) := [(.iconst 1, 1), (.ireturn, 1)]
def bk_Checker_accepts_65 : List (Instr × Nat) := [(.iinc 2 1, 3), (.goto (-56), 3)]
theorem ca_Checker_accepts_0 : qz_ca yd_Checker_accepts.2.1 0 bk_Checker_accepts_0 := qz_cab_ok _ _ (by decide +kernel)
theorem ca_Checker_accepts_12 : qz_ca yd_Checker_accepts.2.1 12 bk_Checker_accepts_12 := qz_cab_ok _ _ (by decide +kernel)
theorem ca_Checker_accepts_71 : qz_ca yd_Checker_accepts.2.1 71 bk_Checker_accepts_71 := qz_cab_ok _ _ (by decide +kernel)
theorem ca_Checker_accepts_65 : qz_ca yd_Checker_accepts.2.1 65 bk_Checker_accepts_65 := qz_cab_ok _ _ (by decide +kernel)
set_option maxRecDepth 20000 in
theorem jb_Checker_accepts_71 (G : qz_G) (h : qz_H) : qz_J yd_Checker_accepts G bk_Checker_accepts_71 71 [qz_u, qz_u, qz_u, qz_u] [] h 0 0 (fn_Checker_accepts_71 h) := by
  unfold fn_Checker_accepts_71 bk_Checker_accepts_71; exact
    qz_iconst rfl <|
    qz_zreturn ⟨rfl, rfl⟩ rfl
set_option maxRecDepth 20000 in
theorem jb_Checker_accepts_12_b (G : qz_G) (k12 : Int → Int → qz_H → Option qz_R) (jk12 : ∀ (l0 : Int) (l2 : Int) (h : qz_H), qz_J yd_Checker_accepts G bk_Checker_accepts_12 12 [qz_r true 1 l0, qz_u, qz_i l2, qz_u] [] h 0 0 (k12 l0 l2 h)) (l0 : Int) (l2 : Int) (h : qz_H) : qz_J yd_Checker_accepts G bk_Checker_accepts_12 12 [qz_r true 1 l0, qz_u, qz_i l2, qz_u] [] h 0 0 (fn_Checker_accepts_12_b k12 l0 l2 h) := by
  unfold fn_Checker_accepts_12_b bk_Checker_accepts_12; exact
    qz_iload_n rfl <|
    qz_aload_n rfl <|
    qz_getR (k1 := 6) kg_1 fl_Checker_21 rfl rfl <|
    qz_nnd 0 rfl <|
    qz_getI kg_6 fl_Checker_40 rfl rfl <|
    qz_icmp_ge rfl ca_Checker_accepts_71
      (qz_fgt [0, 0, 0, 0] <| jb_Checker_accepts_71 G h)
      (qz_iload_n rfl <|
        qz_iconst rfl <|
        qz_icmp_ge rfl ca_Checker_accepts_71
          (qz_fgt [0, 0, 0, 0] <| jb_Checker_accepts_71 G h)
          (qz_aload_n rfl <|
            qz_aload_n rfl <|
            qz_getR (k1 := 6) kg_1 fl_Checker_21 rfl rfl <|
            qz_nnd 0 rfl <|
            qz_getR (k1 := 45) kg_6 fl_Checker_44 rfl rfl <|
            qz_iload_n rfl <|
            qz_nnd 1 rfl <|
            qz_aald (k0 := 45) (k1 := 4) rfl rfl rfl <|
            qz_putR (k1 := 4) kw_1 fp_Checker_31_Checker_accepts rfl rfl fun h1 =>
            qz_aload_n rfl <|
            qz_invvI [] rfl (cn_Checker_checkFunction l0 h1) mw_Checker_checkFunction vw_Checker_checkFunction ⟨_, rfl, rfl, by decide⟩ rfl rfl ln_Checker_48 rfl fun r2 h3 =>
            qz_istore_n (by decide) fun x4 =>
            qz_aload_n rfl <|
            qz_getI kg_1 fl_Checker_36 rfl rfl <|
            qz_if_eq rfl ca_Checker_accepts_65
              (qz_iinc rfl (by decide) fun x5 =>
                qz_goto rfl ca_Checker_accepts_12 <|
                qz_fgt [1, 0, 1, 0] <| jk12 l0 x5 h3)
              (qz_aload_n rfl <|
                qz_bipush rfl <|
                qz_iload_n rfl <|
                qz_imul <|
                qz_iload_n rfl <|
                qz_iadd <|
                qz_putI kw_1 fp_Checker_52_Checker_accepts rfl rfl fun h6 =>
                qz_iconst rfl <|
                qz_zreturn ⟨rfl, rfl⟩ rfl)))
theorem jb_Checker_accepts_12 (G : qz_G) : ∀ (n : Nat) (l0 l2 : Int) (h : qz_H), qz_J yd_Checker_accepts G bk_Checker_accepts_12 12 [qz_r true 1 l0, qz_u, qz_i l2, qz_u] [] h 0 0 (fn_Checker_accepts_12 n l0 l2 h)
  | 0, _, _, _ => qz_none
  | n + 1, l0, l2, h => jb_Checker_accepts_12_b G (fn_Checker_accepts_12 n) (jb_Checker_accepts_12 G n) l0 l2 h
set_option maxRecDepth 20000 in
theorem cn_Checker_accepts (l0 : Int) (l1 : Int) (h : qz_H) : qz_C yd_Checker_accepts [qz_r true 1 l0, qz_r false 6 l1] h (fn_Checker_accepts l0 l1 h) := by
  refine qz_con (is := bk_Checker_accepts_0) (ls := [qz_r true 1 l0, qz_r false 6 l1, qz_u, qz_u]) mw_Checker_accepts.2.2.2 ca_Checker_accepts_0 rfl rfl fun G => ?_
  unfold fn_Checker_accepts bk_Checker_accepts_0; exact
    qz_aload_n rfl <|
    qz_aload_n rfl <|
    qz_putR (k1 := 6) kw_1 fp_Checker_21_Checker_accepts rfl rfl fun h1 =>
    qz_aload_n rfl <|
    qz_iconst rfl <|
    qz_putZ kw_1 fp_Checker_36_Checker_accepts rfl rfl fun h2 =>
    qz_iconst rfl <|
    qz_istore_n (by decide) fun x3 =>
    qz_fall rfl ca_Checker_accepts_12 <|
    qz_fgt [1, 0, 1, 0] <| jb_Checker_accepts_12 G qz_NF l0 x3 h2
set_option maxRecDepth 20000 in
def fn_Function_begin (l0 : Int) (l1 : Int) (h : qz_H) : Option qz_R :=
  qz_ck ((0 : Int) < l0) <|
  qz_bn (qz_up h l0 1 0) fun h1 =>
  qz_ck ((0 : Int) < l0) <|
  qz_bn (qz_up h1 l0 2 0) fun h2 =>
  qz_ck ((0 : Int) < l0) <|
  qz_bn (qz_up h2 l0 3 0) fun h3 =>
  qz_ck ((0 : Int) < l0) <|
  qz_bn (qz_up h3 l0 4 l1) fun h4 =>
  qz_ck ((0 : Int) < l0) <|
  qz_bn (qz_up h4 l0 5 0) fun h5 =>
  some (0, h5)
def bk_Function_begin_0 : List (Instr × Nat) := [(.aload_n 0, 1), (.iconst 0, 1), (.putfield 15, 3), (.aload_n 0, 1), (.iconst 0, 1), (.putfield 19, 3), (.aload_n 0, 1), (.iconst 0, 1), (.putfield 22, 3), (.aload_n 0, 1), (.iload_n 1, 1), (.putfield 25, 3), (.aload_n 0, 1), (.iconst 0, 1), (.putfield 28, 3), (.return_, 1)]
theorem ca_Function_begin_0 : qz_ca yd_Function_begin.2.1 0 bk_Function_begin_0 := qz_cab_ok _ _ (by decide +kernel)
set_option maxRecDepth 20000 in
theorem cn_Function_begin (l0 : Int) (l1 : Int) (h : qz_H) : qz_C yd_Function_begin [qz_r true 4 l0, qz_i l1] h (fn_Function_begin l0 l1 h) := by
  refine qz_con (is := bk_Function_begin_0) (ls := [qz_r true 4 l0, qz_i l1]) mw_Function_begin.2.2.2 ca_Function_begin_0 rfl rfl fun G => ?_
  unfold fn_Function_begin bk_Function_begin_0; exact
    qz_aload_n rfl <|
    qz_iconst rfl <|
    qz_putI kw_4 fp_Function_15_Function_begin rfl rfl fun h1 =>
    qz_aload_n rfl <|
    qz_iconst rfl <|
    qz_putI kw_4 fp_Function_19_Function_begin rfl rfl fun h2 =>
    qz_aload_n rfl <|
    qz_iconst rfl <|
    qz_putI kw_4 fp_Function_22_Function_begin rfl rfl fun h3 =>
    qz_aload_n rfl <|
    qz_iload_n rfl <|
    qz_putI kw_4 fp_Function_25_Function_begin rfl rfl fun h4 =>
    qz_aload_n rfl <|
    qz_iconst rfl <|
    qz_putI kw_4 fp_Function_28_Function_begin rfl rfl fun h5 =>
    qz_return ⟨rfl, rfl⟩ rfl
def fn_Function_addLocal_16 (h : qz_H) : Option qz_R :=
  qz_ck ((0 : Int) = 0 ∨ (0 : Int) = 1) (some (0, h))
set_option maxRecDepth 20000 in
def fn_Function_addLocal (l0 : Int) (l1 : Int) (h : qz_H) : Option qz_R :=
  if h l0 2 < 0 then
    fn_Function_addLocal_16 h
  else
    if h l0 2 < 8 then
      qz_ck ((h l0 0 : Int) ≠ 0) <|
      qz_ck (0 < h l0 0 ∧ (0 : Int) ≤ h l0 2 ∧ h l0 2 < h (h l0 0) (-1)) <|
      qz_bn (qz_up h (h l0 0) (h l0 2) l1) fun h1 =>
      qz_ck ((0 : Int) < l0) <|
      qz_bn (qz_up h1 l0 2 (qz_w ((h1 l0 2) + 1))) fun h2 =>
      qz_ck ((1 : Int) = 0 ∨ (1 : Int) = 1) (some (1, h2))
    else
      fn_Function_addLocal_16 h
def bk_Function_addLocal_0 : List (Instr × Nat) := [(.aload_n 0, 1), (.getfield 19, 3), (.ifCond .lt 12, 3), (.aload_n 0, 1), (.getfield 19, 3), (.bipush 8, 2), (.if_icmp .lt 5, 3)]
def bk_Function_addLocal_16 : List (Instr × Nat) := [(.iconst 0, 1), (.ireturn, 1)]
def bk_Function_addLocal_18 : List (Instr × Nat) := [(.aload_n 0, 1), (.getfield 9, 3), (.aload_n 0, 1), (.getfield 19, 3), (.iload_n 1, 1), (.iastore, 1), (.aload_n 0, 1), (.dup, 1), (.getfield 19, 3), (.iconst 1, 1), (.iadd, 1), (.putfield 19, 3), (.iconst 1, 1), (.ireturn, 1)]
theorem ca_Function_addLocal_0 : qz_ca yd_Function_addLocal.2.1 0 bk_Function_addLocal_0 := qz_cab_ok _ _ (by decide +kernel)
theorem ca_Function_addLocal_16 : qz_ca yd_Function_addLocal.2.1 16 bk_Function_addLocal_16 := qz_cab_ok _ _ (by decide +kernel)
theorem ca_Function_addLocal_18 : qz_ca yd_Function_addLocal.2.1 18 bk_Function_addLocal_18 := qz_cab_ok _ _ (by decide +kernel)
set_option maxRecDepth 20000 in
theorem jb_Function_addLocal_16 (G : qz_G) (h : qz_H) : qz_J yd_Function_addLocal G bk_Function_addLocal_16 16 [qz_u, qz_u] [] h 0 0 (fn_Function_addLocal_16 h) := by
  unfold fn_Function_addLocal_16 bk_Function_addLocal_16; exact
    qz_iconst rfl <|
    qz_zreturn ⟨rfl, rfl⟩ rfl
set_option maxRecDepth 20000 in
theorem cn_Function_addLocal (l0 : Int) (l1 : Int) (h : qz_H) : qz_C yd_Function_addLocal [qz_r true 4 l0, qz_i l1] h (fn_Function_addLocal l0 l1 h) := by
  refine qz_con (is := bk_Function_addLocal_0) (ls := [qz_r true 4 l0, qz_i l1]) mw_Function_addLocal.2.2.2 ca_Function_addLocal_0 rfl rfl fun G => ?_
  unfold fn_Function_addLocal bk_Function_addLocal_0; exact
    qz_aload_n rfl <|
    qz_getI kg_4 fl_Function_19 rfl rfl <|
    qz_if_lt rfl ca_Function_addLocal_16
      (qz_fgt [0, 0] <| jb_Function_addLocal_16 G h)
      (qz_aload_n rfl <|
        qz_getI kg_4 fl_Function_19 rfl rfl <|
        qz_bipush rfl <|
        qz_icmp_lt rfl ca_Function_addLocal_18
          (qz_aload_n rfl <|
            qz_getR (k1 := 40) kg_4 fl_Function_9 rfl rfl <|
            qz_aload_n rfl <|
            qz_getI kg_4 fl_Function_19 rfl rfl <|
            qz_iload_n rfl <|
            qz_nnd 2 rfl <|
            qz_iast rfl rfl rfl fun h1 =>
            qz_aload_n rfl <|
            qz_dup rfl <|
            qz_getI kg_4 fl_Function_19 rfl rfl <|
            qz_iconst rfl <|
            qz_iadd <|
            qz_putI kw_4 fp_Function_19_Function_addLocal rfl rfl fun h2 =>
            qz_iconst rfl <|
            qz_zreturn ⟨rfl, rfl⟩ rfl)
          (qz_fall rfl ca_Function_addLocal_16 <|
            qz_fgt [0, 0] <| jb_Function_addLocal_16 G h))
def fn_Function_addParameter_17 (h : qz_H) : Option qz_R :=
  qz_ck ((0 : Int) = 0 ∨ (0 : Int) = 1) (some (0, h))
set_option maxRecDepth 20000 in
def fn_Function_addParameter (l0 : Int) (l1 : Int) (h : qz_H) : Option qz_R :=
  if 6 ≤ h l0 1 then
    fn_Function_addParameter_17 h
  else
    qz_bc (fn_Function_addLocal l0 l1 h) fun r1 h2 =>
    if ¬ r1 = 0 then
      qz_ck ((0 : Int) < l0) <|
      qz_bn (qz_up h2 l0 1 (qz_w ((h2 l0 1) + 1))) fun h3 =>
      qz_ck ((1 : Int) = 0 ∨ (1 : Int) = 1) (some (1, h3))
    else
      fn_Function_addParameter_17 h2
def bk_Function_addParameter_0 : List (Instr × Nat) := [(.aload_n 0, 1), (.getfield 15, 3), (.bipush 6, 2), (.if_icmp .ge 11, 3), (.aload_n 0, 1), (.iload_n 1, 1), (.invokevirtual 33, 3), (.ifCond .ne 5, 3)]
def bk_Function_addParameter_17 : List (Instr × Nat) := [(.iconst 0, 1), (.ireturn, 1)]
def bk_Function_addParameter_19 : List (Instr × Nat) := [(.aload_n 0, 1), (.dup, 1), (.getfield 15, 3), (.iconst 1, 1), (.iadd, 1), (.putfield 15, 3), (.iconst 1, 1), (.ireturn, 1)]
theorem ca_Function_addParameter_0 : qz_ca yd_Function_addParameter.2.1 0 bk_Function_addParameter_0 := qz_cab_ok _ _ (by decide +kernel)
theorem ca_Function_addParameter_17 : qz_ca yd_Function_addParameter.2.1 17 bk_Function_addParameter_17 := qz_cab_ok _ _ (by decide +kernel)
theorem ca_Function_addParameter_19 : qz_ca yd_Function_addParameter.2.1 19 bk_Function_addParameter_19 := qz_cab_ok _ _ (by decide +kernel)
set_option maxRecDepth 20000 in
theorem jb_Function_addParameter_17 (G : qz_G) (h : qz_H) : qz_J yd_Function_addParameter G bk_Function_addParameter_17 17 [qz_u, qz_u] [] h 0 0 (fn_Function_addParameter_17 h) := by
  unfold fn_Function_addParameter_17 bk_Function_addParameter_17; exact
    qz_iconst rfl <|
    qz_zreturn ⟨rfl, rfl⟩ rfl
set_option maxRecDepth 20000 in
theorem cn_Function_addParameter (l0 : Int) (l1 : Int) (h : qz_H) : qz_C yd_Function_addParameter [qz_r true 4 l0, qz_i l1] h (fn_Function_addParameter l0 l1 h) := by
  refine qz_con (is := bk_Function_addParameter_0) (ls := [qz_r true 4 l0, qz_i l1]) mw_Function_addParameter.2.2.2 ca_Function_addParameter_0 rfl rfl fun G => ?_
  unfold fn_Function_addParameter bk_Function_addParameter_0; exact
    qz_aload_n rfl <|
    qz_getI kg_4 fl_Function_15 rfl rfl <|
    qz_bipush rfl <|
    qz_icmp_ge rfl ca_Function_addParameter_17
      (qz_fgt [0, 0] <| jb_Function_addParameter_17 G h)
      (qz_aload_n rfl <|
        qz_iload_n rfl <|
        qz_invvI [qz_i l1] rfl (cn_Function_addLocal l0 l1 h) mw_Function_addLocal vw_Function_addLocal ⟨_, rfl, rfl, by decide⟩ rfl rfl ln_Function_33 rfl fun r1 h2 =>
        qz_if_ne rfl ca_Function_addParameter_19
          (qz_aload_n rfl <|
            qz_dup rfl <|
            qz_getI kg_4 fl_Function_15 rfl rfl <|
            qz_iconst rfl <|
            qz_iadd <|
            qz_putI kw_4 fp_Function_15_Function_addParameter rfl rfl fun h3 =>
            qz_iconst rfl <|
            qz_zreturn ⟨rfl, rfl⟩ rfl)
          (qz_fall rfl ca_Function_addParameter_17 <|
            qz_fgt [0, 0] <| jb_Function_addParameter_17 G h2))
set_option maxRecDepth 20000 in
def fn_Level_begin (l0 : Int) (l1 : Int) (h : qz_H) : Option qz_R :=
  qz_ck ((0 : Int) < l0) <|
  qz_bn (qz_up h l0 0 l1) fun h1 =>
  qz_ck ((0 : Int) < l0) <|
  qz_bn (qz_up h1 l0 1 0) fun h2 =>
  qz_ck ((0 : Int) < l0) <|
  qz_bn (qz_up h2 l0 2 (-1)) fun h3 =>
  qz_ck ((0 : Int) < l0) <|
  qz_bn (qz_up h3 l0 3 (-2)) fun h4 =>
  qz_ck ((0 : Int) < l0) <|
  qz_bn (qz_up h4 l0 4 0) fun h5 =>
  some (0, h5)
def bk_Level_begin_0 : List (Instr × Nat) := [(.aload_n 0, 1), (.iload_n 1, 1), (.putfield 18, 3), (.aload_n 0, 1), (.iconst 0, 1), (.putfield 22, 3), (.aload_n 0, 1), (.iconst (-1), 1), (.putfield 27, 3), (.aload_n 0, 1), (.getstatic 7, 3), (.putfield 13, 3), (.aload_n 0, 1), (.lconst 0, 1), (.putfield 30, 3), (.return_, 1)]
theorem ca_Level_begin_0 : qz_ca yd_Level_begin.2.1 0 bk_Level_begin_0 := qz_cab_ok _ _ (by decide +kernel)
set_option maxRecDepth 20000 in
theorem cn_Level_begin (l0 : Int) (l1 : Int) (h : qz_H) : qz_C yd_Level_begin [qz_r true 5 l0, qz_i l1] h (fn_Level_begin l0 l1 h) := by
  refine qz_con (is := bk_Level_begin_0) (ls := [qz_r true 5 l0, qz_i l1]) mw_Level_begin.2.2.2 ca_Level_begin_0 rfl rfl fun G => ?_
  unfold fn_Level_begin bk_Level_begin_0; exact
    qz_aload_n rfl <|
    qz_iload_n rfl <|
    qz_putI kw_5 fp_Level_18_Level_begin rfl rfl fun h1 =>
    qz_aload_n rfl <|
    qz_iconst rfl <|
    qz_putI kw_5 fp_Level_22_Level_begin rfl rfl fun h2 =>
    qz_aload_n rfl <|
    qz_iconst rfl <|
    qz_putI kw_5 fp_Level_27_Level_begin rfl rfl fun h3 =>
    qz_aload_n rfl <|
    qz_getsR sz_Op_NOP sl_Level_7 rfl <|
    qz_putR (k1 := 7) kw_5 fp_Level_13_Level_begin rfl rfl fun h4 =>
    qz_aload_n rfl <|
    qz_lconst rfl <|
    qz_putJ kw_5 fp_Level_30_Level_begin rfl rfl fun h5 =>
    qz_return ⟨rfl, rfl⟩ rfl
def fn_Level_isBlock_23 (s0 : Int) (h : qz_H) : Option qz_R :=
  qz_ck ((s0 : Int) = 0 ∨ (s0 : Int) = 1) (some (s0, h))
def fn_Level_isBlock_18 (h : qz_H) : Option qz_R :=
  fn_Level_isBlock_23 1 h
set_option maxRecDepth 20000 in
def fn_Level_isBlock (l0 : Int) (h : qz_H) : Option qz_R :=
  if h l0 0 = 8 then
    fn_Level_isBlock_18 h
  else
    if ¬ h l0 0 = 9 then
      fn_Level_isBlock_23 0 h
    else
      fn_Level_isBlock_18 h
def bk_Level_isBlock_0 : List (Instr × Nat) := [(.aload_n 0, 1), (.getfield 18, 3), (.bipush 8, 2), (.if_icmp .eq 12, 3), (.aload_n 0, 1), (.getfield 18, 3), (.bipush 9, 2), (.if_icmp .ne 7, 3)]
def bk_Level_isBlock_18 : List (Instr × Nat) := [(.iconst 1, 1), (.goto 4, 3)]
def bk_Level_isBlock_22 : List (Instr × Nat) := [(.iconst 0, 1)]
def bk_Level_isBlock_23 : List (Instr × Nat) := [(.ireturn, 1)]
theorem ca_Level_isBlock_0 : qz_ca yd_Level_isBlock.2.1 0 bk_Level_isBlock_0 := qz_cab_ok _ _ (by decide +kernel)
theorem ca_Level_isBlock_18 : qz_ca yd_Level_isBlock.2.1 18 bk_Level_isBlock_18 := qz_cab_ok _ _ (by decide +kernel)
theorem ca_Level_isBlock_22 : qz_ca yd_Level_isBlock.2.1 22 bk_Level_isBlock_22 := qz_cab_ok _ _ (by decide +kernel)
theorem ca_Level_isBlock_23 : qz_ca yd_Level_isBlock.2.1 23 bk_Level_isBlock_23 := qz_cab_ok _ _ (by decide +kernel)
set_option maxRecDepth 20000 in
theorem jb_Level_isBlock_23 (G : qz_G) (s0 : Int) (h : qz_H) : qz_J yd_Level_isBlock G bk_Level_isBlock_23 23 [qz_u] [qz_i s0] h 0 0 (fn_Level_isBlock_23 s0 h) := by
  unfold fn_Level_isBlock_23 bk_Level_isBlock_23; exact
    qz_zreturn ⟨rfl, rfl⟩ rfl
set_option maxRecDepth 20000 in
theorem jb_Level_isBlock_18 (G : qz_G) (h : qz_H) : qz_J yd_Level_isBlock G bk_Level_isBlock_18 18 [qz_u] [] h 0 0 (fn_Level_isBlock_18 h) := by
  unfold fn_Level_isBlock_18 bk_Level_isBlock_18; exact
    qz_iconst rfl <|
    qz_goto rfl ca_Level_isBlock_23 <|
    qz_fgt [0] <| jb_Level_isBlock_23 G 1 h
set_option maxRecDepth 20000 in
theorem cn_Level_isBlock (l0 : Int) (h : qz_H) : qz_C yd_Level_isBlock [qz_r true 5 l0] h (fn_Level_isBlock l0 h) := by
  refine qz_con (is := bk_Level_isBlock_0) (ls := [qz_r true 5 l0]) mw_Level_isBlock.2.2.2 ca_Level_isBlock_0 rfl rfl fun G => ?_
  unfold fn_Level_isBlock bk_Level_isBlock_0; exact
    qz_aload_n rfl <|
    qz_getI kg_5 fl_Level_18 rfl rfl <|
    qz_bipush rfl <|
    qz_icmp_eq rfl ca_Level_isBlock_18
      (qz_fgt [0] <| jb_Level_isBlock_18 G h)
      (qz_aload_n rfl <|
        qz_getI kg_5 fl_Level_18 rfl rfl <|
        qz_bipush rfl <|
        qz_icmp_ne rfl ca_Level_isBlock_22
          (qz_iconst rfl <|
            qz_fall rfl ca_Level_isBlock_23 <|
            qz_fgt [0] <| jb_Level_isBlock_23 G 0 h)
          (qz_fall rfl ca_Level_isBlock_18 <|
            qz_fgt [0] <| jb_Level_isBlock_18 G h))
set_option maxRecDepth 20000 in
def fn_Module_clear (l0 : Int) (h : qz_H) : Option qz_R :=
  qz_ck ((0 : Int) < l0) <|
  qz_bn (qz_up h l0 3 0) fun h1 =>
  qz_ck ((0 : Int) < l0) <|
  qz_bn (qz_up h1 l0 4 0) fun h2 =>
  some (0, h2)
def bk_Module_clear_0 : List (Instr × Nat) := [(.aload_n 0, 1), (.iconst 0, 1), (.putfield 32, 3), (.aload_n 0, 1), (.iconst 0, 1), (.putfield 36, 3), (.return_, 1)]
theorem ca_Module_clear_0 : qz_ca yd_Module_clear.2.1 0 bk_Module_clear_0 := qz_cab_ok _ _ (by decide +kernel)
set_option maxRecDepth 20000 in
theorem cn_Module_clear (l0 : Int) (h : qz_H) : qz_C yd_Module_clear [qz_r true 6 l0] h (fn_Module_clear l0 h) := by
  refine qz_con (is := bk_Module_clear_0) (ls := [qz_r true 6 l0]) mw_Module_clear.2.2.2 ca_Module_clear_0 rfl rfl fun G => ?_
  unfold fn_Module_clear bk_Module_clear_0; exact
    qz_aload_n rfl <|
    qz_iconst rfl <|
    qz_putI kw_6 fp_Module_32_Module_clear rfl rfl fun h1 =>
    qz_aload_n rfl <|
    qz_iconst rfl <|
    qz_putI kw_6 fp_Module_36_Module_clear rfl rfl fun h2 =>
    qz_return ⟨rfl, rfl⟩ rfl
set_option maxRecDepth 20000 in
def fn_Module_addFunction (l0 : Int) (h : qz_H) : Option qz_R :=
  if h l0 3 < 4 then
    qz_ck ((0 : Int) < l0) <|
    qz_bn (qz_up h l0 3 (qz_w ((h l0 3) + 1))) fun h1 =>
    qz_bc (fn_Module_latest l0 h1) fun r2 h3 =>
    qz_ck ((r2 : Int) ≠ 0) <|
    qz_bc (fn_Function_begin r2 (h3 l0 4) h3) fun _ h5 =>
    qz_ck ((1 : Int) = 0 ∨ (1 : Int) = 1) (some (1, h5))
  else
    qz_ck ((0 : Int) = 0 ∨ (0 : Int) = 1) (some (0, h))
def bk_Module_addFunction_0 : List (Instr × Nat) := [(.aload_n 0, 1), (.getfield 32, 3), (.iconst 4, 1), (.if_icmp .lt 5, 3), (.iconst 0, 1), (.ireturn, 1)]
def bk_Module_addFunction_10 : List (Instr × Nat) := [(.aload_n 0, 1), (.dup, 1), (.getfield 32, 3), (.iconst 1, 1), (.iadd, 1), (.putfield 32, 3), (.aload_n 0, 1), (.invokevirtual 60, 3), (.aload_n 0, 1), (.getfield 36, 3), (.invokevirtual 64, 3), (.iconst 1, 1), (.ireturn, 1)]
theorem ca_Module_addFunction_0 : qz_ca yd_Module_addFunction.2.1 0 bk_Module_addFunction_0 := qz_cab_ok _ _ (by decide +kernel)
theorem ca_Module_addFunction_10 : qz_ca yd_Module_addFunction.2.1 10 bk_Module_addFunction_10 := qz_cab_ok _ _ (by decide +kernel)
set_option maxRecDepth 20000 in
theorem cn_Module_addFunction (l0 : Int) (h : qz_H) : qz_C yd_Module_addFunction [qz_r true 6 l0] h (fn_Module_addFunction l0 h) := by
  refine qz_con (is := bk_Module_addFunction_0) (ls := [qz_r true 6 l0]) mw_Module_addFunction.2.2.2 ca_Module_addFunction_0 rfl rfl fun G => ?_
  unfold fn_Module_addFunction bk_Module_addFunction_0; exact
    qz_aload_n rfl <|
    qz_getI kg_6 fl_Module_32 rfl rfl <|
    qz_iconst rfl <|
    qz_icmp_lt rfl ca_Module_addFunction_10
      (qz_aload_n rfl <|
        qz_dup rfl <|
        qz_getI kg_6 fl_Module_32 rfl rfl <|
        qz_iconst rfl <|
        qz_iadd <|
        qz_putI kw_6 fp_Module_32_Module_addFunction rfl rfl fun h1 =>
        qz_aload_n rfl <|
        qz_invvR [] rfl (cn_Module_latest l0 h1) mw_Module_latest vw_Module_latest ⟨_, rfl, rfl, by decide⟩ rfl rfl ln_Module_60 rfl fun r2 h3 =>
        qz_aload_n rfl <|
        qz_getI kg_6 fl_Module_36 rfl rfl <|
        qz_nnd 1 rfl <|
        qz_invvV [qz_i (h3 l0 4)] rfl (cn_Function_begin r2 (h3 l0 4) h3) mw_Function_begin vw_Function_begin ⟨_, rfl, rfl, by decide⟩ rfl rfl ln_Module_64 rfl fun _ h5 =>
        qz_iconst rfl <|
        qz_zreturn ⟨rfl, rfl⟩ rfl)
      (qz_iconst rfl <|
        qz_zreturn ⟨rfl, rfl⟩ rfl)
