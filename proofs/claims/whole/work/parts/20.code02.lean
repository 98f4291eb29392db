def fn_Reader_inOperand_81 (h : qz_H) : Option qz_R :=
  some (1, h)
def fn_Reader_inOperand_106 (h : qz_H) : Option qz_R :=
  some (0, h)
def fn_Reader_inOperand_53 (l0 : Int) (l1 : Int) (l2 : Int) (s0 : Int) (h : qz_H) : Option qz_R :=
  qz_bn (s0 : Int) fun x1 =>
  qz_ck ((0 : Int) = 0 ∨ (0 : Int) = 1) <|
  qz_ck ((0 : Int) < l0) <|
  qz_bn (qz_up h l0 6 0) fun h2 =>
  qz_ck ((h2 l0 0 : Int) ≠ 0) <|
  if ¬ h2 (h2 l0 0) 1 = 2 then
    fn_Reader_inOperand_81 h2
  else
    qz_ck ((x1 : Int) ≠ 0) <|
    qz_bc (fn_Reader_readOperand l0 (h2 x1 2) h2) fun r3 h4 =>
    if ¬ r3 = 0 then
      if l2 = 0 then
        qz_bc (fn_Reader_setLatestOperand l0 (h4 l0 8) h4) fun _ h6 =>
        fn_Reader_inOperand_106 h6
      else
        qz_ck ((l1 : Int) ≠ 0) <|
        qz_ck ((0 : Int) < l1) <|
        qz_bn (qz_up h4 l1 4 (h4 l0 8)) fun h7 =>
        fn_Reader_inOperand_106 h7
    else
      fn_Reader_inOperand_81 h4
def fn_Reader_inOperand_29 (l0 : Int) (l1 : Int) (l2 : Int) (h : qz_H) : Option qz_R :=
  qz_ck ((l1 : Int) ≠ 0) <|
  fn_Reader_inOperand_53 l0 l1 l2 (h l1 3) h
def fn_Reader_inOperand_14 (l0 : Int) (l1 : Int) (s0 : Int) (h : qz_H) : Option qz_R :=
  qz_bn (s0 : Int) fun x1 =>
  if ¬ x1 = 0 then
    fn_Reader_inOperand_29 l0 l1 x1 h
  else
    qz_ck ((h l0 4 : Int) ≠ 0) <|
    if 0 < h (h l0 4) 4 then
      qz_ck ((h l0 4 : Int) ≠ 0) <|
      qz_ck ((h l0 4 : Int) ≠ 0) <|
      qz_ck ((h (h l0 4) 1 : Int) ≠ 0) <|
      qz_ck ((0 : Int) ≤ qz_w ((h (h l0 4) 4) - 1) ∧ qz_w ((h (h l0 4) 4) - 1) < h (h (h l0 4) 1) (-1)) <|
      fn_Reader_inOperand_53 l0 l1 x1 (h (h (h l0 4) 1) (qz_w ((h (h l0 4) 4) - 1))) h
    else
      fn_Reader_inOperand_29 l0 l1 x1 h
set_option maxRecDepth 20000 in
def fn_Reader_inOperand (l0 : Int) (l1 : Int) (h : qz_H) : Option qz_R :=
  qz_ck ((l1 : Int) ≠ 0) <|
  if ¬ h l1 0 = 7 then
    fn_Reader_inOperand_14 l0 l1 0 h
  else
    fn_Reader_inOperand_14 l0 l1 1 h
def bk_Reader_inOperand_0 : List (Instr × Nat) := [(.aload_n 1, 1), (.getfield 83, 3), (.bipush 7, 2), (.if_icmp .ne 7, 3), (.iconst 1, 1), (.goto 4, 3)]
def bk_Reader_inOperand_13 : List (Instr × Nat) := [(.iconst 0, 1)]
def bk_Reader_inOperand_14 : List (Instr × Nat) := [(.istore_n 2, 1), (.iload_n 2, 1), (.ifCond .ne 13, 3), (.aload_n 0, 1), (.getfield 24, 3), (.getfield 214, 3), (.ifCond .gt 10, 3)]
def bk_Reader_inOperand_29 : List (Instr × Nat) := [(.aload_n 1, 1), (.getfield 163, 3), (.goto 20, 3)]
def bk_Reader_inOperand_36 : List (Instr × Nat) := [(.aload_n 0, 1), (.getfield 24, 3), (.getfield 253, 3), (.aload_n 0, 1), (.getfield 24, 3), (.getfield 214, 3), (.iconst 1, 1), (.isub, 1), (.aaload, 1)]
def bk_Reader_inOperand_53 : List (Instr × Nat) := [(.astore_n 3, 1), (.aload_n 0, 1), (.iconst 0, 1), (.putfield 53, 3), (.aload_n 0, 1), (.getfield 33, 3), (.getfield 73, 3), (.iconst 2, 1), (.if_icmp .ne 14, 3), (.aload_n 0, 1), (.aload_n 3, 1), (.getfield 257, 3), (.invokevirtual 259, 3), (.ifCond .ne 5, 3)]
def bk_Reader_inOperand_81 : List (Instr × Nat) := [(.iconst 1, 1), (.ireturn, 1)]
def bk_Reader_inOperand_83 : List (Instr × Nat) := [(.iload_n 2, 1), (.ifCond .eq 14, 3), (.aload_n 1, 1), (.aload_n 0, 1), (.getfield 262, 3), (.putfield 166, 3), (.goto 11, 3)]
def bk_Reader_inOperand_98 : List (Instr × Nat) := [(.aload_n 0, 1), (.aload_n 0, 1), (.getfield 262, 3), (.invokevirtual 210, 3)]
def bk_Reader_inOperand_106 : List (Instr × Nat) := [(.iconst 0, 1), (.ireturn, 1)]
theorem ca_Reader_inOperand_0 : qz_ca yd_Reader_inOperand.2.1 0 bk_Reader_inOperand_0 := qz_cab_ok _ _ (by decide +kernel)
theorem ca_Reader_inOperand_13 : qz_ca yd_Reader_inOperand.2.1 13 bk_Reader_inOperand_13 := qz_cab_ok _ _ (by decide +kernel)
theorem ca_Reader_inOperand_14 : qz_ca yd_Reader_inOperand.2.1 14 bk_Reader_inOperand_14 := qz_cab_ok _ _ (by decide +kernel)
theorem ca_Reader_inOperand_29 : qz_ca yd_Reader_inOperand.2.1 29 bk_Reader_inOperand_29 := qz_cab_ok _ _ (by decide +kernel)
theorem ca_Reader_inOperand_36 : qz_ca yd_Reader_inOperand.2.1 36 bk_Reader_inOperand_36 := qz_cab_ok _ _ (by decide +kernel)
theorem ca_Reader_inOperand_53 : qz_ca yd_Reader_inOperand.2.1 53 bk_Reader_inOperand_53 := qz_cab_ok _ _ (by decide +kernel)
theorem ca_Reader_inOperand_81 : qz_ca yd_Reader_inOperand.2.1 81 bk_Reader_inOperand_81 := qz_cab_ok _ _ (by decide +kernel)
theorem ca_Reader_inOperand_83 : qz_ca yd_Reader_inOperand.2.1 83 bk_Reader_inOperand_83 := qz_cab_ok _ _ (by decide +kernel)
theorem ca_Reader_inOperand_98 : qz_ca yd_Reader_inOperand.2.1 98 bk_Reader_inOperand_98 := qz_cab_ok _ _ (by decide +kernel)
theorem ca_Reader_inOperand_106 : qz_ca yd_Reader_inOperand.2.1 106 bk_Reader_inOperand_106 := qz_cab_ok _ _ (by decide +kernel)
set_option maxRecDepth 20000 in
theorem jb_Reader_inOperand_81 (G : qz_G) (h : qz_H) : qz_J yd_Reader_inOperand G bk_Reader_inOperand_81 81 [qz_u, qz_u, qz_u, qz_u] [] h 0 0 (fn_Reader_inOperand_81 h) := by
  unfold fn_Reader_inOperand_81 bk_Reader_inOperand_81; exact
    qz_iconst rfl <|
    qz_ireturn ⟨rfl, rfl⟩ rfl
set_option maxRecDepth 20000 in
theorem jb_Reader_inOperand_106 (G : qz_G) (h : qz_H) : qz_J yd_Reader_inOperand G bk_Reader_inOperand_106 106 [qz_u, qz_u, qz_u, qz_u] [] h 0 0 (fn_Reader_inOperand_106 h) := by
  unfold fn_Reader_inOperand_106 bk_Reader_inOperand_106; exact
    qz_iconst rfl <|
    qz_ireturn ⟨rfl, rfl⟩ rfl
set_option maxRecDepth 20000 in
theorem jb_Reader_inOperand_53 (G : qz_G) (l0 : Int) (l1 : Int) (l2 : Int) (s0 : Int) (h : qz_H) : qz_J yd_Reader_inOperand G bk_Reader_inOperand_53 53 [qz_r true 9 l0, qz_r false 5 l1, qz_i l2, qz_u] [qz_r false 7 s0] h 0 0 (fn_Reader_inOperand_53 l0 l1 l2 s0 h) := by
  unfold fn_Reader_inOperand_53 bk_Reader_inOperand_53; exact
    qz_astore_n (by decide) fun x1 =>
    qz_aload_n rfl <|
    qz_iconst rfl <|
    qz_putZ kw_9 fp_Reader_53_Reader_inOperand rfl rfl fun h2 =>
    qz_aload_n rfl <|
    qz_getR (k1 := 10) kg_9 fl_Reader_33 rfl rfl <|
    qz_nnd 0 rfl <|
    qz_getI kg_10 fl_Reader_73 rfl rfl <|
    qz_iconst rfl <|
    qz_icmp_ne rfl ca_Reader_inOperand_81
      (qz_fgt [0, 0, 0, 0] <| jb_Reader_inOperand_81 G h2)
      (qz_aload_n rfl <|
        qz_aload_n rfl <|
        qz_nnd 0 rfl <|
        qz_getI kg_7 fl_Reader_257 rfl rfl <|
        qz_invvI [qz_i (h2 x1 2)] rfl (cn_Reader_readOperand l0 (h2 x1 2) h2) mw_Reader_readOperand vw_Reader_readOperand ⟨_, rfl, rfl, by decide⟩ rfl rfl ln_Reader_259 rfl fun r3 h4 =>
        qz_if_ne rfl ca_Reader_inOperand_83
          (qz_iload_n rfl <|
            qz_if_eq rfl ca_Reader_inOperand_98
              (qz_aload_n rfl <|
                qz_aload_n rfl <|
                qz_getJ kg_9 fl_Reader_262 rfl rfl <|
                qz_invvV [qz_j (h4 l0 8)] rfl (cn_Reader_setLatestOperand l0 (h4 l0 8) h4) mw_Reader_setLatestOperand vw_Reader_setLatestOperand ⟨_, rfl, rfl, by decide⟩ rfl rfl ln_Reader_210 rfl fun _ h6 =>
                qz_fall rfl ca_Reader_inOperand_106 <|
                qz_fgt [0, 0, 0, 0] <| jb_Reader_inOperand_106 G h6)
              (qz_aload_n rfl <|
                qz_aload_n rfl <|
                qz_getJ kg_9 fl_Reader_262 rfl rfl <|
                qz_nnd 1 rfl <|
                qz_putJ kw_5 fp_Reader_166_Reader_inOperand rfl rfl fun h7 =>
                qz_goto rfl ca_Reader_inOperand_106 <|
                qz_fgt [0, 0, 0, 0] <| jb_Reader_inOperand_106 G h7))
          (qz_fall rfl ca_Reader_inOperand_81 <|
            qz_fgt [0, 0, 0, 0] <| jb_Reader_inOperand_81 G h4))
set_option maxRecDepth 20000 in
theorem jb_Reader_inOperand_29 (G : qz_G) (l0 : Int) (l1 : Int) (l2 : Int) (h : qz_H) : qz_J yd_Reader_inOperand G bk_Reader_inOperand_29 29 [qz_r true 9 l0, qz_r false 5 l1, qz_i l2, qz_u] [] h 0 0 (fn_Reader_inOperand_29 l0 l1 l2 h) := by
  unfold fn_Reader_inOperand_29 bk_Reader_inOperand_29; exact
    qz_aload_n rfl <|
    qz_nnd 0 rfl <|
    qz_getR (k1 := 7) kg_5 fl_Reader_163 rfl rfl <|
    qz_goto rfl ca_Reader_inOperand_53 <|
    qz_fgt [1, 1, 1, 0] <| jb_Reader_inOperand_53 G l0 l1 l2 (h l1 3) h
set_option maxRecDepth 20000 in
theorem jb_Reader_inOperand_14 (G : qz_G) (l0 : Int) (l1 : Int) (s0 : Int) (h : qz_H) : qz_J yd_Reader_inOperand G bk_Reader_inOperand_14 14 [qz_r true 9 l0, qz_r false 5 l1, qz_u, qz_u] [qz_i s0] h 0 0 (fn_Reader_inOperand_14 l0 l1 s0 h) := by
  unfold fn_Reader_inOperand_14 bk_Reader_inOperand_14; exact
    qz_istore_n (by decide) fun x1 =>
    qz_iload_n rfl <|
    qz_if_ne rfl ca_Reader_inOperand_29
      (qz_fgt [1, 1, 1, 0] <| jb_Reader_inOperand_29 G l0 l1 x1 h)
      (qz_aload_n rfl <|
        qz_getR (k1 := 6) kg_9 fl_Reader_24 rfl rfl <|
        qz_nnd 0 rfl <|
        qz_getI kg_6 fl_Reader_214 rfl rfl <|
        qz_if_gt rfl ca_Reader_inOperand_36
          (qz_aload_n rfl <|
            qz_getR (k1 := 6) kg_9 fl_Reader_24 rfl rfl <|
            qz_nnd 0 rfl <|
            qz_getR (k1 := 46) kg_6 fl_Reader_253 rfl rfl <|
            qz_aload_n rfl <|
            qz_getR (k1 := 6) kg_9 fl_Reader_24 rfl rfl <|
            qz_nnd 0 rfl <|
            qz_getI kg_6 fl_Reader_214 rfl rfl <|
            qz_iconst rfl <|
            qz_isub <|
            qz_nnd 1 rfl <|
            qz_aald (k0 := 46) (k1 := 7) rfl rfl rfl <|
            qz_fall rfl ca_Reader_inOperand_53 <|
            qz_fgt [1, 1, 1, 0] <| jb_Reader_inOperand_53 G l0 l1 x1 (h (h (h l0 4) 1) (qz_w ((h (h l0 4) 4) - 1))) h)
          (qz_fall rfl ca_Reader_inOperand_29 <|
            qz_fgt [1, 1, 1, 0] <| jb_Reader_inOperand_29 G l0 l1 x1 h))
set_option maxRecDepth 20000 in
theorem cn_Reader_inOperand (l0 : Int) (l1 : Int) (h : qz_H) : qz_C yd_Reader_inOperand [qz_r true 9 l0, qz_r false 5 l1] h (fn_Reader_inOperand l0 l1 h) := by
  refine qz_con (is := bk_Reader_inOperand_0) (ls := [qz_r true 9 l0, qz_r false 5 l1, qz_u, qz_u]) mw_Reader_inOperand.2.2.2 ca_Reader_inOperand_0 rfl rfl rfl fun G => ?_
  unfold fn_Reader_inOperand bk_Reader_inOperand_0; exact
    qz_aload_n rfl <|
    qz_nnd 0 rfl <|
    qz_getI kg_5 fl_Reader_83 rfl rfl <|
    qz_bipush rfl <|
    qz_icmp_ne rfl ca_Reader_inOperand_13
      (qz_iconst rfl <|
        qz_fall rfl ca_Reader_inOperand_14 <|
        qz_fgt [1, 1, 0, 0] <| jb_Reader_inOperand_14 G l0 l1 0 h)
      (qz_iconst rfl <|
        qz_goto rfl ca_Reader_inOperand_14 <|
        qz_fgt [1, 1, 0, 0] <| jb_Reader_inOperand_14 G l0 l1 1 h)
set_option maxRecDepth 20000 in
def fn_Reader_push (l0 : Int) (l1 : Int) (h : qz_H) : Option qz_R :=
  if h l0 5 < 12 then
    qz_ck ((0 : Int) < l0) <|
    qz_bn (qz_up h l0 5 (qz_w ((h l0 5) + 1))) fun h1 =>
    qz_ck ((h1 l0 1 : Int) ≠ 0) <|
    qz_ck ((0 : Int) ≤ h1 l0 5 ∧ h1 l0 5 < h1 (h1 l0 1) (-1)) <|
    qz_ck ((h1 (h1 l0 1) (h1 l0 5) : Int) ≠ 0) <|
    qz_bc (fn_Level_begin (h1 (h1 l0 1) (h1 l0 5)) l1 h1) fun _ h3 =>
    qz_ck ((1 : Int) = 0 ∨ (1 : Int) = 1) (some (1, h3))
  else
    qz_ck ((0 : Int) = 0 ∨ (0 : Int) = 1) (some (0, h))
def bk_Reader_push_0 : List (Instr × Nat) := [(.aload_n 0, 1), (.getfield 46, 3), (.bipush 12, 2), (.if_icmp .lt 5, 3), (.iconst 0, 1), (.ireturn, 1)]
def bk_Reader_push_11 : List (Instr × Nat) := [(.aload_n 0, 1), (.dup, 1), (.getfield 46, 3), (.iconst 1, 1), (.iadd, 1), (.putfield 46, 3), (.aload_n 0, 1), (.getfield 11, 3), (.aload_n 0, 1), (.getfield 46, 3), (.aaload, 1), (.iload_n 1, 1), (.invokevirtual 50, 3), (.iconst 1, 1), (.ireturn, 1)]
theorem ca_Reader_push_0 : qz_ca yd_Reader_push.2.1 0 bk_Reader_push_0 := qz_cab_ok _ _ (by decide +kernel)
theorem ca_Reader_push_11 : qz_ca yd_Reader_push.2.1 11 bk_Reader_push_11 := qz_cab_ok _ _ (by decide +kernel)
set_option maxRecDepth 20000 in
theorem cn_Reader_push (l0 : Int) (l1 : Int) (h : qz_H) : qz_C yd_Reader_push [qz_r true 9 l0, qz_i l1] h (fn_Reader_push l0 l1 h) := by
  refine qz_con (is := bk_Reader_push_0) (ls := [qz_r true 9 l0, qz_i l1]) mw_Reader_push.2.2.2 ca_Reader_push_0 rfl rfl rfl fun G => ?_
  unfold fn_Reader_push bk_Reader_push_0; exact
    qz_aload_n rfl <|
    qz_getI kg_9 fl_Reader_46 rfl rfl <|
    qz_bipush rfl <|
    qz_icmp_lt rfl ca_Reader_push_11
      (qz_aload_n rfl <|
        qz_dup rfl <|
        qz_getI kg_9 fl_Reader_46 rfl rfl <|
        qz_iconst rfl <|
        qz_iadd <|
        qz_putI kw_9 fp_Reader_46_Reader_push rfl rfl fun h1 =>
        qz_aload_n rfl <|
        qz_getR (k1 := 47) kg_9 fl_Reader_11 rfl rfl <|
        qz_aload_n rfl <|
        qz_getI kg_9 fl_Reader_46 rfl rfl <|
        qz_nnd 1 rfl <|
        qz_aald (k0 := 47) (k1 := 5) rfl rfl rfl <|
        qz_iload_n rfl <|
        qz_nnd 1 rfl <|
        qz_invvV [qz_i l1] rfl (cn_Level_begin (h1 (h1 l0 1) (h1 l0 5)) l1 h1) mw_Level_begin vw_Level_begin ⟨_, rfl, rfl, by decide⟩ rfl rfl ln_Reader_50 rfl fun _ h3 =>
        qz_iconst rfl <|
        qz_zreturn ⟨rfl, rfl⟩ rfl)
      (qz_iconst rfl <|
        qz_zreturn ⟨rfl, rfl⟩ rfl)
def fn_Reader_open_13 (s0 : Int) (h : qz_H) : Option qz_R :=
  some (s0, h)
set_option maxRecDepth 20000 in
def fn_Reader_open (l0 : Int) (h : qz_H) : Option qz_R :=
  qz_bc (fn_Reader_push l0 1 h) fun r1 h2 =>
  if r1 = 0 then
    fn_Reader_open_13 2 h2
  else
    fn_Reader_open_13 0 h2
def bk_Reader_open_0 : List (Instr × Nat) := [(.aload_n 0, 1), (.iconst 1, 1), (.invokevirtual 105, 3), (.ifCond .eq 7, 3), (.iconst 0, 1), (.goto 4, 3)]
def bk_Reader_open_12 : List (Instr × Nat) := [(.iconst 2, 1)]
def bk_Reader_open_13 : List (Instr × Nat) := [(.ireturn, 1)]
theorem ca_Reader_open_0 : qz_ca yd_Reader_open.2.1 0 bk_Reader_open_0 := qz_cab_ok _ _ (by decide +kernel)
theorem ca_Reader_open_12 : qz_ca yd_Reader_open.2.1 12 bk_Reader_open_12 := qz_cab_ok _ _ (by decide +kernel)
theorem ca_Reader_open_13 : qz_ca yd_Reader_open.2.1 13 bk_Reader_open_13 := qz_cab_ok _ _ (by decide +kernel)
set_option maxRecDepth 20000 in
theorem jb_Reader_open_13 (G : qz_G) (s0 : Int) (h : qz_H) : qz_J yd_Reader_open G bk_Reader_open_13 13 [qz_u] [qz_i s0] h 0 0 (fn_Reader_open_13 s0 h) := by
  unfold fn_Reader_open_13 bk_Reader_open_13; exact
    qz_ireturn ⟨rfl, rfl⟩ rfl
set_option maxRecDepth 20000 in
theorem cn_Reader_open (l0 : Int) (h : qz_H) : qz_C yd_Reader_open [qz_r true 9 l0] h (fn_Reader_open l0 h) := by
  refine qz_con (is := bk_Reader_open_0) (ls := [qz_r true 9 l0]) mw_Reader_open.2.2.2 ca_Reader_open_0 rfl rfl rfl fun G => ?_
  unfold fn_Reader_open bk_Reader_open_0; exact
    qz_aload_n rfl <|
    qz_iconst rfl <|
    qz_invvI [qz_i 1] rfl (cn_Reader_push l0 1 h) mw_Reader_push vw_Reader_push ⟨_, rfl, rfl, by decide⟩ rfl rfl ln_Reader_105 rfl fun r1 h2 =>
    qz_if_eq rfl ca_Reader_open_12
      (qz_iconst rfl <|
        qz_fall rfl ca_Reader_open_13 <|
        qz_fgt [0] <| jb_Reader_open_13 G 2 h2)
      (qz_iconst rfl <|
        qz_goto rfl ca_Reader_open_13 <|
        qz_fgt [0] <| jb_Reader_open_13 G 0 h2)
def fn_Reader_inText_51 (s0 : Int) (h : qz_H) : Option qz_R :=
  some (s0, h)
def fn_Reader_inText_50 (h : qz_H) : Option qz_R :=
  fn_Reader_inText_51 1 h
def fn_Reader_inText_27 (l0 : Int) (l1 : Int) (h : qz_H) : Option qz_R :=
  qz_ck ((l1 : Int) ≠ 0) <|
  if ¬ h l1 1 = 3 then
    fn_Reader_inText_50 h
  else
    qz_ck ((h l0 0 : Int) ≠ 0) <|
    if ¬ h (h l0 0) 1 = 4 then
      fn_Reader_inText_50 h
    else
      fn_Reader_inText_51 0 h
set_option maxRecDepth 20000 in
def fn_Reader_inText (l0 : Int) (l1 : Int) (h : qz_H) : Option qz_R :=
  qz_ck ((l1 : Int) ≠ 0) <|
  if ¬ h l1 1 = 0 then
    fn_Reader_inText_27 l0 l1 h
  else
    qz_ck ((h l0 0 : Int) ≠ 0) <|
    if ¬ h (h l0 0) 1 = 0 then
      fn_Reader_inText_27 l0 l1 h
    else
      qz_ck ((l1 : Int) ≠ 0) <|
      qz_ck ((0 : Int) < l1) <|
      qz_bn (qz_up h l1 1 3) fun h1 =>
      qz_bc (fn_Reader_open l0 h1) fun r2 h3 =>
      some (r2, h3)
def bk_Reader_inText_0 : List (Instr × Nat) := [(.aload_n 1, 1), (.getfield 115, 3), (.ifCond .ne 23, 3), (.aload_n 0, 1), (.getfield 33, 3), (.getfield 73, 3), (.ifCond .ne 13, 3), (.aload_n 1, 1), (.iconst 3, 1), (.putfield 115, 3), (.aload_n 0, 1), (.invokevirtual 118, 3), (.ireturn, 1)]
def bk_Reader_inText_27 : List (Instr × Nat) := [(.aload_n 1, 1), (.getfield 115, 3), (.iconst 3, 1), (.if_icmp .ne 18, 3), (.aload_n 0, 1), (.getfield 33, 3), (.getfield 73, 3), (.iconst 4, 1), (.if_icmp .ne 7, 3), (.iconst 0, 1), (.goto 4, 3)]
def bk_Reader_inText_50 : List (Instr × Nat) := [(.iconst 1, 1)]
def bk_Reader_inText_51 : List (Instr × Nat) := [(.ireturn, 1)]
theorem ca_Reader_inText_0 : qz_ca yd_Reader_inText.2.1 0 bk_Reader_inText_0 := qz_cab_ok _ _ (by decide +kernel)
theorem ca_Reader_inText_27 : qz_ca yd_Reader_inText.2.1 27 bk_Reader_inText_27 := qz_cab_ok _ _ (by decide +kernel)
theorem ca_Reader_inText_50 : qz_ca yd_Reader_inText.2.1 50 bk_Reader_inText_50 := qz_cab_ok _ _ (by decide +kernel)
theorem ca_Reader_inText_51 : qz_ca yd_Reader_inText.2.1 51 bk_Reader_inText_51 := qz_cab_ok _ _ (by decide +kernel)
set_option maxRecDepth 20000 in
theorem jb_Reader_inText_51 (G : qz_G) (s0 : Int) (h : qz_H) : qz_J yd_Reader_inText G bk_Reader_inText_51 51 [qz_u, qz_u] [qz_i s0] h 0 0 (fn_Reader_inText_51 s0 h) := by
  unfold fn_Reader_inText_51 bk_Reader_inText_51; exact
    qz_ireturn ⟨rfl, rfl⟩ rfl
set_option maxRecDepth 20000 in
theorem jb_Reader_inText_50 (G : qz_G) (h : qz_H) : qz_J yd_Reader_inText G bk_Reader_inText_50 50 [qz_u, qz_u] [] h 0 0 (fn_Reader_inText_50 h) := by
  unfold fn_Reader_inText_50 bk_Reader_inText_50; exact
    qz_iconst rfl <|
    qz_fall rfl ca_Reader_inText_51 <|
    qz_fgt [0, 0] <| jb_Reader_inText_51 G 1 h
set_option maxRecDepth 20000 in
theorem jb_Reader_inText_27 (G : qz_G) (l0 : Int) (l1 : Int) (h : qz_H) : qz_J yd_Reader_inText G bk_Reader_inText_27 27 [qz_r true 9 l0, qz_r false 5 l1] [] h 0 0 (fn_Reader_inText_27 l0 l1 h) := by
  unfold fn_Reader_inText_27 bk_Reader_inText_27; exact
    qz_aload_n rfl <|
    qz_nnd 0 rfl <|
    qz_getI kg_5 fl_Reader_115 rfl rfl <|
    qz_iconst rfl <|
    qz_icmp_ne rfl ca_Reader_inText_50
      (qz_fgt [0, 0] <| jb_Reader_inText_50 G h)
      (qz_aload_n rfl <|
        qz_getR (k1 := 10) kg_9 fl_Reader_33 rfl rfl <|
        qz_nnd 0 rfl <|
        qz_getI kg_10 fl_Reader_73 rfl rfl <|
        qz_iconst rfl <|
        qz_icmp_ne rfl ca_Reader_inText_50
          (qz_fgt [0, 0] <| jb_Reader_inText_50 G h)
          (qz_iconst rfl <|
            qz_goto rfl ca_Reader_inText_51 <|
            qz_fgt [0, 0] <| jb_Reader_inText_51 G 0 h))
set_option maxRecDepth 20000 in
theorem cn_Reader_inText (l0 : Int) (l1 : Int) (h : qz_H) : qz_C yd_Reader_inText [qz_r true 9 l0, qz_r false 5 l1] h (fn_Reader_inText l0 l1 h) := by
  refine qz_con (is := bk_Reader_inText_0) (ls := [qz_r true 9 l0, qz_r false 5 l1]) mw_Reader_inText.2.2.2 ca_Reader_inText_0 rfl rfl rfl fun G => ?_
  unfold fn_Reader_inText bk_Reader_inText_0; exact
    qz_aload_n rfl <|
    qz_nnd 0 rfl <|
    qz_getI kg_5 fl_Reader_115 rfl rfl <|
    qz_if_ne rfl ca_Reader_inText_27
      (qz_fgt [1, 1] <| jb_Reader_inText_27 G l0 l1 h)
      (qz_aload_n rfl <|
        qz_getR (k1 := 10) kg_9 fl_Reader_33 rfl rfl <|
        qz_nnd 0 rfl <|
        qz_getI kg_10 fl_Reader_73 rfl rfl <|
        qz_if_ne rfl ca_Reader_inText_27
          (qz_fgt [1, 1] <| jb_Reader_inText_27 G l0 l1 h)
          (qz_aload_n rfl <|
            qz_iconst rfl <|
            qz_nnd 1 rfl <|
            qz_putI kw_5 fp_Reader_115_Reader_inText rfl rfl fun h1 =>
            qz_aload_n rfl <|
            qz_invvI [] rfl (cn_Reader_open l0 h1) mw_Reader_open vw_Reader_open ⟨_, rfl, rfl, by decide⟩ rfl rfl ln_Reader_118 rfl fun r2 h3 =>
            qz_ireturn ⟨rfl, rfl⟩ rfl))
set_option maxRecDepth 20000 in
def fn_Function_begin (l0 : Int) (l1 : Int) (h : qz_H) : Option qz_R :=
  qz_ck ((0 : Int) < l0) <|
  qz_bn (qz_up h l0 1 0) fun h1 =>
  qz_ck ((0 : Int) < l0) <|
  qz_bn (qz_up h1 l0 2 0) fun h2 =>
  qz_ck ((0 : Int) < l0) <|
  qz_bn (qz_up h2 l0 3 0) fun h3 =>
  qz_ck ((0 : Int) < l0) <|
  qz_bn (qz_up h3 l0 4 l1) fun h4 =>
  qz_ck ((0 : Int) < l0) <|
  qz_bn (qz_up h4 l0 5 0) fun h5 =>
  some (0, h5)
def bk_Function_begin_0 : List (Instr × Nat) := [(.aload_n 0, 1), (.iconst 0, 1), (.putfield 15, 3), (.aload_n 0, 1), (.iconst 0, 1), (.putfield 19, 3), (.aload_n 0, 1), (.iconst 0, 1), (.putfield 22, 3), (.aload_n 0, 1), (.iload_n 1, 1), (.putfield 25, 3), (.aload_n 0, 1), (.iconst 0, 1), (.putfield 28, 3), (.return_, 1)]
theorem ca_Function_begin_0 : qz_ca yd_Function_begin.2.1 0 bk_Function_begin_0 := qz_cab_ok _ _ (by decide +kernel)
set_option maxRecDepth 20000 in
theorem cn_Function_begin (l0 : Int) (l1 : Int) (h : qz_H) : qz_C yd_Function_begin [qz_r true 4 l0, qz_i l1] h (fn_Function_begin l0 l1 h) := by
  refine qz_con (is := bk_Function_begin_0) (ls := [qz_r true 4 l0, qz_i l1]) mw_Function_begin.2.2.2 ca_Function_begin_0 rfl rfl rfl fun G => ?_
  unfold fn_Function_begin bk_Function_begin_0; exact
    qz_aload_n rfl <|
    qz_iconst rfl <|
    qz_putI kw_4 fp_Function_15_Function_begin rfl rfl fun h1 =>
    qz_aload_n rfl <|
    qz_iconst rfl <|
    qz_putI kw_4 fp_Function_19_Function_begin rfl rfl fun h2 =>
    qz_aload_n rfl <|
    qz_iconst rfl <|
    qz_putI kw_4 fp_Function_22_Function_begin rfl rfl fun h3 =>
    qz_aload_n rfl <|
    qz_iload_n rfl <|
    qz_putI kw_4 fp_Function_25_Function_begin rfl rfl fun h4 =>
    qz_aload_n rfl <|
    qz_iconst rfl <|
    qz_putI kw_4 fp_Function_28_Function_begin rfl rfl fun h5 =>
    qz_return ⟨rfl, rfl⟩ rfl
set_option maxRecDepth 20000 in
def fn_Module_addFunction (l0 : Int) (h : qz_H) : Option qz_R :=
  if h l0 3 < 4 then
    qz_ck ((0 : Int) < l0) <|
    qz_bn (qz_up h l0 3 (qz_w ((h l0 3) + 1))) fun h1 =>
    qz_bc (fn_Module_latest l0 h1) fun r2 h3 =>
    qz_ck ((r2 : Int) ≠ 0) <|
    qz_bc (fn_Function_begin r2 (h3 l0 4) h3) fun _ h5 =>
    qz_ck ((1 : Int) = 0 ∨ (1 : Int) = 1) (some (1, h5))
  else
    qz_ck ((0 : Int) = 0 ∨ (0 : Int) = 1) (some (0, h))
def bk_Module_addFunction_0 : List (Instr × Nat) := [(.aload_n 0, 1), (.getfield 32, 3), (.iconst 4, 1), (.if_icmp .lt 5, 3), (.iconst 0, 1), (.ireturn, 1)]
def bk_Module_addFunction_10 : List (Instr × Nat) := [(.aload_n 0, 1), (.dup, 1), (.getfield 32, 3), (.iconst 1, 1), (.iadd, 1), (.putfield 32, 3), (.aload_n 0, 1), (.invokevirtual 60, 3), (.aload_n 0, 1), (.getfield 36, 3), (.invokevirtual 64, 3), (.iconst 1, 1), (.ireturn, 1)]
theorem ca_Module_addFunction_0 : qz_ca yd_Module_addFunction.2.1 0 bk_Module_addFunction_0 := qz_cab_ok _ _ (by decide +kernel)
theorem ca_Module_addFunction_10 : qz_ca yd_Module_addFunction.2.1 10 bk_Module_addFunction_10 := qz_cab_ok _ _ (by decide +kernel)
set_option maxRecDepth 20000 in
theorem cn_Module_addFunction (l0 : Int) (h : qz_H) : qz_C yd_Module_addFunction [qz_r true 6 l0] h (fn_Module_addFunction l0 h) := by
  refine qz_con (is := bk_Module_addFunction_0) (ls := [qz_r true 6 l0]) mw_Module_addFunction.2.2.2 ca_Module_addFunction_0 rfl rfl rfl fun G => ?_
  unfold fn_Module_addFunction bk_Module_addFunction_0; exact
    qz_aload_n rfl <|
    qz_getI kg_6 fl_Module_32 rfl rfl <|
    qz_iconst rfl <|
    qz_icmp_lt rfl ca_Module_addFunction_10
      (qz_aload_n rfl <|
        qz_dup rfl <|
        qz_getI kg_6 fl_Module_32 rfl rfl <|
        qz_iconst rfl <|
        qz_iadd <|
        qz_putI kw_6 fp_Module_32_Module_addFunction rfl rfl fun h1 =>
        qz_aload_n rfl <|
        qz_invvR [] rfl (cn_Module_latest l0 h1) mw_Module_latest vw_Module_latest ⟨_, rfl, rfl, by decide⟩ rfl rfl ln_Module_60 rfl fun r2 h3 =>
        qz_aload_n rfl <|
        qz_getI kg_6 fl_Module_36 rfl rfl <|
        qz_nnd 1 rfl <|
        qz_invvV [qz_i (h3 l0 4)] rfl (cn_Function_begin r2 (h3 l0 4) h3) mw_Function_begin vw_Function_begin ⟨_, rfl, rfl, by decide⟩ rfl rfl ln_Module_64 rfl fun _ h5 =>
        qz_iconst rfl <|
        qz_zreturn ⟨rfl, rfl⟩ rfl)
      (qz_iconst rfl <|
        qz_zreturn ⟨rfl, rfl⟩ rfl)
def fn_Reader_setFunctionName_26 (h : qz_H) : Option qz_R :=
  some (0, h)
set_option maxRecDepth 20000 in
def fn_Reader_setFunctionName (l0 : Int) (l1 : Int) (h : qz_H) : Option qz_R :=
  qz_ck ((h l0 4 : Int) ≠ 0) <|
  qz_bn (qz_w ((h (h l0 4) 3) - 1) : Int) fun x1 =>
  if x1 < 0 then
    fn_Reader_setFunctionName_26 h
  else
    if 4 ≤ x1 then
      fn_Reader_setFunctionName_26 h
    else
      qz_ck ((h l0 2 : Int) ≠ 0) <|
      qz_ck (0 < h l0 2 ∧ (0 : Int) ≤ x1 ∧ x1 < h (h l0 2) (-1)) <|
      qz_bn (qz_up h (h l0 2) x1 l1) fun h2 =>
      fn_Reader_setFunctionName_26 h2
def bk_Reader_setFunctionName_0 : List (Instr × Nat) := [(.aload_n 0, 1), (.getfield 24, 3), (.getfield 235, 3), (.iconst 1, 1), (.isub, 1), (.istore_n 2, 1), (.iload_n 2, 1), (.ifCond .lt 15, 3), (.iload_n 2, 1), (.iconst 4, 1), (.if_icmp .ge 10, 3), (.aload_n 0, 1), (.getfield 17, 3), (.iload_n 2, 1), (.iload_n 1, 1), (.iastore, 1)]
def bk_Reader_setFunctionName_26 : List (Instr × Nat) := [(.return_, 1)]
theorem ca_Reader_setFunctionName_0 : qz_ca yd_Reader_setFunctionName.2.1 0 bk_Reader_setFunctionName_0 := qz_cab_ok _ _ (by decide +kernel)
theorem ca_Reader_setFunctionName_26 : qz_ca yd_Reader_setFunctionName.2.1 26 bk_Reader_setFunctionName_26 := qz_cab_ok _ _ (by decide +kernel)
set_option maxRecDepth 20000 in
theorem jb_Reader_setFunctionName_26 (G : qz_G) (h : qz_H) : qz_J yd_Reader_setFunctionName G bk_Reader_setFunctionName_26 26 [qz_u, qz_u, qz_u] [] h 0 0 (fn_Reader_setFunctionName_26 h) := by
  unfold fn_Reader_setFunctionName_26 bk_Reader_setFunctionName_26; exact
    qz_return ⟨rfl, rfl⟩ rfl
set_option maxRecDepth 20000 in
theorem cn_Reader_setFunctionName (l0 : Int) (l1 : Int) (h : qz_H) : qz_C yd_Reader_setFunctionName [qz_r true 9 l0, qz_i l1] h (fn_Reader_setFunctionName l0 l1 h) := by
  refine qz_con (is := bk_Reader_setFunctionName_0) (ls := [qz_r true 9 l0, qz_i l1, qz_u]) mw_Reader_setFunctionName.2.2.2 ca_Reader_setFunctionName_0 rfl rfl rfl fun G => ?_
  unfold fn_Reader_setFunctionName bk_Reader_setFunctionName_0; exact
    qz_aload_n rfl <|
    qz_getR (k1 := 6) kg_9 fl_Reader_24 rfl rfl <|
    qz_nnd 0 rfl <|
    qz_getI kg_6 fl_Reader_235 rfl rfl <|
    qz_iconst rfl <|
    qz_isub <|
    qz_istore_n (by decide) fun x1 =>
    qz_iload_n rfl <|
    qz_if_lt rfl ca_Reader_setFunctionName_26
      (qz_fgt [0, 0, 0] <| jb_Reader_setFunctionName_26 G h)
      (qz_iload_n rfl <|
        qz_iconst rfl <|
        qz_icmp_ge rfl ca_Reader_setFunctionName_26
          (qz_fgt [0, 0, 0] <| jb_Reader_setFunctionName_26 G h)
          (qz_aload_n rfl <|
            qz_getR (k1 := 40) kg_9 fl_Reader_17 rfl rfl <|
            qz_iload_n rfl <|
            qz_iload_n rfl <|
            qz_nnd 2 rfl <|
            qz_iast rfl rfl rfl fun h2 =>
            qz_fall rfl ca_Reader_setFunctionName_26 <|
            qz_fgt [0, 0, 0] <| jb_Reader_setFunctionName_26 G h2))
set_option maxRecDepth 20000 in
def fn_Reader_beginFunction (l0 : Int) (l1 : Int) (h : qz_H) : Option qz_R :=
  qz_ck ((h l0 0 : Int) ≠ 0) <|
  qz_bc (fn_Scanner_is (h l0 0) (-37) h) fun r1 h2 =>
  if ¬ r1 = 0 then
    qz_ck ((h2 l0 4 : Int) ≠ 0) <|
    qz_bc (fn_Module_addFunction (h2 l0 4) h2) fun r3 h4 =>
    if ¬ r3 = 0 then
      qz_bc (fn_Reader_setFunctionName l0 (-1) h4) fun _ h6 =>
      qz_ck ((l1 : Int) ≠ 0) <|
      qz_ck ((0 : Int) < l1) <|
      qz_bn (qz_up h6 l1 0 3) fun h7 =>
      some (0, h7)
    else
      some (2, h4)
  else
    some (1, h2)
def bk_Reader_beginFunction_0 : List (Instr × Nat) := [(.aload_n 0, 1), (.getfield 33, 3), (.ldc 139, 2), (.invokevirtual 125, 3), (.ifCond .ne 5, 3), (.iconst 1, 1), (.ireturn, 1)]
def bk_Reader_beginFunction_14 : List (Instr × Nat) := [(.aload_n 0, 1), (.getfield 24, 3), (.invokevirtual 141, 3), (.ifCond .ne 5, 3), (.iconst 2, 1), (.ireturn, 1)]
def bk_Reader_beginFunction_26 : List (Instr × Nat) := [(.aload_n 0, 1), (.iconst (-1), 1), (.invokevirtual 145, 3), (.aload_n 1, 1), (.iconst 3, 1), (.putfield 83, 3), (.iconst 0, 1), (.ireturn, 1)]
theorem ca_Reader_beginFunction_0 : qz_ca yd_Reader_beginFunction.2.1 0 bk_Reader_beginFunction_0 := qz_cab_ok _ _ (by decide +kernel)
theorem ca_Reader_beginFunction_14 : qz_ca yd_Reader_beginFunction.2.1 14 bk_Reader_beginFunction_14 := qz_cab_ok _ _ (by decide +kernel)
theorem ca_Reader_beginFunction_26 : qz_ca yd_Reader_beginFunction.2.1 26 bk_Reader_beginFunction_26 := qz_cab_ok _ _ (by decide +kernel)
set_option maxRecDepth 20000 in
theorem cn_Reader_beginFunction (l0 : Int) (l1 : Int) (h : qz_H) : qz_C yd_Reader_beginFunction [qz_r true 9 l0, qz_r false 5 l1] h (fn_Reader_beginFunction l0 l1 h) := by
  refine qz_con (is := bk_Reader_beginFunction_0) (ls := [qz_r true 9 l0, qz_r false 5 l1]) mw_Reader_beginFunction.2.2.2 ca_Reader_beginFunction_0 rfl rfl rfl fun G => ?_
  unfold fn_Reader_beginFunction bk_Reader_beginFunction_0; exact
    qz_aload_n rfl <|
    qz_getR (k1 := 10) kg_9 fl_Reader_33 rfl rfl <|
    qz_ldcS ss_Reader_139 rfl <|
    qz_nnd 1 rfl <|
    qz_wkS [2] <|
    qz_invvI [qz_r false 13 (-37)] rfl (cn_Scanner_is (h l0 0) (-37) h) mw_Scanner_is vw_Scanner_is ⟨_, rfl, rfl, by decide⟩ rfl rfl ln_Reader_125 rfl fun r1 h2 =>
    qz_if_ne rfl ca_Reader_beginFunction_14
      (qz_aload_n rfl <|
        qz_getR (k1 := 6) kg_9 fl_Reader_24 rfl rfl <|
        qz_nnd 0 rfl <|
        qz_invvI [] rfl (cn_Module_addFunction (h2 l0 4) h2) mw_Module_addFunction vw_Module_addFunction ⟨_, rfl, rfl, by decide⟩ rfl rfl ln_Reader_141 rfl fun r3 h4 =>
        qz_if_ne rfl ca_Reader_beginFunction_26
          (qz_aload_n rfl <|
            qz_iconst rfl <|
            qz_invvV [qz_i (-1)] rfl (cn_Reader_setFunctionName l0 (-1) h4) mw_Reader_setFunctionName vw_Reader_setFunctionName ⟨_, rfl, rfl, by decide⟩ rfl rfl ln_Reader_145 rfl fun _ h6 =>
            qz_aload_n rfl <|
            qz_iconst rfl <|
            qz_nnd 1 rfl <|
            qz_putI kw_5 fp_Reader_83_Reader_beginFunction rfl rfl fun h7 =>
            qz_iconst rfl <|
            qz_ireturn ⟨rfl, rfl⟩ rfl)
          (qz_iconst rfl <|
            qz_ireturn ⟨rfl, rfl⟩ rfl))
      (qz_iconst rfl <|
        qz_ireturn ⟨rfl, rfl⟩ rfl)
def fn_Op_opensBlock_13 (s0 : Int) (h : qz_H) : Option qz_R :=
  qz_ck ((s0 : Int) = 0 ∨ (s0 : Int) = 1) (some (s0, h))
set_option maxRecDepth 20000 in
def fn_Op_opensBlock (l0 : Int) (h : qz_H) : Option qz_R :=
  if ¬ h l0 2 = 1 then
    fn_Op_opensBlock_13 0 h
  else
    fn_Op_opensBlock_13 1 h
def bk_Op_opensBlock_0 : List (Instr × Nat) := [(.aload_n 0, 1), (.getfield 126, 3), (.iconst 1, 1), (.if_icmp .ne 7, 3), (.iconst 1, 1), (.goto 4, 3)]
def bk_Op_opensBlock_12 : List (Instr × Nat) := [(.iconst 0, 1)]
def bk_Op_opensBlock_13 : List (Instr × Nat) := [(.ireturn, 1)]
theorem ca_Op_opensBlock_0 : qz_ca yd_Op_opensBlock.2.1 0 bk_Op_opensBlock_0 := qz_cab_ok _ _ (by decide +kernel)
theorem ca_Op_opensBlock_12 : qz_ca yd_Op_opensBlock.2.1 12 bk_Op_opensBlock_12 := qz_cab_ok _ _ (by decide +kernel)
theorem ca_Op_opensBlock_13 : qz_ca yd_Op_opensBlock.2.1 13 bk_Op_opensBlock_13 := qz_cab_ok _ _ (by decide +kernel)
set_option maxRecDepth 20000 in
theorem jb_Op_opensBlock_13 (G : qz_G) (s0 : Int) (h : qz_H) : qz_J yd_Op_opensBlock G bk_Op_opensBlock_13 13 [qz_u] [qz_i s0] h 0 0 (fn_Op_opensBlock_13 s0 h) := by
  unfold fn_Op_opensBlock_13 bk_Op_opensBlock_13; exact
    qz_zreturn ⟨rfl, rfl⟩ rfl
set_option maxRecDepth 20000 in
theorem cn_Op_opensBlock (l0 : Int) (h : qz_H) : qz_C yd_Op_opensBlock [qz_r true 7 l0] h (fn_Op_opensBlock l0 h) := by
  refine qz_con (is := bk_Op_opensBlock_0) (ls := [qz_r true 7 l0]) mw_Op_opensBlock.2.2.2 ca_Op_opensBlock_0 rfl rfl rfl fun G => ?_
  unfold fn_Op_opensBlock bk_Op_opensBlock_0; exact
    qz_aload_n rfl <|
    qz_getI kg_7 fl_Op_126 rfl rfl <|
    qz_iconst rfl <|
    qz_icmp_ne rfl ca_Op_opensBlock_12
      (qz_iconst rfl <|
        qz_fall rfl ca_Op_opensBlock_13 <|
        qz_fgt [0] <| jb_Op_opensBlock_13 G 0 h)
      (qz_iconst rfl <|
        qz_goto rfl ca_Op_opensBlock_13 <|
        qz_fgt [0] <| jb_Op_opensBlock_13 G 1 h)
def fn_Op_isPlain_26 (s0 : Int) (h : qz_H) : Option qz_R :=
  qz_ck ((s0 : Int) = 0 ∨ (s0 : Int) = 1) (some (s0, h))
def fn_Op_isPlain_25 (h : qz_H) : Option qz_R :=
  fn_Op_isPlain_26 0 h
set_option maxRecDepth 20000 in
def fn_Op_isPlain (l0 : Int) (h : qz_H) : Option qz_R :=
  qz_bc (fn_Op_opensBlock l0 h) fun r1 h2 =>
  if ¬ r1 = 0 then
    fn_Op_isPlain_25 h2
  else
    if l0 = (-6) then
      fn_Op_isPlain_25 h2
    else
      if l0 = (-7) then
        fn_Op_isPlain_25 h2
      else
        fn_Op_isPlain_26 1 h2
def bk_Op_isPlain_0 : List (Instr × Nat) := [(.aload_n 0, 1), (.invokevirtual 138, 3), (.ifCond .ne 21, 3), (.aload_n 0, 1), (.getstatic 21, 3), (.if_acmp .eq 14, 3), (.aload_n 0, 1), (.getstatic 24, 3), (.if_acmp .eq 7, 3), (.iconst 1, 1), (.goto 4, 3)]
def bk_Op_isPlain_25 : List (Instr × Nat) := [(.iconst 0, 1)]
def bk_Op_isPlain_26 : List (Instr × Nat) := [(.ireturn, 1)]
theorem ca_Op_isPlain_0 : qz_ca yd_Op_isPlain.2.1 0 bk_Op_isPlain_0 := qz_cab_ok _ _ (by decide +kernel)
theorem ca_Op_isPlain_25 : qz_ca yd_Op_isPlain.2.1 25 bk_Op_isPlain_25 := qz_cab_ok _ _ (by decide +kernel)
theorem ca_Op_isPlain_26 : qz_ca yd_Op_isPlain.2.1 26 bk_Op_isPlain_26 := qz_cab_ok _ _ (by decide +kernel)
set_option maxRecDepth 20000 in
theorem jb_Op_isPlain_26 (G : qz_G) (s0 : Int) (h : qz_H) : qz_J yd_Op_isPlain G bk_Op_isPlain_26 26 [qz_u] [qz_i s0] h 0 0 (fn_Op_isPlain_26 s0 h) := by
  unfold fn_Op_isPlain_26 bk_Op_isPlain_26; exact
    qz_zreturn ⟨rfl, rfl⟩ rfl
set_option maxRecDepth 20000 in
theorem jb_Op_isPlain_25 (G : qz_G) (h : qz_H) : qz_J yd_Op_isPlain G bk_Op_isPlain_25 25 [qz_u] [] h 0 0 (fn_Op_isPlain_25 h) := by
  unfold fn_Op_isPlain_25 bk_Op_isPlain_25; exact
    qz_iconst rfl <|
    qz_fall rfl ca_Op_isPlain_26 <|
    qz_fgt [0] <| jb_Op_isPlain_26 G 0 h
set_option maxRecDepth 20000 in
theorem cn_Op_isPlain (l0 : Int) (h : qz_H) : qz_C yd_Op_isPlain [qz_r true 7 l0] h (fn_Op_isPlain l0 h) := by
  refine qz_con (is := bk_Op_isPlain_0) (ls := [qz_r true 7 l0]) mw_Op_isPlain.2.2.2 ca_Op_isPlain_0 rfl rfl rfl fun G => ?_
  unfold fn_Op_isPlain bk_Op_isPlain_0; exact
    qz_aload_n rfl <|
    qz_invvI [] rfl (cn_Op_opensBlock l0 h) mw_Op_opensBlock vw_Op_opensBlock ⟨_, rfl, rfl, by decide⟩ rfl rfl ln_Op_138 rfl fun r1 h2 =>
    qz_if_ne rfl ca_Op_isPlain_25
      (qz_fgt [0] <| jb_Op_isPlain_25 G h2)
      (qz_aload_n rfl <|
        qz_getsR sz_Op_ELSE sl_Op_21 rfl <|
        qz_acmp_eq rfl ca_Op_isPlain_25
          (qz_fgt [0] <| jb_Op_isPlain_25 G h2)
          (qz_aload_n rfl <|
            qz_getsR sz_Op_END sl_Op_24 rfl <|
            qz_acmp_eq rfl ca_Op_isPlain_25
              (qz_fgt [0] <| jb_Op_isPlain_25 G h2)
              (qz_iconst rfl <|
                qz_goto rfl ca_Op_isPlain_26 <|
                qz_fgt [0] <| jb_Op_isPlain_26 G 1 h2)))
def fn_Op_awaitsOperand_20 (s0 : Int) (h : qz_H) : Option qz_R :=
  qz_ck ((s0 : Int) = 0 ∨ (s0 : Int) = 1) (some (s0, h))
def fn_Op_awaitsOperand_19 (h : qz_H) : Option qz_R :=
  fn_Op_awaitsOperand_20 0 h
set_option maxRecDepth 20000 in
def fn_Op_awaitsOperand (l0 : Int) (h : qz_H) : Option qz_R :=
  if h l0 2 = 0 then
    fn_Op_awaitsOperand_19 h
  else
    if h l0 2 = 1 then
      fn_Op_awaitsOperand_19 h
    else
      fn_Op_awaitsOperand_20 1 h
def bk_Op_awaitsOperand_0 : List (Instr × Nat) := [(.aload_n 0, 1), (.getfield 126, 3), (.ifCond .eq 15, 3), (.aload_n 0, 1), (.getfield 126, 3), (.iconst 1, 1), (.if_icmp .eq 7, 3), (.iconst 1, 1), (.goto 4, 3)]
def bk_Op_awaitsOperand_19 : List (Instr × Nat) := [(.iconst 0, 1)]
def bk_Op_awaitsOperand_20 : List (Instr × Nat) := [(.ireturn, 1)]
theorem ca_Op_awaitsOperand_0 : qz_ca yd_Op_awaitsOperand.2.1 0 bk_Op_awaitsOperand_0 := qz_cab_ok _ _ (by decide +kernel)
theorem ca_Op_awaitsOperand_19 : qz_ca yd_Op_awaitsOperand.2.1 19 bk_Op_awaitsOperand_19 := qz_cab_ok _ _ (by decide +kernel)
theorem ca_Op_awaitsOperand_20 : qz_ca yd_Op_awaitsOperand.2.1 20 bk_Op_awaitsOperand_20 := qz_cab_ok _ _ (by decide +kernel)
set_option maxRecDepth 20000 in
theorem jb_Op_awaitsOperand_20 (G : qz_G) (s0 : Int) (h : qz_H) : qz_J yd_Op_awaitsOperand G bk_Op_awaitsOperand_20 20 [qz_u] [qz_i s0] h 0 0 (fn_Op_awaitsOperand_20 s0 h) := by
  unfold fn_Op_awaitsOperand_20 bk_Op_awaitsOperand_20; exact
    qz_zreturn ⟨rfl, rfl⟩ rfl
set_option maxRecDepth 20000 in
theorem jb_Op_awaitsOperand_19 (G : qz_G) (h : qz_H) : qz_J yd_Op_awaitsOperand G bk_Op_awaitsOperand_19 19 [qz_u] [] h 0 0 (fn_Op_awaitsOperand_19 h) := by
  unfold fn_Op_awaitsOperand_19 bk_Op_awaitsOperand_19; exact
    qz_iconst rfl <|
    qz_fall rfl ca_Op_awaitsOperand_20 <|
    qz_fgt [0] <| jb_Op_awaitsOperand_20 G 0 h
set_option maxRecDepth 20000 in
theorem cn_Op_awaitsOperand (l0 : Int) (h : qz_H) : qz_C yd_Op_awaitsOperand [qz_r true 7 l0] h (fn_Op_awaitsOperand l0 h) := by
  refine qz_con (is := bk_Op_awaitsOperand_0) (ls := [qz_r true 7 l0]) mw_Op_awaitsOperand.2.2.2 ca_Op_awaitsOperand_0 rfl rfl rfl fun G => ?_
  unfold fn_Op_awaitsOperand bk_Op_awaitsOperand_0; exact
    qz_aload_n rfl <|
    qz_getI kg_7 fl_Op_126 rfl rfl <|
    qz_if_eq rfl ca_Op_awaitsOperand_19
      (qz_fgt [0] <| jb_Op_awaitsOperand_19 G h)
      (qz_aload_n rfl <|
        qz_getI kg_7 fl_Op_126 rfl rfl <|
        qz_iconst rfl <|
        qz_icmp_eq rfl ca_Op_awaitsOperand_19
          (qz_fgt [0] <| jb_Op_awaitsOperand_19 G h)
          (qz_iconst rfl <|
            qz_goto rfl ca_Op_awaitsOperand_20 <|
            qz_fgt [0] <| jb_Op_awaitsOperand_20 G 1 h))
def fn_Reader_beginFolded_19 (h : qz_H) : Option qz_R :=
  some (1, h)
set_option maxRecDepth 20000 in
def fn_Reader_beginFolded (l0 : Int) (l1 : Int) (h : qz_H) : Option qz_R :=
  qz_ck ((h l0 0 : Int) ≠ 0) <|
  qz_bn (h (h l0 0) 4 : Int) fun x1 =>
  if x1 = 0 then
    fn_Reader_beginFolded_19 h
  else
    qz_ck ((x1 : Int) ≠ 0) <|
    qz_bc (fn_Op_isPlain x1 h) fun r2 h3 =>
    if ¬ r2 = 0 then
      qz_ck ((l1 : Int) ≠ 0) <|
      qz_ck ((0 : Int) < l1) <|
      qz_bn (qz_up h3 l1 0 7) fun h4 =>
      qz_ck ((l1 : Int) ≠ 0) <|
      qz_ck ((0 : Int) < l1) <|
      qz_bn (qz_up h4 l1 3 x1) fun h5 =>
      qz_ck ((x1 : Int) ≠ 0) <|
      qz_bc (fn_Op_awaitsOperand x1 h5) fun r6 h7 =>
      qz_ck ((r6 : Int) = 0 ∨ (r6 : Int) = 1) <|
      qz_ck ((0 : Int) < l0) <|
      qz_bn (qz_up h7 l0 6 r6) fun h8 =>
      some (0, h8)
    else
      fn_Reader_beginFolded_19 h3
def bk_Reader_beginFolded_0 : List (Instr × Nat) := [(.aload_n 0, 1), (.getfield 33, 3), (.getfield 154, 3), (.astore_n 2, 1), (.aload_n 2, 1), (.ifnull 10, 3), (.aload_n 2, 1), (.invokevirtual 158, 3), (.ifCond .ne 5, 3)]
def bk_Reader_beginFolded_19 : List (Instr × Nat) := [(.iconst 1, 1), (.ireturn, 1)]
def bk_Reader_beginFolded_21 : List (Instr × Nat) := [(.aload_n 1, 1), (.bipush 7, 2), (.putfield 83, 3), (.aload_n 1, 1), (.aload_n 2, 1), (.putfield 163, 3), (.aload_n 0, 1), (.aload_n 2, 1), (.invokevirtual 164, 3), (.putfield 53, 3), (.iconst 0, 1), (.ireturn, 1)]
theorem ca_Reader_beginFolded_0 : qz_ca yd_Reader_beginFolded.2.1 0 bk_Reader_beginFolded_0 := qz_cab_ok _ _ (by decide +kernel)
theorem ca_Reader_beginFolded_19 : qz_ca yd_Reader_beginFolded.2.1 19 bk_Reader_beginFolded_19 := qz_cab_ok _ _ (by decide +kernel)
theorem ca_Reader_beginFolded_21 : qz_ca yd_Reader_beginFolded.2.1 21 bk_Reader_beginFolded_21 := qz_cab_ok _ _ (by decide +kernel)
set_option maxRecDepth 20000 in
theorem jb_Reader_beginFolded_19 (G : qz_G) (h : qz_H) : qz_J yd_Reader_beginFolded G bk_Reader_beginFolded_19 19 [qz_u, qz_u, qz_u] [] h 0 0 (fn_Reader_beginFolded_19 h) := by
  unfold fn_Reader_beginFolded_19 bk_Reader_beginFolded_19; exact
    qz_iconst rfl <|
    qz_ireturn ⟨rfl, rfl⟩ rfl
set_option maxRecDepth 20000 in
theorem cn_Reader_beginFolded (l0 : Int) (l1 : Int) (h : qz_H) : qz_C yd_Reader_beginFolded [qz_r true 9 l0, qz_r false 5 l1] h (fn_Reader_beginFolded l0 l1 h) := by
  refine qz_con (is := bk_Reader_beginFolded_0) (ls := [qz_r true 9 l0, qz_r false 5 l1, qz_u]) mw_Reader_beginFolded.2.2.2 ca_Reader_beginFolded_0 rfl rfl rfl fun G => ?_
  unfold fn_Reader_beginFolded bk_Reader_beginFolded_0; exact
    qz_aload_n rfl <|
    qz_getR (k1 := 10) kg_9 fl_Reader_33 rfl rfl <|
    qz_nnd 0 rfl <|
    qz_getR (k1 := 7) kg_10 fl_Reader_154 rfl rfl <|
    qz_astore_n (by decide) fun x1 =>
    qz_aload_n rfl <|
    qz_ifnull rfl ca_Reader_beginFolded_19
      (qz_fgt [0, 0, 0] <| jb_Reader_beginFolded_19 G h)
      (qz_aload_n rfl <|
        qz_nnd 0 rfl <|
        qz_invvI [] rfl (cn_Op_isPlain x1 h) mw_Op_isPlain vw_Op_isPlain ⟨_, rfl, rfl, by decide⟩ rfl rfl ln_Reader_158 rfl fun r2 h3 =>
        qz_if_ne rfl ca_Reader_beginFolded_21
          (qz_aload_n rfl <|
            qz_bipush rfl <|
            qz_nnd 1 rfl <|
            qz_putI kw_5 fp_Reader_83_Reader_beginFolded rfl rfl fun h4 =>
            qz_aload_n rfl <|
            qz_aload_n rfl <|
            qz_nnd 1 rfl <|
            qz_putR (k1 := 7) kw_5 fp_Reader_163_Reader_beginFolded rfl rfl fun h5 =>
            qz_aload_n rfl <|
            qz_aload_n rfl <|
            qz_nnd 0 rfl <|
            qz_invvI [] rfl (cn_Op_awaitsOperand x1 h5) mw_Op_awaitsOperand vw_Op_awaitsOperand ⟨_, rfl, rfl, by decide⟩ rfl rfl ln_Reader_164 rfl fun r6 h7 =>
            qz_putZ kw_9 fp_Reader_53_Reader_beginFolded rfl rfl fun h8 =>
            qz_iconst rfl <|
            qz_ireturn ⟨rfl, rfl⟩ rfl)
          (qz_fall rfl ca_Reader_beginFolded_19 <|
            qz_fgt [0, 0, 0] <| jb_Reader_beginFolded_19 G h3))
def fn_Reader_beginPart_119 (l0 : Int) (l1 : Int) (l2 : Int) (h : qz_H) : Option qz_R :=
  qz_ck ((l2 : Int) ≠ 0) <|
  qz_ck ((0 : Int) < l2) <|
  qz_bn (qz_up h l2 1 4) fun h1 =>
  qz_bc (fn_Reader_beginFolded l0 l1 h1) fun r2 h3 =>
  some (r2, h3)
def fn_Reader_beginPart_83 (l0 : Int) (l1 : Int) (l2 : Int) (l3 : Int) (h : qz_H) : Option qz_R :=
  if l3 = 0 then
    fn_Reader_beginPart_119 l0 l1 l2 h
  else
    qz_ck ((l2 : Int) ≠ 0) <|
    if 3 < h l2 1 then
      fn_Reader_beginPart_119 l0 l1 l2 h
    else
      qz_ck ((h l0 0 : Int) ≠ 0) <|
      qz_bc (fn_Scanner_is (h l0 0) (-43) h) fun r1 h2 =>
      if r1 = 0 then
        fn_Reader_beginPart_119 l0 l1 l2 h2
      else
        qz_ck ((l2 : Int) ≠ 0) <|
        qz_ck ((0 : Int) < l2) <|
        qz_bn (qz_up h2 l2 1 3) fun h3 =>
        qz_ck ((l1 : Int) ≠ 0) <|
        qz_ck ((0 : Int) < l1) <|
        qz_bn (qz_up h3 l1 0 5) fun h4 =>
        some (0, h4)
def fn_Reader_beginPart_50 (l0 : Int) (l1 : Int) (l2 : Int) (l3 : Int) (h : qz_H) : Option qz_R :=
  qz_ck ((l2 : Int) ≠ 0) <|
  if 2 < h l2 1 then
    fn_Reader_beginPart_83 l0 l1 l2 l3 h
  else
    qz_ck ((h l0 0 : Int) ≠ 0) <|
    qz_bc (fn_Scanner_is (h l0 0) (-41) h) fun r1 h2 =>
    if r1 = 0 then
      fn_Reader_beginPart_83 l0 l1 l2 l3 h2
    else
      qz_ck ((l2 : Int) ≠ 0) <|
      qz_ck ((0 : Int) < l2) <|
      qz_bn (qz_up h2 l2 1 3) fun h3 =>
      qz_ck ((l1 : Int) ≠ 0) <|
      qz_ck ((0 : Int) < l1) <|
      qz_bn (qz_up h3 l1 0 6) fun h4 =>
      some (0, h4)
def fn_Reader_beginPart_13 (l0 : Int) (l1 : Int) (l2 : Int) (s0 : Int) (h : qz_H) : Option qz_R :=
  qz_bn (s0 : Int) fun x1 =>
  if x1 = 0 then
    fn_Reader_beginPart_50 l0 l1 l2 x1 h
  else
    qz_ck ((l2 : Int) ≠ 0) <|
    if 1 < h l2 1 then
      fn_Reader_beginPart_50 l0 l1 l2 x1 h
    else
      qz_ck ((h l0 0 : Int) ≠ 0) <|
      qz_bc (fn_Scanner_is (h l0 0) (-39) h) fun r2 h3 =>
      if r2 = 0 then
        fn_Reader_beginPart_50 l0 l1 l2 x1 h3
      else
        qz_ck ((l2 : Int) ≠ 0) <|
        qz_ck ((0 : Int) < l2) <|
        qz_bn (qz_up h3 l2 1 1) fun h4 =>
        qz_ck ((l1 : Int) ≠ 0) <|
        qz_ck ((0 : Int) < l1) <|
        qz_bn (qz_up h4 l1 0 4) fun h5 =>
        some (0, h5)
set_option maxRecDepth 20000 in
def fn_Reader_beginPart (l0 : Int) (l1 : Int) (l2 : Int) (h : qz_H) : Option qz_R :=
  qz_ck ((l2 : Int) ≠ 0) <|
  if ¬ h l2 0 = 3 then
    fn_Reader_beginPart_13 l0 l1 l2 0 h
  else
    fn_Reader_beginPart_13 l0 l1 l2 1 h
def bk_Reader_beginPart_0 : List (Instr × Nat) := [(.aload_n 2, 1), (.getfield 83, 3), (.iconst 3, 1), (.if_icmp .ne 7, 3), (.iconst 1, 1), (.goto 4, 3)]
def bk_Reader_beginPart_12 : List (Instr × Nat) := [(.iconst 0, 1)]
def bk_Reader_beginPart_13 : List (Instr × Nat) := [(.istore_n 3, 1), (.iload_n 3, 1), (.ifCond .eq 35, 3), (.aload_n 2, 1), (.getfield 115, 3), (.iconst 1, 1), (.if_icmp .gt 27, 3), (.aload_n 0, 1), (.getfield 33, 3), (.ldc 148, 2), (.invokevirtual 125, 3), (.ifCond .eq 15, 3), (.aload_n 2, 1), (.iconst 1, 1), (.putfield 115, 3), (.aload_n 1, 1), (.iconst 4, 1), (.putfield 83, 3), (.iconst 0, 1), (.ireturn, 1)]
def bk_Reader_beginPart_50 : List (Instr × Nat) := [(.aload_n 2, 1), (.getfield 115, 3), (.iconst 2, 1), (.if_icmp .gt 28, 3), (.aload_n 0, 1), (.getfield 33, 3), (.ldc 150, 2), (.invokevirtual 125, 3), (.ifCond .eq 16, 3), (.aload_n 2, 1), (.iconst 3, 1), (.putfield 115, 3), (.aload_n 1, 1), (.bipush 6, 2), (.putfield 83, 3), (.iconst 0, 1), (.ireturn, 1)]
def bk_Reader_beginPart_83 : List (Instr × Nat) := [(.iload_n 3, 1), (.ifCond .eq 35, 3), (.aload_n 2, 1), (.getfield 115, 3), (.iconst 3, 1), (.if_icmp .gt 27, 3), (.aload_n 0, 1), (.getfield 33, 3), (.ldc 152, 2), (.invokevirtual 125, 3), (.ifCond .eq 15, 3), (.aload_n 2, 1), (.iconst 3, 1), (.putfield 115, 3), (.aload_n 1, 1), (.iconst 5, 1), (.putfield 83, 3), (.iconst 0, 1), (.ireturn, 1)]
def bk_Reader_beginPart_119 : List (Instr × Nat) := [(.aload_n 2, 1), (.iconst 4, 1), (.putfield 115, 3), (.aload_n 0, 1), (.aload_n 1, 1), (.invokevirtual 132, 3), (.ireturn, 1)]
theorem ca_Reader_beginPart_0 : qz_ca yd_Reader_beginPart.2.1 0 bk_Reader_beginPart_0 := qz_cab_ok _ _ (by decide +kernel)
theorem ca_Reader_beginPart_12 : qz_ca yd_Reader_beginPart.2.1 12 bk_Reader_beginPart_12 := qz_cab_ok _ _ (by decide +kernel)
theorem ca_Reader_beginPart_13 : qz_ca yd_Reader_beginPart.2.1 13 bk_Reader_beginPart_13 := qz_cab_ok _ _ (by decide +kernel)
theorem ca_Reader_beginPart_50 : qz_ca yd_Reader_beginPart.2.1 50 bk_Reader_beginPart_50 := qz_cab_ok _ _ (by decide +kernel)
theorem ca_Reader_beginPart_83 : qz_ca yd_Reader_beginPart.2.1 83 bk_Reader_beginPart_83 := qz_cab_ok _ _ (by decide +kernel)
theorem ca_Reader_beginPart_119 : qz_ca yd_Reader_beginPart.2.1 119 bk_Reader_beginPart_119 := qz_cab_ok _ _ (by decide +kernel)
set_option maxRecDepth 20000 in
theorem jb_Reader_beginPart_119 (G : qz_G) (l0 : Int) (l1 : Int) (l2 : Int) (h : qz_H) : qz_J yd_Reader_beginPart G bk_Reader_beginPart_119 119 [qz_r true 9 l0, qz_r false 5 l1, qz_r false 5 l2, qz_u] [] h 0 0 (fn_Reader_beginPart_119 l0 l1 l2 h) := by
  unfold fn_Reader_beginPart_119 bk_Reader_beginPart_119; exact
    qz_aload_n rfl <|
    qz_iconst rfl <|
    qz_nnd 1 rfl <|
    qz_putI kw_5 fp_Reader_115_Reader_beginPart rfl rfl fun h1 =>
    qz_aload_n rfl <|
    qz_aload_n rfl <|
    qz_invvI [qz_r false 5 l1] rfl (cn_Reader_beginFolded l0 l1 h1) mw_Reader_beginFolded vw_Reader_beginFolded ⟨_, rfl, rfl, by decide⟩ rfl rfl ln_Reader_132 rfl fun r2 h3 =>
    qz_ireturn ⟨rfl, rfl⟩ rfl
set_option maxRecDepth 20000 in
theorem jb_Reader_beginPart_83 (G : qz_G) (l0 : Int) (l1 : Int) (l2 : Int) (l3 : Int) (h : qz_H) : qz_J yd_Reader_beginPart G bk_Reader_beginPart_83 83 [qz_r true 9 l0, qz_r false 5 l1, qz_r false 5 l2, qz_i l3] [] h 0 0 (fn_Reader_beginPart_83 l0 l1 l2 l3 h) := by
  unfold fn_Reader_beginPart_83 bk_Reader_beginPart_83; exact
    qz_iload_n rfl <|
    qz_if_eq rfl ca_Reader_beginPart_119
      (qz_fgt [1, 1, 1, 0] <| jb_Reader_beginPart_119 G l0 l1 l2 h)
      (qz_aload_n rfl <|
        qz_nnd 0 rfl <|
        qz_getI kg_5 fl_Reader_115 rfl rfl <|
        qz_iconst rfl <|
        qz_icmp_gt rfl ca_Reader_beginPart_119
          (qz_fgt [1, 1, 1, 0] <| jb_Reader_beginPart_119 G l0 l1 l2 h)
          (qz_aload_n rfl <|
            qz_getR (k1 := 10) kg_9 fl_Reader_33 rfl rfl <|
            qz_ldcS ss_Reader_152 rfl <|
            qz_nnd 1 rfl <|
            qz_wkS [2] <|
            qz_invvI [qz_r false 13 (-43)] rfl (cn_Scanner_is (h l0 0) (-43) h) mw_Scanner_is vw_Scanner_is ⟨_, rfl, rfl, by decide⟩ rfl rfl ln_Reader_125 rfl fun r1 h2 =>
            qz_if_eq rfl ca_Reader_beginPart_119
              (qz_fgt [1, 1, 1, 0] <| jb_Reader_beginPart_119 G l0 l1 l2 h2)
              (qz_aload_n rfl <|
                qz_iconst rfl <|
                qz_nnd 1 rfl <|
                qz_putI kw_5 fp_Reader_115_Reader_beginPart rfl rfl fun h3 =>
                qz_aload_n rfl <|
                qz_iconst rfl <|
                qz_nnd 1 rfl <|
                qz_putI kw_5 fp_Reader_83_Reader_beginPart rfl rfl fun h4 =>
                qz_iconst rfl <|
                qz_ireturn ⟨rfl, rfl⟩ rfl)))
set_option maxRecDepth 20000 in
theorem jb_Reader_beginPart_50 (G : qz_G) (l0 : Int) (l1 : Int) (l2 : Int) (l3 : Int) (h : qz_H) : qz_J yd_Reader_beginPart G bk_Reader_beginPart_50 50 [qz_r true 9 l0, qz_r false 5 l1, qz_r false 5 l2, qz_i l3] [] h 0 0 (fn_Reader_beginPart_50 l0 l1 l2 l3 h) := by
  unfold fn_Reader_beginPart_50 bk_Reader_beginPart_50; exact
    qz_aload_n rfl <|
    qz_nnd 0 rfl <|
    qz_getI kg_5 fl_Reader_115 rfl rfl <|
    qz_iconst rfl <|
    qz_icmp_gt rfl ca_Reader_beginPart_83
      (qz_fgt [1, 1, 1, 1] <| jb_Reader_beginPart_83 G l0 l1 l2 l3 h)
      (qz_aload_n rfl <|
        qz_getR (k1 := 10) kg_9 fl_Reader_33 rfl rfl <|
        qz_ldcS ss_Reader_150 rfl <|
        qz_nnd 1 rfl <|
        qz_wkS [2] <|
        qz_invvI [qz_r false 13 (-41)] rfl (cn_Scanner_is (h l0 0) (-41) h) mw_Scanner_is vw_Scanner_is ⟨_, rfl, rfl, by decide⟩ rfl rfl ln_Reader_125 rfl fun r1 h2 =>
        qz_if_eq rfl ca_Reader_beginPart_83
          (qz_fgt [1, 1, 1, 1] <| jb_Reader_beginPart_83 G l0 l1 l2 l3 h2)
          (qz_aload_n rfl <|
            qz_iconst rfl <|
            qz_nnd 1 rfl <|
            qz_putI kw_5 fp_Reader_115_Reader_beginPart rfl rfl fun h3 =>
            qz_aload_n rfl <|
            qz_bipush rfl <|
            qz_nnd 1 rfl <|
            qz_putI kw_5 fp_Reader_83_Reader_beginPart rfl rfl fun h4 =>
            qz_iconst rfl <|
            qz_ireturn ⟨rfl, rfl⟩ rfl))
set_option maxRecDepth 20000 in
theorem jb_Reader_beginPart_13 (G : qz_G) (l0 : Int) (l1 : Int) (l2 : Int) (s0 : Int) (h : qz_H) : qz_J yd_Reader_beginPart G bk_Reader_beginPart_13 13 [qz_r true 9 l0, qz_r false 5 l1, qz_r false 5 l2, qz_u] [qz_i s0] h 0 0 (fn_Reader_beginPart_13 l0 l1 l2 s0 h) := by
  unfold fn_Reader_beginPart_13 bk_Reader_beginPart_13; exact
    qz_istore_n (by decide) fun x1 =>
    qz_iload_n rfl <|
    qz_if_eq rfl ca_Reader_beginPart_50
      (qz_fgt [1, 1, 1, 1] <| jb_Reader_beginPart_50 G l0 l1 l2 x1 h)
      (qz_aload_n rfl <|
        qz_nnd 0 rfl <|
        qz_getI kg_5 fl_Reader_115 rfl rfl <|
        qz_iconst rfl <|
        qz_icmp_gt rfl ca_Reader_beginPart_50
          (qz_fgt [1, 1, 1, 1] <| jb_Reader_beginPart_50 G l0 l1 l2 x1 h)
          (qz_aload_n rfl <|
            qz_getR (k1 := 10) kg_9 fl_Reader_33 rfl rfl <|
            qz_ldcS ss_Reader_148 rfl <|
            qz_nnd 1 rfl <|
            qz_wkS [2] <|
            qz_invvI [qz_r false 13 (-39)] rfl (cn_Scanner_is (h l0 0) (-39) h) mw_Scanner_is vw_Scanner_is ⟨_, rfl, rfl, by decide⟩ rfl rfl ln_Reader_125 rfl fun r2 h3 =>
            qz_if_eq rfl ca_Reader_beginPart_50
              (qz_fgt [1, 1, 1, 1] <| jb_Reader_beginPart_50 G l0 l1 l2 x1 h3)
              (qz_aload_n rfl <|
                qz_iconst rfl <|
                qz_nnd 1 rfl <|
                qz_putI kw_5 fp_Reader_115_Reader_beginPart rfl rfl fun h4 =>
                qz_aload_n rfl <|
                qz_iconst rfl <|
                qz_nnd 1 rfl <|
                qz_putI kw_5 fp_Reader_83_Reader_beginPart rfl rfl fun h5 =>
                qz_iconst rfl <|
                qz_ireturn ⟨rfl, rfl⟩ rfl)))
set_option maxRecDepth 20000 in
theorem cn_Reader_beginPart (l0 : Int) (l1 : Int) (l2 : Int) (h : qz_H) : qz_C yd_Reader_beginPart [qz_r true 9 l0, qz_r false 5 l1, qz_r false 5 l2] h (fn_Reader_beginPart l0 l1 l2 h) := by
  refine qz_con (is := bk_Reader_beginPart_0) (ls := [qz_r true 9 l0, qz_r false 5 l1, qz_r false 5 l2, qz_u]) mw_Reader_beginPart.2.2.2 ca_Reader_beginPart_0 rfl rfl rfl fun G => ?_
  unfold fn_Reader_beginPart bk_Reader_beginPart_0; exact
    qz_aload_n rfl <|
    qz_nnd 0 rfl <|
    qz_getI kg_5 fl_Reader_83 rfl rfl <|
    qz_iconst rfl <|
    qz_icmp_ne rfl ca_Reader_beginPart_12
      (qz_iconst rfl <|
        qz_fall rfl ca_Reader_beginPart_13 <|
        qz_fgt [1, 1, 1, 0] <| jb_Reader_beginPart_13 G l0 l1 l2 0 h)
      (qz_iconst rfl <|
        qz_goto rfl ca_Reader_beginPart_13 <|
        qz_fgt [1, 1, 1, 0] <| jb_Reader_beginPart_13 G l0 l1 l2 1 h)
def fn_Reader_behindOpening_78 (s0 : Int) (h : qz_H) : Option qz_R :=
  some (s0, h)
set_option maxRecDepth 20000 in
def fn_Reader_behindOpening (l0 : Int) (l1 : Int) (h : qz_H) : Option qz_R :=
  qz_ck ((h l0 1 : Int) ≠ 0) <|
  qz_ck ((0 : Int) ≤ qz_max 0 (qz_w ((h l0 5) - 1)) ∧ qz_max 0 (qz_w ((h l0 5) - 1)) < h (h l0 1) (-1)) <|
  qz_bn (h (h l0 1) (qz_max 0 (qz_w ((h l0 5) - 1))) : Int) fun x1 =>
  qz_ck ((x1 : Int) ≠ 0) <|
  qz_swt (h x1 0) [
    (0,
      qz_ck ((l1 : Int) ≠ 0) <|
      qz_ck ((0 : Int) < l1) <|
      qz_bn (qz_up h l1 0 2) fun h2 =>
      qz_ck ((h2 l0 0 : Int) ≠ 0) <|
      qz_bc (fn_Scanner_is (h2 l0 0) (-35) h2) fun r3 h4 =>
      if r3 = 0 then
        fn_Reader_behindOpening_78 1 h4
      else
        fn_Reader_behindOpening_78 0 h4),
    (2,
      qz_bc (fn_Reader_beginFunction l0 l1 h) fun r5 h6 =>
      some (r5, h6)),
    (7,
      qz_bc (fn_Reader_beginFolded l0 l1 h) fun r7 h8 =>
      some (r7, h8))] <|
    qz_bc (fn_Reader_beginPart l0 l1 x1 h) fun r9 h10 =>
    some (r9, h10)
def bk_Reader_behindOpening_0 : List (Instr × Nat) := [(.aload_n 0, 1), (.getfield 11, 3), (.iconst 0, 1), (.aload_n 0, 1), (.getfield 46, 3), (.iconst 1, 1), (.isub, 1), (.invokestatic 109, 3), (.aaload, 1), (.astore_n 2, 1), (.aload_n 2, 1), (.getfield 83, 3), (.lookupswitch 71 #[(0, 36), (2, 59), (7, 65)], 36)]
def bk_Reader_behindOpening_56 : List (Instr × Nat) := [(.aload_n 1, 1), (.iconst 2, 1), (.putfield 83, 3), (.aload_n 0, 1), (.getfield 33, 3), (.ldc 124, 2), (.invokevirtual 125, 3), (.ifCond .eq 7, 3), (.iconst 0, 1), (.goto 4, 3)]
def bk_Reader_behindOpening_77 : List (Instr × Nat) := [(.iconst 1, 1)]
def bk_Reader_behindOpening_78 : List (Instr × Nat) := [(.ireturn, 1)]
def bk_Reader_behindOpening_79 : List (Instr × Nat) := [(.aload_n 0, 1), (.aload_n 1, 1), (.invokevirtual 129, 3), (.ireturn, 1)]
def bk_Reader_behindOpening_85 : List (Instr × Nat) := [(.aload_n 0, 1), (.aload_n 1, 1), (.invokevirtual 132, 3), (.ireturn, 1)]
def bk_Reader_behindOpening_91 : List (Instr × Nat) := [(.aload_n 0, 1), (.aload_n 1, 1), (.aload_n 2, 1), (.invokevirtual 135, 3), (.ireturn, 1)]
theorem ca_Reader_behindOpening_0 : qz_ca yd_Reader_behindOpening.2.1 0 bk_Reader_behindOpening_0 := qz_cab_ok _ _ (by decide +kernel)
theorem ca_Reader_behindOpening_56 : qz_ca yd_Reader_behindOpening.2.1 56 bk_Reader_behindOpening_56 := qz_cab_ok _ _ (by decide +kernel)
theorem ca_Reader_behindOpening_77 : qz_ca yd_Reader_behindOpening.2.1 77 bk_Reader_behindOpening_77 := qz_cab_ok _ _ (by decide +kernel)
theorem ca_Reader_behindOpening_78 : qz_ca yd_Reader_behindOpening.2.1 78 bk_Reader_behindOpening_78 := qz_cab_ok _ _ (by decide +kernel)
theorem ca_Reader_behindOpening_79 : qz_ca yd_Reader_behindOpening.2.1 79 bk_Reader_behindOpening_79 := qz_cab_ok _ _ (by decide +kernel)
theorem ca_Reader_behindOpening_85 : qz_ca yd_Reader_behindOpening.2.1 85 bk_Reader_behindOpening_85 := qz_cab_ok _ _ (by decide +kernel)
theorem ca_Reader_behindOpening_91 : qz_ca yd_Reader_behindOpening.2.1 91 bk_Reader_behindOpening_91 := qz_cab_ok _ _ (by decide +kernel)
set_option maxRecDepth 20000 in
theorem jb_Reader_behindOpening_78 (G : qz_G) (s0 : Int) (h : qz_H) : qz_J yd_Reader_behindOpening G bk_Reader_behindOpening_78 78 [qz_u, qz_u, qz_u] [qz_i s0] h 0 0 (fn_Reader_behindOpening_78 s0 h) := by
  unfold fn_Reader_behindOpening_78 bk_Reader_behindOpening_78; exact
    qz_ireturn ⟨rfl, rfl⟩ rfl
set_option maxRecDepth 20000 in
theorem cn_Reader_behindOpening (l0 : Int) (l1 : Int) (h : qz_H) : qz_C yd_Reader_behindOpening [qz_r true 9 l0, qz_r false 5 l1] h (fn_Reader_behindOpening l0 l1 h) := by
  refine qz_con (is := bk_Reader_behindOpening_0) (ls := [qz_r true 9 l0, qz_r false 5 l1, qz_u]) mw_Reader_behindOpening.2.2.2 ca_Reader_behindOpening_0 rfl rfl rfl fun G => ?_
  unfold fn_Reader_behindOpening bk_Reader_behindOpening_0; exact
    qz_aload_n rfl <|
    qz_getR (k1 := 47) kg_9 fl_Reader_11 rfl rfl <|
    qz_iconst rfl <|
    qz_aload_n rfl <|
    qz_getI kg_9 fl_Reader_46 rfl rfl <|
    qz_iconst rfl <|
    qz_isub <|
    qz_mmax ma_Reader_109 rfl <|
    qz_nnd 1 rfl <|
    qz_aald (k0 := 47) (k1 := 5) rfl rfl rfl <|
    qz_astore_n (by decide) fun x1 =>
    qz_aload_n rfl <|
    qz_nnd 0 rfl <|
    qz_getI kg_5 fl_Reader_83 rfl rfl <|
    qz_lsw [(0, 56, bk_Reader_behindOpening_56), (2, 79, bk_Reader_behindOpening_79), (7, 85, bk_Reader_behindOpening_85)] ca_Reader_behindOpening_91 rfl rfl rfl
      ⟨ca_Reader_behindOpening_56, qz_aload_n rfl <|
        qz_iconst rfl <|
        qz_nnd 1 rfl <|
        qz_putI kw_5 fp_Reader_83_Reader_behindOpening rfl rfl fun h2 =>
        qz_aload_n rfl <|
        qz_getR (k1 := 10) kg_9 fl_Reader_33 rfl rfl <|
        qz_ldcS ss_Reader_124 rfl <|
        qz_nnd 1 rfl <|
        qz_wkS [2] <|
        qz_invvI [qz_r false 13 (-35)] rfl (cn_Scanner_is (h2 l0 0) (-35) h2) mw_Scanner_is vw_Scanner_is ⟨_, rfl, rfl, by decide⟩ rfl rfl ln_Reader_125 rfl fun r3 h4 =>
        qz_if_eq rfl ca_Reader_behindOpening_77
          (qz_iconst rfl <|
            qz_fall rfl ca_Reader_behindOpening_78 <|
            qz_fgt [0, 0, 0] <| jb_Reader_behindOpening_78 G 1 h4)
          (qz_iconst rfl <|
            qz_goto rfl ca_Reader_behindOpening_78 <|
            qz_fgt [0, 0, 0] <| jb_Reader_behindOpening_78 G 0 h4),
      ⟨ca_Reader_behindOpening_79, qz_aload_n rfl <|
        qz_aload_n rfl <|
        qz_invvI [qz_r false 5 l1] rfl (cn_Reader_beginFunction l0 l1 h) mw_Reader_beginFunction vw_Reader_beginFunction ⟨_, rfl, rfl, by decide⟩ rfl rfl ln_Reader_129 rfl fun r5 h6 =>
        qz_ireturn ⟨rfl, rfl⟩ rfl,
      ⟨ca_Reader_behindOpening_85, qz_aload_n rfl <|
        qz_aload_n rfl <|
        qz_invvI [qz_r false 5 l1] rfl (cn_Reader_beginFolded l0 l1 h) mw_Reader_beginFolded vw_Reader_beginFolded ⟨_, rfl, rfl, by decide⟩ rfl rfl ln_Reader_132 rfl fun r7 h8 =>
        qz_ireturn ⟨rfl, rfl⟩ rfl,
      trivial⟩⟩⟩
      (qz_aload_n rfl <|
        qz_aload_n rfl <|
        qz_aload_n rfl <|
        qz_invvI [qz_r false 5 l1, qz_r false 5 x1] rfl (cn_Reader_beginPart l0 l1 x1 h) mw_Reader_beginPart vw_Reader_beginPart ⟨_, rfl, rfl, by decide⟩ rfl rfl ln_Reader_135 rfl fun r9 h10 =>
        qz_ireturn ⟨rfl, rfl⟩ rfl)
set_option maxRecDepth 20000 in
def fn_Reader_close (l0 : Int) (h : qz_H) : Option qz_R :=
  qz_ck ((0 : Int) < l0) <|
  qz_bn (qz_up h l0 5 (qz_max 0 (qz_w ((h l0 5) - 1)))) fun h1 =>
  some (0, h1)
def bk_Reader_close_0 : List (Instr × Nat) := [(.aload_n 0, 1), (.iconst 0, 1), (.aload_n 0, 1), (.getfield 46, 3), (.iconst 1, 1), (.isub, 1), (.invokestatic 109, 3), (.putfield 46, 3), (.iconst 0, 1), (.ireturn, 1)]
theorem ca_Reader_close_0 : qz_ca yd_Reader_close.2.1 0 bk_Reader_close_0 := qz_cab_ok _ _ (by decide +kernel)
set_option maxRecDepth 20000 in
theorem cn_Reader_close (l0 : Int) (h : qz_H) : qz_C yd_Reader_close [qz_r true 9 l0] h (fn_Reader_close l0 h) := by
  refine qz_con (is := bk_Reader_close_0) (ls := [qz_r true 9 l0]) mw_Reader_close.2.2.2 ca_Reader_close_0 rfl rfl rfl fun G => ?_
  unfold fn_Reader_close bk_Reader_close_0; exact
    qz_aload_n rfl <|
    qz_iconst rfl <|
    qz_aload_n rfl <|
    qz_getI kg_9 fl_Reader_46 rfl rfl <|
    qz_iconst rfl <|
    qz_isub <|
    qz_mmax ma_Reader_109 rfl <|
    qz_putI kw_9 fp_Reader_46_Reader_close rfl rfl fun h1 =>
    qz_iconst rfl <|
    qz_ireturn ⟨rfl, rfl⟩ rfl
def fn_Reader_inModule_34 (s0 : Int) (h : qz_H) : Option qz_R :=
  some (s0, h)
set_option maxRecDepth 20000 in
def fn_Reader_inModule (l0 : Int) (h : qz_H) : Option qz_R :=
  qz_ck ((h l0 0 : Int) ≠ 0) <|
  if ¬ h (h l0 0) 1 = 0 then
    qz_ck ((h l0 0 : Int) ≠ 0) <|
    if ¬ h (h l0 0) 1 = 1 then
      fn_Reader_inModule_34 1 h
    else
      qz_bc (fn_Reader_close l0 h) fun r1 h2 =>
      fn_Reader_inModule_34 r1 h2
  else
    qz_bc (fn_Reader_open l0 h) fun r3 h4 =>
    some (r3, h4)
def bk_Reader_inModule_0 : List (Instr × Nat) := [(.aload_n 0, 1), (.getfield 33, 3), (.getfield 73, 3), (.ifCond .ne 8, 3), (.aload_n 0, 1), (.invokevirtual 118, 3), (.ireturn, 1)]
def bk_Reader_inModule_15 : List (Instr × Nat) := [(.aload_n 0, 1), (.getfield 33, 3), (.getfield 73, 3), (.iconst 1, 1), (.if_icmp .ne 10, 3), (.aload_n 0, 1), (.invokevirtual 121, 3), (.goto 4, 3)]
def bk_Reader_inModule_33 : List (Instr × Nat) := [(.iconst 1, 1)]
def bk_Reader_inModule_34 : List (Instr × Nat) := [(.ireturn, 1)]
theorem ca_Reader_inModule_0 : qz_ca yd_Reader_inModule.2.1 0 bk_Reader_inModule_0 := qz_cab_ok _ _ (by decide +kernel)
theorem ca_Reader_inModule_15 : qz_ca yd_Reader_inModule.2.1 15 bk_Reader_inModule_15 := qz_cab_ok _ _ (by decide +kernel)
theorem ca_Reader_inModule_33 : qz_ca yd_Reader_inModule.2.1 33 bk_Reader_inModule_33 := qz_cab_ok _ _ (by decide +kernel)
theorem ca_Reader_inModule_34 : qz_ca yd_Reader_inModule.2.1 34 bk_Reader_inModule_34 := qz_cab_ok _ _ (by decide +kernel)
set_option maxRecDepth 20000 in
theorem jb_Reader_inModule_34 (G : qz_G) (s0 : Int) (h : qz_H) : qz_J yd_Reader_inModule G bk_Reader_inModule_34 34 [qz_u] [qz_i s0] h 0 0 (fn_Reader_inModule_34 s0 h) := by
  unfold fn_Reader_inModule_34 bk_Reader_inModule_34; exact
    qz_ireturn ⟨rfl, rfl⟩ rfl
set_option maxRecDepth 20000 in
theorem cn_Reader_inModule (l0 : Int) (h : qz_H) : qz_C yd_Reader_inModule [qz_r true 9 l0] h (fn_Reader_inModule l0 h) := by
  refine qz_con (is := bk_Reader_inModule_0) (ls := [qz_r true 9 l0]) mw_Reader_inModule.2.2.2 ca_Reader_inModule_0 rfl rfl rfl fun G => ?_
  unfold fn_Reader_inModule bk_Reader_inModule_0; exact
    qz_aload_n rfl <|
    qz_getR (k1 := 10) kg_9 fl_Reader_33 rfl rfl <|
    qz_nnd 0 rfl <|
    qz_getI kg_10 fl_Reader_73 rfl rfl <|
    qz_if_ne rfl ca_Reader_inModule_15
      (qz_aload_n rfl <|
        qz_getR (k1 := 10) kg_9 fl_Reader_33 rfl rfl <|
        qz_nnd 0 rfl <|
        qz_getI kg_10 fl_Reader_73 rfl rfl <|
        qz_iconst rfl <|
        qz_icmp_ne rfl ca_Reader_inModule_33
          (qz_iconst rfl <|
            qz_fall rfl ca_Reader_inModule_34 <|
            qz_fgt [0] <| jb_Reader_inModule_34 G 1 h)
          (qz_aload_n rfl <|
            qz_invvI [] rfl (cn_Reader_close l0 h) mw_Reader_close vw_Reader_close ⟨_, rfl, rfl, by decide⟩ rfl rfl ln_Reader_121 rfl fun r1 h2 =>
            qz_goto rfl ca_Reader_inModule_34 <|
            qz_fgt [0] <| jb_Reader_inModule_34 G r1 h2))
      (qz_aload_n rfl <|
        qz_invvI [] rfl (cn_Reader_open l0 h) mw_Reader_open vw_Reader_open ⟨_, rfl, rfl, by decide⟩ rfl rfl ln_Reader_118 rfl fun r3 h4 =>
        qz_ireturn ⟨rfl, rfl⟩ rfl)
def fn_Scanner_valueType_25 (s0 : Int) (h : qz_H) : Option qz_R :=
  some (s0, h)
set_option maxRecDepth 20000 in
def fn_Scanner_valueType (l0 : Int) (h : qz_H) : Option qz_R :=
  qz_bc (fn_Scanner_is l0 (-45) h) fun r1 h2 =>
  if r1 = 0 then
    qz_bc (fn_Scanner_is l0 (-47) h2) fun r3 h4 =>
    if r3 = 0 then
      fn_Scanner_valueType_25 0 h4
    else
      fn_Scanner_valueType_25 2 h4
  else
    some (1, h2)
def bk_Scanner_valueType_0 : List (Instr × Nat) := [(.aload_n 0, 1), (.ldc 70, 2), (.invokevirtual 72, 3), (.ifCond .eq 5, 3), (.iconst 1, 1), (.ireturn, 1)]
def bk_Scanner_valueType_11 : List (Instr × Nat) := [(.aload_n 0, 1), (.ldc 76, 2), (.invokevirtual 72, 3), (.ifCond .eq 7, 3), (.iconst 2, 1), (.goto 4, 3)]
def bk_Scanner_valueType_24 : List (Instr × Nat) := [(.iconst 0, 1)]
def bk_Scanner_valueType_25 : List (Instr × Nat) := [(.ireturn, 1)]
theorem ca_Scanner_valueType_0 : qz_ca yd_Scanner_valueType.2.1 0 bk_Scanner_valueType_0 := qz_cab_ok _ _ (by decide +kernel)
theorem ca_Scanner_valueType_11 : qz_ca yd_Scanner_valueType.2.1 11 bk_Scanner_valueType_11 := qz_cab_ok _ _ (by decide +kernel)
theorem ca_Scanner_valueType_24 : qz_ca yd_Scanner_valueType.2.1 24 bk_Scanner_valueType_24 := qz_cab_ok _ _ (by decide +kernel)
theorem ca_Scanner_valueType_25 : qz_ca yd_Scanner_valueType.2.1 25 bk_Scanner_valueType_25 := qz_cab_ok _ _ (by decide +kernel)
set_option maxRecDepth 20000 in
theorem jb_Scanner_valueType_25 (G : qz_G) (s0 : Int) (h : qz_H) : qz_J yd_Scanner_valueType G bk_Scanner_valueType_25 25 [qz_u] [qz_i s0] h 0 0 (fn_Scanner_valueType_25 s0 h) := by
  unfold fn_Scanner_valueType_25 bk_Scanner_valueType_25; exact
    qz_ireturn ⟨rfl, rfl⟩ rfl
set_option maxRecDepth 20000 in
theorem cn_Scanner_valueType (l0 : Int) (h : qz_H) : qz_C yd_Scanner_valueType [qz_r true 10 l0] h (fn_Scanner_valueType l0 h) := by
  refine qz_con (is := bk_Scanner_valueType_0) (ls := [qz_r true 10 l0]) mw_Scanner_valueType.2.2.2 ca_Scanner_valueType_0 rfl rfl rfl fun G => ?_
  unfold fn_Scanner_valueType bk_Scanner_valueType_0; exact
    qz_aload_n rfl <|
    qz_ldcS ss_Scanner_70 rfl <|
    qz_wkS [2] <|
    qz_invvI [qz_r false 13 (-45)] rfl (cn_Scanner_is l0 (-45) h) mw_Scanner_is vw_Scanner_is ⟨_, rfl, rfl, by decide⟩ rfl rfl ln_Scanner_72 rfl fun r1 h2 =>
    qz_if_eq rfl ca_Scanner_valueType_11
      (qz_aload_n rfl <|
        qz_ldcS ss_Scanner_76 rfl <|
        qz_wkS [2] <|
        qz_invvI [qz_r false 13 (-47)] rfl (cn_Scanner_is l0 (-47) h2) mw_Scanner_is vw_Scanner_is ⟨_, rfl, rfl, by decide⟩ rfl rfl ln_Scanner_72 rfl fun r3 h4 =>
        qz_if_eq rfl ca_Scanner_valueType_24
          (qz_iconst rfl <|
            qz_fall rfl ca_Scanner_valueType_25 <|
            qz_fgt [0] <| jb_Scanner_valueType_25 G 0 h4)
          (qz_iconst rfl <|
            qz_goto rfl ca_Scanner_valueType_25 <|
            qz_fgt [0] <| jb_Scanner_valueType_25 G 2 h4))
      (qz_iconst rfl <|
        qz_ireturn ⟨rfl, rfl⟩ rfl)
def fn_Function_addLocal_16 (h : qz_H) : Option qz_R :=
  qz_ck ((0 : Int) = 0 ∨ (0 : Int) = 1) (some (0, h))
set_option maxRecDepth 20000 in
def fn_Function_addLocal (l0 : Int) (l1 : Int) (h : qz_H) : Option qz_R :=
  if h l0 2 < 0 then
    fn_Function_addLocal_16 h
  else
    if h l0 2 < 8 then
      qz_ck ((h l0 0 : Int) ≠ 0) <|
      qz_ck (0 < h l0 0 ∧ (0 : Int) ≤ h l0 2 ∧ h l0 2 < h (h l0 0) (-1)) <|
      qz_bn (qz_up h (h l0 0) (h l0 2) l1) fun h1 =>
      qz_ck ((0 : Int) < l0) <|
      qz_bn (qz_up h1 l0 2 (qz_w ((h1 l0 2) + 1))) fun h2 =>
      qz_ck ((1 : Int) = 0 ∨ (1 : Int) = 1) (some (1, h2))
    else
      fn_Function_addLocal_16 h
def bk_Function_addLocal_0 : List (Instr × Nat) := [(.aload_n 0, 1), (.getfield 19, 3), (.ifCond .lt 12, 3), (.aload_n 0, 1), (.getfield 19, 3), (.bipush 8, 2), (.if_icmp .lt 5, 3)]
def bk_Function_addLocal_16 : List (Instr × Nat) := [(.iconst 0, 1), (.ireturn, 1)]
def bk_Function_addLocal_18 : List (Instr × Nat) := [(.aload_n 0, 1), (.getfield 9, 3), (.aload_n 0, 1), (.getfield 19, 3), (.iload_n 1, 1), (.iastore, 1), (.aload_n 0, 1), (.dup, 1), (.getfield 19, 3), (.iconst 1, 1), (.iadd, 1), (.putfield 19, 3), (.iconst 1, 1), (.ireturn, 1)]
theorem ca_Function_addLocal_0 : qz_ca yd_Function_addLocal.2.1 0 bk_Function_addLocal_0 := qz_cab_ok _ _ (by decide +kernel)
theorem ca_Function_addLocal_16 : qz_ca yd_Function_addLocal.2.1 16 bk_Function_addLocal_16 := qz_cab_ok _ _ (by decide +kernel)
theorem ca_Function_addLocal_18 : qz_ca yd_Function_addLocal.2.1 18 bk_Function_addLocal_18 := qz_cab_ok _ _ (by decide +kernel)
set_option maxRecDepth 20000 in
theorem jb_Function_addLocal_16 (G : qz_G) (h : qz_H) : qz_J yd_Function_addLocal G bk_Function_addLocal_16 16 [qz_u, qz_u] [] h 0 0 (fn_Function_addLocal_16 h) := by
  unfold fn_Function_addLocal_16 bk_Function_addLocal_16; exact
    qz_iconst rfl <|
    qz_zreturn ⟨rfl, rfl⟩ rfl
set_option maxRecDepth 20000 in
theorem cn_Function_addLocal (l0 : Int) (l1 : Int) (h : qz_H) : qz_C yd_Function_addLocal [qz_r true 4 l0, qz_i l1] h (fn_Function_addLocal l0 l1 h) := by
  refine qz_con (is := bk_Function_addLocal_0) (ls := [qz_r true 4 l0, qz_i l1]) mw_Function_addLocal.2.2.2 ca_Function_addLocal_0 rfl rfl rfl fun G => ?_
  unfold fn_Function_addLocal bk_Function_addLocal_0; exact
    qz_aload_n rfl <|
    qz_getI kg_4 fl_Function_19 rfl rfl <|
    qz_if_lt rfl ca_Function_addLocal_16
      (qz_fgt [0, 0] <| jb_Function_addLocal_16 G h)
      (qz_aload_n rfl <|
        qz_getI kg_4 fl_Function_19 rfl rfl <|
        qz_bipush rfl <|
        qz_icmp_lt rfl ca_Function_addLocal_18
          (qz_aload_n rfl <|
            qz_getR (k1 := 40) kg_4 fl_Function_9 rfl rfl <|
            qz_aload_n rfl <|
            qz_getI kg_4 fl_Function_19 rfl rfl <|
            qz_iload_n rfl <|
            qz_nnd 2 rfl <|
            qz_iast rfl rfl rfl fun h1 =>
            qz_aload_n rfl <|
            qz_dup rfl <|
            qz_getI kg_4 fl_Function_19 rfl rfl <|
            qz_iconst rfl <|
            qz_iadd <|
            qz_putI kw_4 fp_Function_19_Function_addLocal rfl rfl fun h2 =>
            qz_iconst rfl <|
            qz_zreturn ⟨rfl, rfl⟩ rfl)
          (qz_fall rfl ca_Function_addLocal_16 <|
            qz_fgt [0, 0] <| jb_Function_addLocal_16 G h))
def fn_Function_addParameter_17 (h : qz_H) : Option qz_R :=
  qz_ck ((0 : Int) = 0 ∨ (0 : Int) = 1) (some (0, h))
set_option maxRecDepth 20000 in
def fn_Function_addParameter (l0 : Int) (l1 : Int) (h : qz_H) : Option qz_R :=
  if 6 ≤ h l0 1 then
    fn_Function_addParameter_17 h
  else
    qz_bc (fn_Function_addLocal l0 l1 h) fun r1 h2 =>
    if ¬ r1 = 0 then
      qz_ck ((0 : Int) < l0) <|
      qz_bn (qz_up h2 l0 1 (qz_w ((h2 l0 1) + 1))) fun h3 =>
      qz_ck ((1 : Int) = 0 ∨ (1 : Int) = 1) (some (1, h3))
    else
      fn_Function_addParameter_17 h2
def bk_Function_addParameter_0 : List (Instr × Nat) := [(.aload_n 0, 1), (.getfield 15, 3), (.bipush 6, 2), (.if_icmp .ge 11, 3), (.aload_n 0, 1), (.iload_n 1, 1), (.invokevirtual 33, 3), (.ifCond .ne 5, 3)]
def bk_Function_addParameter_17 : List (Instr × Nat) := [(.iconst 0, 1), (.ireturn, 1)]
def bk_Function_addParameter_19 : List (Instr × Nat) := [(.aload_n 0, 1), (.dup, 1), (.getfield 15, 3), (.iconst 1, 1), (.iadd, 1), (.putfield 15, 3), (.iconst 1, 1), (.ireturn, 1)]
theorem ca_Function_addParameter_0 : qz_ca yd_Function_addParameter.2.1 0 bk_Function_addParameter_0 := qz_cab_ok _ _ (by decide +kernel)
theorem ca_Function_addParameter_17 : qz_ca yd_Function_addParameter.2.1 17 bk_Function_addParameter_17 := qz_cab_ok _ _ (by decide +kernel)
theorem ca_Function_addParameter_19 : qz_ca yd_Function_addParameter.2.1 19 bk_Function_addParameter_19 := qz_cab_ok _ _ (by decide +kernel)
set_option maxRecDepth 20000 in
theorem jb_Function_addParameter_17 (G : qz_G) (h : qz_H) : qz_J yd_Function_addParameter G bk_Function_addParameter_17 17 [qz_u, qz_u] [] h 0 0 (fn_Function_addParameter_17 h) := by
  unfold fn_Function_addParameter_17 bk_Function_addParameter_17; exact
    qz_iconst rfl <|
    qz_zreturn ⟨rfl, rfl⟩ rfl
set_option maxRecDepth 20000 in
theorem cn_Function_addParameter (l0 : Int) (l1 : Int) (h : qz_H) : qz_C yd_Function_addParameter [qz_r true 4 l0, qz_i l1] h (fn_Function_addParameter l0 l1 h) := by
  refine qz_con (is := bk_Function_addParameter_0) (ls := [qz_r true 4 l0, qz_i l1]) mw_Function_addParameter.2.2.2 ca_Function_addParameter_0 rfl rfl rfl fun G => ?_
  unfold fn_Function_addParameter bk_Function_addParameter_0; exact
    qz_aload_n rfl <|
    qz_getI kg_4 fl_Function_15 rfl rfl <|
    qz_bipush rfl <|
    qz_icmp_ge rfl ca_Function_addParameter_17
      (qz_fgt [0, 0] <| jb_Function_addParameter_17 G h)
      (qz_aload_n rfl <|
        qz_iload_n rfl <|
        qz_invvI [qz_i l1] rfl (cn_Function_addLocal l0 l1 h) mw_Function_addLocal vw_Function_addLocal ⟨_, rfl, rfl, by decide⟩ rfl rfl ln_Function_33 rfl fun r1 h2 =>
        qz_if_ne rfl ca_Function_addParameter_19
          (qz_aload_n rfl <|
            qz_dup rfl <|
            qz_getI kg_4 fl_Function_15 rfl rfl <|
            qz_iconst rfl <|
            qz_iadd <|
            qz_putI kw_4 fp_Function_15_Function_addParameter rfl rfl fun h3 =>
            qz_iconst rfl <|
            qz_zreturn ⟨rfl, rfl⟩ rfl)
          (qz_fall rfl ca_Function_addParameter_17 <|
            qz_fgt [0, 0] <| jb_Function_addParameter_17 G h2))
def fn_Reader_declare_58 (s0 : Int) (h : qz_H) : Option qz_R :=
  qz_ck ((s0 : Int) = 0 ∨ (s0 : Int) = 1) (some (s0, h))
def fn_Reader_declare_37 (l1 : Int) (l2 : Int) (l3 : Int) (h : qz_H) : Option qz_R :=
  qz_ck ((l1 : Int) ≠ 0) <|
  if ¬ h l1 0 = 4 then
    qz_ck ((l3 : Int) ≠ 0) <|
    qz_bc (fn_Function_addLocal l3 l2 h) fun r1 h2 =>
    fn_Reader_declare_58 r1 h2
  else
    qz_ck ((l3 : Int) ≠ 0) <|
    qz_bc (fn_Function_addParameter l3 l2 h) fun r3 h4 =>
    fn_Reader_declare_58 r3 h4
set_option maxRecDepth 20000 in
def fn_Reader_declare (l0 : Int) (l1 : Int) (l2 : Int) (h : qz_H) : Option qz_R :=
  qz_ck ((h l0 4 : Int) ≠ 0) <|
  qz_bc (fn_Module_latest (h l0 4) h) fun r1 h2 =>
  qz_bn (r1 : Int) fun x3 =>
  qz_ck ((x3 : Int) ≠ 0) <|
  qz_bn (h2 x3 2 : Int) fun x4 =>
  if x4 < 0 then
    fn_Reader_declare_37 l1 l2 x3 h2
  else
    if 8 ≤ x4 then
      fn_Reader_declare_37 l1 l2 x3 h2
    else
      qz_ck ((l1 : Int) ≠ 0) <|
      qz_ck ((h2 l0 3 : Int) ≠ 0) <|
      qz_ck (0 < h2 l0 3 ∧ (0 : Int) ≤ x4 ∧ x4 < h2 (h2 l0 3) (-1)) <|
      qz_bn (qz_up h2 (h2 l0 3) x4 (h2 l1 2)) fun h5 =>
      fn_Reader_declare_37 l1 l2 x3 h5
def bk_Reader_declare_0 : List (Instr × Nat) := [(.aload_n 0, 1), (.getfield 24, 3), (.invokevirtual 190, 3), (.astore_n 3, 1), (.aload_n 3, 1), (.getfield 194, 3), (.istore 4, 2), (.iload 4, 2), (.ifCond .lt 21, 3), (.iload 4, 2), (.bipush 8, 2), (.if_icmp .ge 14, 3), (.aload_n 0, 1), (.getfield 21, 3), (.iload 4, 2), (.aload_n 1, 1), (.getfield 187, 3), (.iastore, 1)]
def bk_Reader_declare_37 : List (Instr × Nat) := [(.aload_n 1, 1), (.getfield 83, 3), (.iconst 4, 1), (.if_icmp .ne 11, 3), (.aload_n 3, 1), (.iload_n 2, 1), (.invokevirtual 199, 3), (.goto 8, 3)]
def bk_Reader_declare_53 : List (Instr × Nat) := [(.aload_n 3, 1), (.iload_n 2, 1), (.invokevirtual 202, 3)]
def bk_Reader_declare_58 : List (Instr × Nat) := [(.ireturn, 1)]
theorem ca_Reader_declare_0 : qz_ca yd_Reader_declare.2.1 0 bk_Reader_declare_0 := qz_cab_ok _ _ (by decide +kernel)
theorem ca_Reader_declare_37 : qz_ca yd_Reader_declare.2.1 37 bk_Reader_declare_37 := qz_cab_ok _ _ (by decide +kernel)
theorem ca_Reader_declare_53 : qz_ca yd_Reader_declare.2.1 53 bk_Reader_declare_53 := qz_cab_ok _ _ (by decide +kernel)
theorem ca_Reader_declare_58 : qz_ca yd_Reader_declare.2.1 58 bk_Reader_declare_58 := qz_cab_ok _ _ (by decide +kernel)
set_option maxRecDepth 20000 in
theorem jb_Reader_declare_58 (G : qz_G) (s0 : Int) (h : qz_H) : qz_J yd_Reader_declare G bk_Reader_declare_58 58 [qz_u, qz_u, qz_u, qz_u, qz_u] [qz_i s0] h 0 0 (fn_Reader_declare_58 s0 h) := by
  unfold fn_Reader_declare_58 bk_Reader_declare_58; exact
    qz_zreturn ⟨rfl, rfl⟩ rfl
set_option maxRecDepth 20000 in
theorem jb_Reader_declare_37 (G : qz_G) (l1 : Int) (l2 : Int) (l3 : Int) (h : qz_H) : qz_J yd_Reader_declare G bk_Reader_declare_37 37 [qz_u, qz_r false 5 l1, qz_i l2, qz_r false 4 l3, qz_u] [] h 0 0 (fn_Reader_declare_37 l1 l2 l3 h) := by
  unfold fn_Reader_declare_37 bk_Reader_declare_37; exact
    qz_aload_n rfl <|
    qz_nnd 0 rfl <|
    qz_getI kg_5 fl_Reader_83 rfl rfl <|
    qz_iconst rfl <|
    qz_icmp_ne rfl ca_Reader_declare_53
      (qz_aload_n rfl <|
        qz_iload_n rfl <|
        qz_nnd 1 rfl <|
        qz_invvI [qz_i l2] rfl (cn_Function_addLocal l3 l2 h) mw_Function_addLocal vw_Function_addLocal ⟨_, rfl, rfl, by decide⟩ rfl rfl ln_Reader_202 rfl fun r1 h2 =>
        qz_fall rfl ca_Reader_declare_58 <|
        qz_fgt [0, 0, 0, 0, 0] <| jb_Reader_declare_58 G r1 h2)
      (qz_aload_n rfl <|
        qz_iload_n rfl <|
        qz_nnd 1 rfl <|
        qz_invvI [qz_i l2] rfl (cn_Function_addParameter l3 l2 h) mw_Function_addParameter vw_Function_addParameter ⟨_, rfl, rfl, by decide⟩ rfl rfl ln_Reader_199 rfl fun r3 h4 =>
        qz_goto rfl ca_Reader_declare_58 <|
        qz_fgt [0, 0, 0, 0, 0] <| jb_Reader_declare_58 G r3 h4)
set_option maxRecDepth 20000 in
theorem cn_Reader_declare (l0 : Int) (l1 : Int) (l2 : Int) (h : qz_H) : qz_C yd_Reader_declare [qz_r true 9 l0, qz_r false 5 l1, qz_i l2] h (fn_Reader_declare l0 l1 l2 h) := by
  refine qz_con (is := bk_Reader_declare_0) (ls := [qz_r true 9 l0, qz_r false 5 l1, qz_i l2, qz_u, qz_u]) mw_Reader_declare.2.2.2 ca_Reader_declare_0 rfl rfl rfl fun G => ?_
  unfold fn_Reader_declare bk_Reader_declare_0; exact
    qz_aload_n rfl <|
    qz_getR (k1 := 6) kg_9 fl_Reader_24 rfl rfl <|
    qz_nnd 0 rfl <|
    qz_invvR [] rfl (cn_Module_latest (h l0 4) h) mw_Module_latest vw_Module_latest ⟨_, rfl, rfl, by decide⟩ rfl rfl ln_Reader_190 rfl fun r1 h2 =>
    qz_astore_n (by decide) fun x3 =>
    qz_aload_n rfl <|
    qz_nnd 0 rfl <|
    qz_getI kg_4 fl_Reader_194 rfl rfl <|
    qz_istore (by decide) fun x4 =>
    qz_iload rfl <|
    qz_if_lt rfl ca_Reader_declare_37
      (qz_fgt [0, 1, 1, 1, 0] <| jb_Reader_declare_37 G l1 l2 x3 h2)
      (qz_iload rfl <|
        qz_bipush rfl <|
        qz_icmp_ge rfl ca_Reader_declare_37
          (qz_fgt [0, 1, 1, 1, 0] <| jb_Reader_declare_37 G l1 l2 x3 h2)
          (qz_aload_n rfl <|
            qz_getR (k1 := 40) kg_9 fl_Reader_21 rfl rfl <|
            qz_iload rfl <|
            qz_aload_n rfl <|
            qz_nnd 0 rfl <|
            qz_getI kg_5 fl_Reader_187 rfl rfl <|
            qz_nnd 2 rfl <|
            qz_iast rfl rfl rfl fun h5 =>
            qz_fall rfl ca_Reader_declare_37 <|
            qz_fgt [0, 1, 1, 1, 0] <| jb_Reader_declare_37 G l1 l2 x3 h5))
def fn_Reader_inDeclaration_100 (h : qz_H) : Option qz_R :=
  some (1, h)
def fn_Reader_inDeclaration_76 (l0 : Int) (l1 : Int) (h : qz_H) : Option qz_R :=
  qz_ck ((l1 : Int) ≠ 0) <|
  if ¬ h l1 1 = 0 then
    fn_Reader_inDeclaration_100 h
  else
    qz_ck ((h l0 0 : Int) ≠ 0) <|
    qz_bc (fn_Scanner_isName (h l0 0) h) fun r1 h2 =>
    if r1 = 0 then
      fn_Reader_inDeclaration_100 h2
    else
      qz_bc (fn_Reader_slotNamed l0 h2) fun r3 h4 =>
      if r3 < 0 then
        qz_ck ((l1 : Int) ≠ 0) <|
        qz_ck ((0 : Int) < l1) <|
        qz_bn (qz_up h4 l1 1 1) fun h5 =>
        qz_ck ((h5 l0 0 : Int) ≠ 0) <|
        qz_ck ((l1 : Int) ≠ 0) <|
        qz_ck ((0 : Int) < l1) <|
        qz_bn (qz_up h5 l1 2 (h5 (h5 l0 0) 2)) fun h6 =>
        some (0, h6)
      else
        fn_Reader_inDeclaration_100 h4
def fn_Reader_inDeclaration_52 (l0 : Int) (l1 : Int) (h : qz_H) : Option qz_R :=
  qz_ck ((h l0 0 : Int) ≠ 0) <|
  if ¬ h (h l0 0) 1 = 1 then
    fn_Reader_inDeclaration_76 l0 l1 h
  else
    qz_ck ((l1 : Int) ≠ 0) <|
    if h l1 1 = 1 then
      fn_Reader_inDeclaration_76 l0 l1 h
    else
      qz_bc (fn_Reader_close l0 h) fun r1 h2 =>
      some (r1, h2)
def fn_Reader_inDeclaration_51 (s0 : Int) (h : qz_H) : Option qz_R :=
  some (s0, h)
def fn_Reader_inDeclaration_34 (l0 : Int) (l1 : Int) (l2 : Int) (s0 : Int) (s1 : Int) (h : qz_H) : Option qz_R :=
  qz_ck ((s0 : Int) ≠ 0) <|
  qz_ck ((0 : Int) < s0) <|
  qz_bn (qz_up h s0 1 s1) fun h1 =>
  qz_bc (fn_Reader_declare l0 l1 l2 h1) fun r2 h3 =>
  if r2 = 0 then
    fn_Reader_inDeclaration_51 2 h3
  else
    fn_Reader_inDeclaration_51 0 h3
set_option maxRecDepth 20000 in
def fn_Reader_inDeclaration (l0 : Int) (l1 : Int) (h : qz_H) : Option qz_R :=
  qz_ck ((h l0 0 : Int) ≠ 0) <|
  qz_bc (fn_Scanner_valueType (h l0 0) h) fun r1 h2 =>
  qz_bn (r1 : Int) fun x3 =>
  if x3 = 0 then
    fn_Reader_inDeclaration_52 l0 l1 h2
  else
    qz_ck ((l1 : Int) ≠ 0) <|
    if h2 l1 1 = 3 then
      fn_Reader_inDeclaration_52 l0 l1 h2
    else
      qz_ck ((l1 : Int) ≠ 0) <|
      if ¬ h2 l1 1 = 1 then
        fn_Reader_inDeclaration_34 l0 l1 x3 l1 2 h2
      else
        fn_Reader_inDeclaration_34 l0 l1 x3 l1 3 h2
def bk_Reader_inDeclaration_0 : List (Instr × Nat) := [(.aload_n 0, 1), (.getfield 33, 3), (.invokevirtual 174, 3), (.istore_n 2, 1), (.iload_n 2, 1), (.ifCond .eq 43, 3), (.aload_n 1, 1), (.getfield 115, 3), (.iconst 3, 1), (.if_icmp .eq 35, 3), (.aload_n 1, 1), (.aload_n 1, 1), (.getfield 115, 3), (.iconst 1, 1), (.if_icmp .ne 7, 3), (.iconst 3, 1), (.goto 4, 3)]
def bk_Reader_inDeclaration_52 : List (Instr × Nat) := [(.aload_n 0, 1), (.getfield 33, 3), (.getfield 73, 3), (.iconst 1, 1), (.if_icmp .ne 16, 3), (.aload_n 1, 1), (.getfield 115, 3), (.iconst 1, 1), (.if_icmp .eq 8, 3), (.aload_n 0, 1), (.invokevirtual 121, 3), (.ireturn, 1)]
def bk_Reader_inDeclaration_33 : List (Instr × Nat) := [(.iconst 2, 1)]
def bk_Reader_inDeclaration_34 : List (Instr × Nat) := [(.putfield 115, 3), (.aload_n 0, 1), (.aload_n 1, 1), (.iload_n 2, 1), (.invokevirtual 177, 3), (.ifCond .eq 7, 3), (.iconst 0, 1), (.goto 4, 3)]
def bk_Reader_inDeclaration_76 : List (Instr × Nat) := [(.aload_n 1, 1), (.getfield 115, 3), (.ifCond .ne 20, 3), (.aload_n 0, 1), (.getfield 33, 3), (.invokevirtual 181, 3), (.ifCond .eq 10, 3), (.aload_n 0, 1), (.invokevirtual 184, 3), (.ifCond .lt 5, 3)]
def bk_Reader_inDeclaration_50 : List (Instr × Nat) := [(.iconst 2, 1)]
def bk_Reader_inDeclaration_51 : List (Instr × Nat) := [(.ireturn, 1)]
def bk_Reader_inDeclaration_100 : List (Instr × Nat) := [(.iconst 1, 1), (.ireturn, 1)]
def bk_Reader_inDeclaration_102 : List (Instr × Nat) := [(.aload_n 1, 1), (.iconst 1, 1), (.putfield 115, 3), (.aload_n 1, 1), (.aload_n 0, 1), (.getfield 33, 3), (.getfield 63, 3), (.putfield 187, 3), (.iconst 0, 1), (.ireturn, 1)]
theorem ca_Reader_inDeclaration_0 : qz_ca yd_Reader_inDeclaration.2.1 0 bk_Reader_inDeclaration_0 := qz_cab_ok _ _ (by decide +kernel)
theorem ca_Reader_inDeclaration_52 : qz_ca yd_Reader_inDeclaration.2.1 52 bk_Reader_inDeclaration_52 := qz_cab_ok _ _ (by decide +kernel)
theorem ca_Reader_inDeclaration_33 : qz_ca yd_Reader_inDeclaration.2.1 33 bk_Reader_inDeclaration_33 := qz_cab_ok _ _ (by decide +kernel)
theorem ca_Reader_inDeclaration_34 : qz_ca yd_Reader_inDeclaration.2.1 34 bk_Reader_inDeclaration_34 := qz_cab_ok _ _ (by decide +kernel)
theorem ca_Reader_inDeclaration_76 : qz_ca yd_Reader_inDeclaration.2.1 76 bk_Reader_inDeclaration_76 := qz_cab_ok _ _ (by decide +kernel)
theorem ca_Reader_inDeclaration_50 : qz_ca yd_Reader_inDeclaration.2.1 50 bk_Reader_inDeclaration_50 := qz_cab_ok _ _ (by decide +kernel)
theorem ca_Reader_inDeclaration_51 : qz_ca yd_Reader_inDeclaration.2.1 51 bk_Reader_inDeclaration_51 := qz_cab_ok _ _ (by decide +kernel)
theorem ca_Reader_inDeclaration_100 : qz_ca yd_Reader_inDeclaration.2.1 100 bk_Reader_inDeclaration_100 := qz_cab_ok _ _ (by decide +kernel)
theorem ca_Reader_inDeclaration_102 : qz_ca yd_Reader_inDeclaration.2.1 102 bk_Reader_inDeclaration_102 := qz_cab_ok _ _ (by decide +kernel)
set_option maxRecDepth 20000 in
theorem jb_Reader_inDeclaration_100 (G : qz_G) (h : qz_H) : qz_J yd_Reader_inDeclaration G bk_Reader_inDeclaration_100 100 [qz_u, qz_u, qz_u] [] h 0 0 (fn_Reader_inDeclaration_100 h) := by
  unfold fn_Reader_inDeclaration_100 bk_Reader_inDeclaration_100; exact
    qz_iconst rfl <|
    qz_ireturn ⟨rfl, rfl⟩ rfl
set_option maxRecDepth 20000 in
theorem jb_Reader_inDeclaration_76 (G : qz_G) (l0 : Int) (l1 : Int) (h : qz_H) : qz_J yd_Reader_inDeclaration G bk_Reader_inDeclaration_76 76 [qz_r true 9 l0, qz_r false 5 l1, qz_u] [] h 0 0 (fn_Reader_inDeclaration_76 l0 l1 h) := by
  unfold fn_Reader_inDeclaration_76 bk_Reader_inDeclaration_76; exact
    qz_aload_n rfl <|
    qz_nnd 0 rfl <|
    qz_getI kg_5 fl_Reader_115 rfl rfl <|
    qz_if_ne rfl ca_Reader_inDeclaration_100
      (qz_fgt [0, 0, 0] <| jb_Reader_inDeclaration_100 G h)
      (qz_aload_n rfl <|
        qz_getR (k1 := 10) kg_9 fl_Reader_33 rfl rfl <|
        qz_nnd 0 rfl <|
        qz_invvI [] rfl (cn_Scanner_isName (h l0 0) h) mw_Scanner_isName vw_Scanner_isName ⟨_, rfl, rfl, by decide⟩ rfl rfl ln_Reader_181 rfl fun r1 h2 =>
        qz_if_eq rfl ca_Reader_inDeclaration_100
          (qz_fgt [0, 0, 0] <| jb_Reader_inDeclaration_100 G h2)
          (qz_aload_n rfl <|
            qz_invvI [] rfl (cn_Reader_slotNamed l0 h2) mw_Reader_slotNamed vw_Reader_slotNamed ⟨_, rfl, rfl, by decide⟩ rfl rfl ln_Reader_184 rfl fun r3 h4 =>
            qz_if_lt rfl ca_Reader_inDeclaration_102
              (qz_aload_n rfl <|
                qz_iconst rfl <|
                qz_nnd 1 rfl <|
                qz_putI kw_5 fp_Reader_115_Reader_inDeclaration rfl rfl fun h5 =>
                qz_aload_n rfl <|
                qz_aload_n rfl <|
                qz_getR (k1 := 10) kg_9 fl_Reader_33 rfl rfl <|
                qz_nnd 0 rfl <|
                qz_getI kg_10 fl_Reader_63 rfl rfl <|
                qz_nnd 1 rfl <|
                qz_putI kw_5 fp_Reader_187_Reader_inDeclaration rfl rfl fun h6 =>
                qz_iconst rfl <|
                qz_ireturn ⟨rfl, rfl⟩ rfl)
              (qz_fall rfl ca_Reader_inDeclaration_100 <|
                qz_fgt [0, 0, 0] <| jb_Reader_inDeclaration_100 G h4)))
set_option maxRecDepth 20000 in
theorem jb_Reader_inDeclaration_52 (G : qz_G) (l0 : Int) (l1 : Int) (h : qz_H) : qz_J yd_Reader_inDeclaration G bk_Reader_inDeclaration_52 52 [qz_r true 9 l0, qz_r false 5 l1, qz_u] [] h 0 0 (fn_Reader_inDeclaration_52 l0 l1 h) := by
  unfold fn_Reader_inDeclaration_52 bk_Reader_inDeclaration_52; exact
    qz_aload_n rfl <|
    qz_getR (k1 := 10) kg_9 fl_Reader_33 rfl rfl <|
    qz_nnd 0 rfl <|
    qz_getI kg_10 fl_Reader_73 rfl rfl <|
    qz_iconst rfl <|
    qz_icmp_ne rfl ca_Reader_inDeclaration_76
      (qz_fgt [1, 1, 0] <| jb_Reader_inDeclaration_76 G l0 l1 h)
      (qz_aload_n rfl <|
        qz_nnd 0 rfl <|
        qz_getI kg_5 fl_Reader_115 rfl rfl <|
        qz_iconst rfl <|
        qz_icmp_eq rfl ca_Reader_inDeclaration_76
          (qz_fgt [1, 1, 0] <| jb_Reader_inDeclaration_76 G l0 l1 h)
          (qz_aload_n rfl <|
            qz_invvI [] rfl (cn_Reader_close l0 h) mw_Reader_close vw_Reader_close ⟨_, rfl, rfl, by decide⟩ rfl rfl ln_Reader_121 rfl fun r1 h2 =>
            qz_ireturn ⟨rfl, rfl⟩ rfl))
set_option maxRecDepth 20000 in
theorem jb_Reader_inDeclaration_51 (G : qz_G) (s0 : Int) (h : qz_H) : qz_J yd_Reader_inDeclaration G bk_Reader_inDeclaration_51 51 [qz_u, qz_u, qz_u] [qz_i s0] h 0 0 (fn_Reader_inDeclaration_51 s0 h) := by
  unfold fn_Reader_inDeclaration_51 bk_Reader_inDeclaration_51; exact
    qz_ireturn ⟨rfl, rfl⟩ rfl
set_option maxRecDepth 20000 in
theorem jb_Reader_inDeclaration_34 (G : qz_G) (l0 : Int) (l1 : Int) (l2 : Int) (s0 : Int) (s1 : Int) (h : qz_H) : qz_J yd_Reader_inDeclaration G bk_Reader_inDeclaration_34 34 [qz_r true 9 l0, qz_r false 5 l1, qz_i l2] [qz_i s1, qz_r false 5 s0] h 0 0 (fn_Reader_inDeclaration_34 l0 l1 l2 s0 s1 h) := by
  unfold fn_Reader_inDeclaration_34 bk_Reader_inDeclaration_34; exact
    qz_nnd 1 rfl <|
    qz_putI kw_5 fp_Reader_115_Reader_inDeclaration rfl rfl fun h1 =>
    qz_aload_n rfl <|
    qz_aload_n rfl <|
    qz_iload_n rfl <|
    qz_invvI [qz_r false 5 l1, qz_i l2] rfl (cn_Reader_declare l0 l1 l2 h1) mw_Reader_declare vw_Reader_declare ⟨_, rfl, rfl, by decide⟩ rfl rfl ln_Reader_177 rfl fun r2 h3 =>
    qz_if_eq rfl ca_Reader_inDeclaration_50
      (qz_iconst rfl <|
        qz_fall rfl ca_Reader_inDeclaration_51 <|
        qz_fgt [0, 0, 0] <| jb_Reader_inDeclaration_51 G 2 h3)
      (qz_iconst rfl <|
        qz_goto rfl ca_Reader_inDeclaration_51 <|
        qz_fgt [0, 0, 0] <| jb_Reader_inDeclaration_51 G 0 h3)
set_option maxRecDepth 20000 in
theorem cn_Reader_inDeclaration (l0 : Int) (l1 : Int) (h : qz_H) : qz_C yd_Reader_inDeclaration [qz_r true 9 l0, qz_r false 5 l1] h (fn_Reader_inDeclaration l0 l1 h) := by
  refine qz_con (is := bk_Reader_inDeclaration_0) (ls := [qz_r true 9 l0, qz_r false 5 l1, qz_u]) mw_Reader_inDeclaration.2.2.2 ca_Reader_inDeclaration_0 rfl rfl rfl fun G => ?_
  unfold fn_Reader_inDeclaration bk_Reader_inDeclaration_0; exact
    qz_aload_n rfl <|
    qz_getR (k1 := 10) kg_9 fl_Reader_33 rfl rfl <|
    qz_nnd 0 rfl <|
    qz_invvI [] rfl (cn_Scanner_valueType (h l0 0) h) mw_Scanner_valueType vw_Scanner_valueType ⟨_, rfl, rfl, by decide⟩ rfl rfl ln_Reader_174 rfl fun r1 h2 =>
    qz_istore_n (by decide) fun x3 =>
    qz_iload_n rfl <|
    qz_if_eq rfl ca_Reader_inDeclaration_52
      (qz_fgt [1, 1, 0] <| jb_Reader_inDeclaration_52 G l0 l1 h2)
      (qz_aload_n rfl <|
        qz_nnd 0 rfl <|
        qz_getI kg_5 fl_Reader_115 rfl rfl <|
        qz_iconst rfl <|
        qz_icmp_eq rfl ca_Reader_inDeclaration_52
          (qz_fgt [1, 1, 0] <| jb_Reader_inDeclaration_52 G l0 l1 h2)
          (qz_aload_n rfl <|
            qz_aload_n rfl <|
            qz_nnd 0 rfl <|
            qz_getI kg_5 fl_Reader_115 rfl rfl <|
            qz_iconst rfl <|
            qz_icmp_ne rfl ca_Reader_inDeclaration_33
              (qz_iconst rfl <|
                qz_fall rfl ca_Reader_inDeclaration_34 <|
                qz_fgt [1, 1, 1] <| jb_Reader_inDeclaration_34 G l0 l1 x3 l1 2 h2)
              (qz_iconst rfl <|
                qz_goto rfl ca_Reader_inDeclaration_34 <|
                qz_fgt [1, 1, 1] <| jb_Reader_inDeclaration_34 G l0 l1 x3 l1 3 h2)))
def fn_Reader_setResult_44 (h : qz_H) : Option qz_R :=
  some (0, h)
set_option maxRecDepth 20000 in
def fn_Reader_setResult (l0 : Int) (l1 : Int) (h : qz_H) : Option qz_R :=
  qz_ck ((h l0 1 : Int) ≠ 0) <|
  qz_ck ((0 : Int) ≤ qz_max 0 (qz_w ((h l0 5) - 1)) ∧ qz_max 0 (qz_w ((h l0 5) - 1)) < h (h l0 1) (-1)) <|
  qz_bn (h (h l0 1) (qz_max 0 (qz_w ((h l0 5) - 1))) : Int) fun x1 =>
  qz_ck ((x1 : Int) ≠ 0) <|
  if ¬ h x1 0 = 3 then
    qz_bc (fn_Reader_setLatestOperand l0 l1 h) fun _ h3 =>
    fn_Reader_setResult_44 h3
  else
    qz_ck ((h l0 4 : Int) ≠ 0) <|
    qz_bc (fn_Module_latest (h l0 4) h) fun r4 h5 =>
    qz_ck ((r4 : Int) ≠ 0) <|
    qz_ck ((0 : Int) < r4) <|
    qz_bn (qz_up h5 r4 3 l1) fun h6 =>
    fn_Reader_setResult_44 h6
def bk_Reader_setResult_0 : List (Instr × Nat) := [(.aload_n 0, 1), (.getfield 11, 3), (.iconst 0, 1), (.aload_n 0, 1), (.getfield 46, 3), (.iconst 1, 1), (.isub, 1), (.invokestatic 109, 3), (.aaload, 1), (.astore_n 2, 1), (.aload_n 2, 1), (.getfield 83, 3), (.iconst 3, 1), (.if_icmp .ne 17, 3), (.aload_n 0, 1), (.getfield 24, 3), (.invokevirtual 190, 3), (.iload_n 1, 1), (.putfield 208, 3), (.goto 9, 3)]
def bk_Reader_setResult_38 : List (Instr × Nat) := [(.aload_n 0, 1), (.iload_n 1, 1), (.i2l, 1), (.invokevirtual 210, 3)]
def bk_Reader_setResult_44 : List (Instr × Nat) := [(.return_, 1)]
theorem ca_Reader_setResult_0 : qz_ca yd_Reader_setResult.2.1 0 bk_Reader_setResult_0 := qz_cab_ok _ _ (by decide +kernel)
theorem ca_Reader_setResult_38 : qz_ca yd_Reader_setResult.2.1 38 bk_Reader_setResult_38 := qz_cab_ok _ _ (by decide +kernel)
theorem ca_Reader_setResult_44 : qz_ca yd_Reader_setResult.2.1 44 bk_Reader_setResult_44 := qz_cab_ok _ _ (by decide +kernel)
set_option maxRecDepth 20000 in
theorem jb_Reader_setResult_44 (G : qz_G) (h : qz_H) : qz_J yd_Reader_setResult G bk_Reader_setResult_44 44 [qz_u, qz_u, qz_u] [] h 0 0 (fn_Reader_setResult_44 h) := by
  unfold fn_Reader_setResult_44 bk_Reader_setResult_44; exact
    qz_return ⟨rfl, rfl⟩ rfl
set_option maxRecDepth 20000 in
theorem cn_Reader_setResult (l0 : Int) (l1 : Int) (h : qz_H) : qz_C yd_Reader_setResult [qz_r true 9 l0, qz_i l1] h (fn_Reader_setResult l0 l1 h) := by
  refine qz_con (is := bk_Reader_setResult_0) (ls := [qz_r true 9 l0, qz_i l1, qz_u]) mw_Reader_setResult.2.2.2 ca_Reader_setResult_0 rfl rfl rfl fun G => ?_
  unfold fn_Reader_setResult bk_Reader_setResult_0; exact
    qz_aload_n rfl <|
    qz_getR (k1 := 47) kg_9 fl_Reader_11 rfl rfl <|
    qz_iconst rfl <|
    qz_aload_n rfl <|
    qz_getI kg_9 fl_Reader_46 rfl rfl <|
    qz_iconst rfl <|
    qz_isub <|
    qz_mmax ma_Reader_109 rfl <|
    qz_nnd 1 rfl <|
    qz_aald (k0 := 47) (k1 := 5) rfl rfl rfl <|
    qz_astore_n (by decide) fun x1 =>
    qz_aload_n rfl <|
    qz_nnd 0 rfl <|
    qz_getI kg_5 fl_Reader_83 rfl rfl <|
    qz_iconst rfl <|
    qz_icmp_ne rfl ca_Reader_setResult_38
      (qz_aload_n rfl <|
        qz_iload_n rfl <|
        qz_i2l <|
        qz_invvV [qz_j l1] rfl (cn_Reader_setLatestOperand l0 l1 h) mw_Reader_setLatestOperand vw_Reader_setLatestOperand ⟨_, rfl, rfl, by decide⟩ rfl rfl ln_Reader_210 rfl fun _ h3 =>
        qz_fall rfl ca_Reader_setResult_44 <|
        qz_fgt [0, 0, 0] <| jb_Reader_setResult_44 G h3)
      (qz_aload_n rfl <|
        qz_getR (k1 := 6) kg_9 fl_Reader_24 rfl rfl <|
        qz_nnd 0 rfl <|
        qz_invvR [] rfl (cn_Module_latest (h l0 4) h) mw_Module_latest vw_Module_latest ⟨_, rfl, rfl, by decide⟩ rfl rfl ln_Reader_190 rfl fun r4 h5 =>
        qz_iload_n rfl <|
        qz_nnd 1 rfl <|
        qz_putI kw_4 fp_Reader_208_Reader_setResult rfl rfl fun h6 =>
        qz_goto rfl ca_Reader_setResult_44 <|
        qz_fgt [0, 0, 0] <| jb_Reader_setResult_44 G h6)
def fn_Reader_inResult_58 (s0 : Int) (h : qz_H) : Option qz_R :=
  some (s0, h)
def fn_Reader_inResult_57 (h : qz_H) : Option qz_R :=
  fn_Reader_inResult_58 1 h
def fn_Reader_inResult_31 (l0 : Int) (l1 : Int) (h : qz_H) : Option qz_R :=
  qz_ck ((h l0 0 : Int) ≠ 0) <|
  if ¬ h (h l0 0) 1 = 1 then
    fn_Reader_inResult_57 h
  else
    qz_ck ((l1 : Int) ≠ 0) <|
    if ¬ h l1 1 = 3 then
      fn_Reader_inResult_57 h
    else
      qz_bc (fn_Reader_close l0 h) fun r1 h2 =>
      fn_Reader_inResult_58 r1 h2
set_option maxRecDepth 20000 in
def fn_Reader_inResult (l0 : Int) (l1 : Int) (h : qz_H) : Option qz_R :=
  qz_ck ((h l0 0 : Int) ≠ 0) <|
  qz_bc (fn_Scanner_valueType (h l0 0) h) fun r1 h2 =>
  qz_bn (r1 : Int) fun x3 =>
  if x3 = 0 then
    fn_Reader_inResult_31 l0 l1 h2
  else
    qz_ck ((l1 : Int) ≠ 0) <|
    if ¬ h2 l1 1 = 0 then
      fn_Reader_inResult_31 l0 l1 h2
    else
      qz_ck ((l1 : Int) ≠ 0) <|
      qz_ck ((0 : Int) < l1) <|
      qz_bn (qz_up h2 l1 1 3) fun h4 =>
      qz_bc (fn_Reader_setResult l0 x3 h4) fun _ h6 =>
      some (0, h6)
def bk_Reader_inResult_0 : List (Instr × Nat) := [(.aload_n 0, 1), (.getfield 33, 3), (.invokevirtual 174, 3), (.istore_n 2, 1), (.iload_n 2, 1), (.ifCond .eq 22, 3), (.aload_n 1, 1), (.getfield 115, 3), (.ifCond .ne 15, 3), (.aload_n 1, 1), (.iconst 3, 1), (.putfield 115, 3), (.aload_n 0, 1), (.iload_n 2, 1), (.invokevirtual 205, 3), (.iconst 0, 1), (.ireturn, 1)]
def bk_Reader_inResult_31 : List (Instr × Nat) := [(.aload_n 0, 1), (.getfield 33, 3), (.getfield 73, 3), (.iconst 1, 1), (.if_icmp .ne 18, 3), (.aload_n 1, 1), (.getfield 115, 3), (.iconst 3, 1), (.if_icmp .ne 10, 3), (.aload_n 0, 1), (.invokevirtual 121, 3), (.goto 4, 3)]
def bk_Reader_inResult_57 : List (Instr × Nat) := [(.iconst 1, 1)]
def bk_Reader_inResult_58 : List (Instr × Nat) := [(.ireturn, 1)]
theorem ca_Reader_inResult_0 : qz_ca yd_Reader_inResult.2.1 0 bk_Reader_inResult_0 := qz_cab_ok _ _ (by decide +kernel)
theorem ca_Reader_inResult_31 : qz_ca yd_Reader_inResult.2.1 31 bk_Reader_inResult_31 := qz_cab_ok _ _ (by decide +kernel)
theorem ca_Reader_inResult_57 : qz_ca yd_Reader_inResult.2.1 57 bk_Reader_inResult_57 := qz_cab_ok _ _ (by decide +kernel)
theorem ca_Reader_inResult_58 : qz_ca yd_Reader_inResult.2.1 58 bk_Reader_inResult_58 := qz_cab_ok _ _ (by decide +kernel)
set_option maxRecDepth 20000 in
theorem jb_Reader_inResult_58 (G : qz_G) (s0 : Int) (h : qz_H) : qz_J yd_Reader_inResult G bk_Reader_inResult_58 58 [qz_u, qz_u, qz_u] [qz_i s0] h 0 0 (fn_Reader_inResult_58 s0 h) := by
  unfold fn_Reader_inResult_58 bk_Reader_inResult_58; exact
    qz_ireturn ⟨rfl, rfl⟩ rfl
set_option maxRecDepth 20000 in
theorem jb_Reader_inResult_57 (G : qz_G) (h : qz_H) : qz_J yd_Reader_inResult G bk_Reader_inResult_57 57 [qz_u, qz_u, qz_u] [] h 0 0 (fn_Reader_inResult_57 h) := by
  unfold fn_Reader_inResult_57 bk_Reader_inResult_57; exact
    qz_iconst rfl <|
    qz_fall rfl ca_Reader_inResult_58 <|
    qz_fgt [0, 0, 0] <| jb_Reader_inResult_58 G 1 h
set_option maxRecDepth 20000 in
theorem jb_Reader_inResult_31 (G : qz_G) (l0 : Int) (l1 : Int) (h : qz_H) : qz_J yd_Reader_inResult G bk_Reader_inResult_31 31 [qz_r true 9 l0, qz_r false 5 l1, qz_u] [] h 0 0 (fn_Reader_inResult_31 l0 l1 h) := by
  unfold fn_Reader_inResult_31 bk_Reader_inResult_31; exact
    qz_aload_n rfl <|
    qz_getR (k1 := 10) kg_9 fl_Reader_33 rfl rfl <|
    qz_nnd 0 rfl <|
    qz_getI kg_10 fl_Reader_73 rfl rfl <|
    qz_iconst rfl <|
    qz_icmp_ne rfl ca_Reader_inResult_57
      (qz_fgt [0, 0, 0] <| jb_Reader_inResult_57 G h)
      (qz_aload_n rfl <|
        qz_nnd 0 rfl <|
        qz_getI kg_5 fl_Reader_115 rfl rfl <|
        qz_iconst rfl <|
        qz_icmp_ne rfl ca_Reader_inResult_57
          (qz_fgt [0, 0, 0] <| jb_Reader_inResult_57 G h)
          (qz_aload_n rfl <|
            qz_invvI [] rfl (cn_Reader_close l0 h) mw_Reader_close vw_Reader_close ⟨_, rfl, rfl, by decide⟩ rfl rfl ln_Reader_121 rfl fun r1 h2 =>
            qz_goto rfl ca_Reader_inResult_58 <|
            qz_fgt [0, 0, 0] <| jb_Reader_inResult_58 G r1 h2))
set_option maxRecDepth 20000 in
theorem cn_Reader_inResult (l0 : Int) (l1 : Int) (h : qz_H) : qz_C yd_Reader_inResult [qz_r true 9 l0, qz_r false 5 l1] h (fn_Reader_inResult l0 l1 h) := by
  refine qz_con (is := bk_Reader_inResult_0) (ls := [qz_r true 9 l0, qz_r false 5 l1, qz_u]) mw_Reader_inResult.2.2.2 ca_Reader_inResult_0 rfl rfl rfl fun G => ?_
  unfold fn_Reader_inResult bk_Reader_inResult_0; exact
    qz_aload_n rfl <|
    qz_getR (k1 := 10) kg_9 fl_Reader_33 rfl rfl <|
    qz_nnd 0 rfl <|
    qz_invvI [] rfl (cn_Scanner_valueType (h l0 0) h) mw_Scanner_valueType vw_Scanner_valueType ⟨_, rfl, rfl, by decide⟩ rfl rfl ln_Reader_174 rfl fun r1 h2 =>
    qz_istore_n (by decide) fun x3 =>
    qz_iload_n rfl <|
    qz_if_eq rfl ca_Reader_inResult_31
      (qz_fgt [1, 1, 0] <| jb_Reader_inResult_31 G l0 l1 h2)
      (qz_aload_n rfl <|
        qz_nnd 0 rfl <|
        qz_getI kg_5 fl_Reader_115 rfl rfl <|
        qz_if_ne rfl ca_Reader_inResult_31
          (qz_fgt [1, 1, 0] <| jb_Reader_inResult_31 G l0 l1 h2)
          (qz_aload_n rfl <|
            qz_iconst rfl <|
            qz_nnd 1 rfl <|
            qz_putI kw_5 fp_Reader_115_Reader_inResult rfl rfl fun h4 =>
            qz_aload_n rfl <|
            qz_iload_n rfl <|
            qz_invvV [qz_i x3] rfl (cn_Reader_setResult l0 x3 h4) mw_Reader_setResult vw_Reader_setResult ⟨_, rfl, rfl, by decide⟩ rfl rfl ln_Reader_205 rfl fun _ h6 =>
            qz_iconst rfl <|
            qz_ireturn ⟨rfl, rfl⟩ rfl))
