def fn_Md_type_104 (h : qz_H) : Option qz_R :=
  qz_ck ((0 : Int) = 0 ∨ (0 : Int) = 1) (some (0, h))
def fn_Md_type_153 (k110 : Int → Int → Int → qz_H → Option qz_R) (l0 : Int) (l1 : Int) (l5 : Int) (h : qz_H) : Option qz_R :=
  qz_bn (qz_w (l5 + (-8))) fun x1 =>
  k110 l0 l1 x1 h
def fn_Md_type_110_b (k110 : Int → Int → Int → qz_H → Option qz_R) (l0 : Int) (l1 : Int) (l5 : Int) (h : qz_H) : Option qz_R :=
  if l5 < 0 then
    qz_ck ((1 : Int) = 0 ∨ (1 : Int) = 1) (some (1, h))
  else
    qz_bn (qz_and (qz_w (qz_ushJ l1 l5)) 255 : Int) fun x1 =>
    if x1 = 0 then
      fn_Md_type_153 k110 l0 l1 l5 h
    else
      qz_ck ((h l0 6 : Int) ≠ 0) <|
      qz_ck (0 < h l0 6 ∧ (0 : Int) ≤ h l0 5 ∧ h l0 5 < h (h l0 6) (-1)) <|
      qz_bn (qz_up h (h l0 6) (h l0 5) (qz_nc (qz_i2c x1))) fun h2 =>
      qz_ck ((0 : Int) < l0) <|
      qz_bn (qz_up h2 l0 5 (qz_w ((h2 l0 5) + 1))) fun h3 =>
      fn_Md_type_153 k110 l0 l1 l5 h3
def fn_Md_type_110 : Nat → Int → Int → Int → qz_H → Option qz_R
  | 0, _, _, _, _ => none
  | n + 1, l0, l1, l5, h => fn_Md_type_110_b (fn_Md_type_110 n) l0 l1 l5 h
def fn_Md_type_80 (k14 : Int → Int → Int → Int → Int → qz_H → Option qz_R) (l0 : Int) (l1 : Int) (l4 : Int) (l5 : Int) (s0 : Int) (h : qz_H) : Option qz_R :=
  qz_bn (s0 : Int) fun x1 =>
  qz_bn (qz_w (l5 + (-8))) fun x2 =>
  k14 l0 l1 x1 l4 x2 h
def fn_Md_type_66 (k14 : Int → Int → Int → Int → Int → qz_H → Option qz_R) (l0 : Int) (l1 : Int) (l3 : Int) (l5 : Int) (l6 : Int) (s0 : Int) (h : qz_H) : Option qz_R :=
  qz_bn (s0 : Int) fun x1 =>
  if ¬ l6 = 0 then
    fn_Md_type_80 k14 l0 l1 x1 l5 (qz_w (l3 + 1)) h
  else
    fn_Md_type_80 k14 l0 l1 x1 l5 l3 h
def fn_Md_type_65 (k14 : Int → Int → Int → Int → Int → qz_H → Option qz_R) (l0 : Int) (l1 : Int) (l3 : Int) (l5 : Int) (l6 : Int) (h : qz_H) : Option qz_R :=
  fn_Md_type_66 k14 l0 l1 l3 l5 l6 0 h
def fn_Md_type_61 (k14 : Int → Int → Int → Int → Int → qz_H → Option qz_R) (l0 : Int) (l1 : Int) (l3 : Int) (l5 : Int) (l6 : Int) (h : qz_H) : Option qz_R :=
  fn_Md_type_66 k14 l0 l1 l3 l5 l6 1 h
def fn_Md_type_14_b (k14 : Int → Int → Int → Int → Int → qz_H → Option qz_R) (l0 : Int) (l1 : Int) (l3 : Int) (l4 : Int) (l5 : Int) (h : qz_H) : Option qz_R :=
  if l5 < 0 then
    if l4 = 0 then
      fn_Md_type_104 h
    else
      if qz_w ((h l0 5) + l3) ≤ 320 then
        qz_bn (56 : Int) fun x1 =>
        fn_Md_type_110 qz_NF l0 l1 x1 h
      else
        fn_Md_type_104 h
  else
    qz_bn (qz_and (qz_w (qz_ushJ l1 l5)) 255 : Int) fun x2 =>
    if l4 = 0 then
      fn_Md_type_65 k14 l0 l1 l3 l5 x2 h
    else
      if x2 = 0 then
        fn_Md_type_61 k14 l0 l1 l3 l5 x2 h
      else
        if x2 = 10 then
          fn_Md_type_61 k14 l0 l1 l3 l5 x2 h
        else
          if x2 < 32 then
            fn_Md_type_65 k14 l0 l1 l3 l5 x2 h
          else
            if 126 < x2 then
              fn_Md_type_65 k14 l0 l1 l3 l5 x2 h
            else
              fn_Md_type_61 k14 l0 l1 l3 l5 x2 h
def fn_Md_type_14 : Nat → Int → Int → Int → Int → Int → qz_H → Option qz_R
  | 0, _, _, _, _, _, _ => none
  | n + 1, l0, l1, l3, l4, l5, h => fn_Md_type_14_b (fn_Md_type_14 n) l0 l1 l3 l4 l5 h
set_option maxRecDepth 20000 in
def fn_Md_type (l0 : Int) (l1 : Int) (h : qz_H) : Option qz_R :=
  qz_ck ((0 : Int) < l0) <|
  qz_bn (qz_up h l0 3 0) fun h1 =>
  qz_bn (0 : Int) fun x2 =>
  qz_bn (1 : Int) fun x3 =>
  qz_bn (56 : Int) fun x4 =>
  fn_Md_type_14 qz_NF l0 l1 x2 x3 x4 h1
def bk_Md_type_0 : List (Instr × Nat) := [(.aload_n 0, 1), (.iconst 0, 1), (.putfield 206, 3), (.iconst 0, 1), (.istore_n 3, 1), (.iconst 1, 1), (.istore 4, 2), (.bipush 56, 2), (.istore 5, 2)]
def bk_Md_type_14 : List (Instr × Nat) := [(.iload 5, 2), (.ifCond .lt 71, 3), (.lload_n 1, 1), (.iload 5, 2), (.lushr, 1), (.l2i, 1), (.sipush 255, 3), (.iand, 1), (.istore 6, 2), (.iload 4, 2), (.ifCond .eq 33, 3), (.iload 6, 2), (.ifCond .eq 24, 3), (.iload 6, 2), (.bipush 10, 2), (.if_icmp .eq 17, 3), (.iload 6, 2), (.bipush 32, 2), (.if_icmp .lt 14, 3), (.iload 6, 2), (.bipush 126, 2), (.if_icmp .gt 7, 3)]
def bk_Md_type_87 : List (Instr × Nat) := [(.iload 4, 2), (.ifCond .eq 15, 3), (.aload_n 0, 1), (.getfield 210, 3), (.iload_n 3, 1), (.iadd, 1), (.sipush 320, 3), (.if_icmp .le 5, 3)]
def bk_Md_type_104 : List (Instr × Nat) := [(.iconst 0, 1), (.ireturn, 1)]
def bk_Md_type_106 : List (Instr × Nat) := [(.bipush 56, 2), (.istore 5, 2)]
def bk_Md_type_110 : List (Instr × Nat) := [(.iload 5, 2), (.ifCond .lt 47, 3), (.lload_n 1, 1), (.iload 5, 2), (.lushr, 1), (.l2i, 1), (.sipush 255, 3), (.iand, 1), (.istore 6, 2), (.iload 6, 2), (.ifCond .eq 25, 3), (.aload_n 0, 1), (.getfield 90, 3), (.aload_n 0, 1), (.getfield 210, 3), (.iload 6, 2), (.i2c, 1), (.castore, 1), (.aload_n 0, 1), (.dup, 1), (.getfield 210, 3), (.iconst 1, 1), (.iadd, 1), (.putfield 210, 3)]
def bk_Md_type_65 : List (Instr × Nat) := [(.iconst 0, 1)]
def bk_Md_type_61 : List (Instr × Nat) := [(.iconst 1, 1), (.goto 4, 3)]
def bk_Md_type_159 : List (Instr × Nat) := [(.iconst 1, 1), (.ireturn, 1)]
def bk_Md_type_153 : List (Instr × Nat) := [(.iinc 5 (-8), 3), (.goto (-46), 3)]
def bk_Md_type_66 : List (Instr × Nat) := [(.istore 4, 2), (.iload 6, 2), (.ifCond .ne 7, 3), (.iload_n 3, 1), (.goto 6, 3)]
def bk_Md_type_77 : List (Instr × Nat) := [(.iload_n 3, 1), (.iconst 1, 1), (.iadd, 1)]
def bk_Md_type_80 : List (Instr × Nat) := [(.istore_n 3, 1), (.iinc 5 (-8), 3), (.goto (-70), 3)]
theorem ca_Md_type_0 : qz_ca yd_Md_type.2.1 0 bk_Md_type_0 := qz_cab_ok _ _ (by decide +kernel)
theorem ca_Md_type_14 : qz_ca yd_Md_type.2.1 14 bk_Md_type_14 := qz_cab_ok _ _ (by decide +kernel)
theorem ca_Md_type_87 : qz_ca yd_Md_type.2.1 87 bk_Md_type_87 := qz_cab_ok _ _ (by decide +kernel)
theorem ca_Md_type_104 : qz_ca yd_Md_type.2.1 104 bk_Md_type_104 := qz_cab_ok _ _ (by decide +kernel)
theorem ca_Md_type_106 : qz_ca yd_Md_type.2.1 106 bk_Md_type_106 := qz_cab_ok _ _ (by decide +kernel)
theorem ca_Md_type_110 : qz_ca yd_Md_type.2.1 110 bk_Md_type_110 := qz_cab_ok _ _ (by decide +kernel)
theorem ca_Md_type_65 : qz_ca yd_Md_type.2.1 65 bk_Md_type_65 := qz_cab_ok _ _ (by decide +kernel)
theorem ca_Md_type_61 : qz_ca yd_Md_type.2.1 61 bk_Md_type_61 := qz_cab_ok _ _ (by decide +kernel)
theorem ca_Md_type_159 : qz_ca yd_Md_type.2.1 159 bk_Md_type_159 := qz_cab_ok _ _ (by decide +kernel)
theorem ca_Md_type_153 : qz_ca yd_Md_type.2.1 153 bk_Md_type_153 := qz_cab_ok _ _ (by decide +kernel)
theorem ca_Md_type_66 : qz_ca yd_Md_type.2.1 66 bk_Md_type_66 := qz_cab_ok _ _ (by decide +kernel)
theorem ca_Md_type_77 : qz_ca yd_Md_type.2.1 77 bk_Md_type_77 := qz_cab_ok _ _ (by decide +kernel)
theorem ca_Md_type_80 : qz_ca yd_Md_type.2.1 80 bk_Md_type_80 := qz_cab_ok _ _ (by decide +kernel)
set_option maxRecDepth 20000 in
theorem jb_Md_type_104 (G : qz_G) (h : qz_H) : qz_J yd_Md_type G bk_Md_type_104 104 [qz_u, qz_u, qz_u, qz_u, qz_u, qz_u, qz_u] [] h 0 0 (fn_Md_type_104 h) := by
  unfold fn_Md_type_104 bk_Md_type_104; exact
    qz_iconst rfl <|
    qz_zreturn ⟨rfl, rfl⟩ rfl
set_option maxRecDepth 20000 in
theorem jb_Md_type_153 (G : qz_G) (k110 : Int → Int → Int → qz_H → Option qz_R) (jk110 : ∀ (l0 : Int) (l1 : Int) (l5 : Int) (h : qz_H), qz_J yd_Md_type G bk_Md_type_110 110 [qz_r true 12 l0, qz_j l1, qz_u, qz_u, qz_u, qz_i l5, qz_u] [] h 0 0 (k110 l0 l1 l5 h)) (l0 : Int) (l1 : Int) (l5 : Int) (h : qz_H) : qz_J yd_Md_type G bk_Md_type_153 153 [qz_r true 12 l0, qz_j l1, qz_u, qz_u, qz_u, qz_i l5, qz_u] [] h 0 0 (fn_Md_type_153 k110 l0 l1 l5 h) := by
  unfold fn_Md_type_153 bk_Md_type_153; exact
    qz_iinc rfl (by decide) fun x1 =>
    qz_goto rfl ca_Md_type_110 <|
    qz_fgt [1, 1, 0, 0, 0, 1, 0] <| jk110 l0 l1 x1 h
set_option maxRecDepth 20000 in
theorem jb_Md_type_110_b (G : qz_G) (k110 : Int → Int → Int → qz_H → Option qz_R) (jk110 : ∀ (l0 : Int) (l1 : Int) (l5 : Int) (h : qz_H), qz_J yd_Md_type G bk_Md_type_110 110 [qz_r true 12 l0, qz_j l1, qz_u, qz_u, qz_u, qz_i l5, qz_u] [] h 0 0 (k110 l0 l1 l5 h)) (l0 : Int) (l1 : Int) (l5 : Int) (h : qz_H) : qz_J yd_Md_type G bk_Md_type_110 110 [qz_r true 12 l0, qz_j l1, qz_u, qz_u, qz_u, qz_i l5, qz_u] [] h 0 0 (fn_Md_type_110_b k110 l0 l1 l5 h) := by
  unfold fn_Md_type_110_b bk_Md_type_110; exact
    qz_iload rfl <|
    qz_if_lt rfl ca_Md_type_159
      (qz_iconst rfl <|
        qz_zreturn ⟨rfl, rfl⟩ rfl)
      (qz_lload_n rfl <|
        qz_iload rfl <|
        qz_lushr <|
        qz_l2i <|
        qz_sipush rfl <|
        qz_iand <|
        qz_istore (by decide) fun x1 =>
        qz_iload rfl <|
        qz_if_eq rfl ca_Md_type_153
          (qz_fgt [1, 1, 0, 0, 0, 1, 0] <| jb_Md_type_153 G k110 jk110 l0 l1 l5 h)
          (qz_aload_n rfl <|
            qz_getR (k1 := 42) kg_12 fl_Md_90 rfl rfl <|
            qz_aload_n rfl <|
            qz_getI kg_12 fl_Md_210 rfl rfl <|
            qz_iload rfl <|
            qz_ins_i2c <|
            qz_nnd 2 rfl <|
            qz_cast rfl rfl rfl fun h2 =>
            qz_aload_n rfl <|
            qz_dup rfl <|
            qz_getI kg_12 fl_Md_210 rfl rfl <|
            qz_iconst rfl <|
            qz_iadd <|
            qz_putI kw_12 fp_Md_210_Md_type rfl rfl fun h3 =>
            qz_fall rfl ca_Md_type_153 <|
            qz_fgt [1, 1, 0, 0, 0, 1, 0] <| jb_Md_type_153 G k110 jk110 l0 l1 l5 h3))
theorem jb_Md_type_110 (G : qz_G) : ∀ (n : Nat) (l0 l1 l5 : Int) (h : qz_H), qz_J yd_Md_type G bk_Md_type_110 110 [qz_r true 12 l0, qz_j l1, qz_u, qz_u, qz_u, qz_i l5, qz_u] [] h 0 0 (fn_Md_type_110 n l0 l1 l5 h)
  | 0, _, _, _, _ => qz_none
  | n + 1, l0, l1, l5, h => jb_Md_type_110_b G (fn_Md_type_110 n) (jb_Md_type_110 G n) l0 l1 l5 h
set_option maxRecDepth 20000 in
theorem jb_Md_type_80 (G : qz_G) (k14 : Int → Int → Int → Int → Int → qz_H → Option qz_R) (jk14 : ∀ (l0 : Int) (l1 : Int) (l3 : Int) (l4 : Int) (l5 : Int) (h : qz_H), qz_J yd_Md_type G bk_Md_type_14 14 [qz_r true 12 l0, qz_j l1, qz_u, qz_i l3, qz_i l4, qz_i l5, qz_u] [] h 0 0 (k14 l0 l1 l3 l4 l5 h)) (l0 : Int) (l1 : Int) (l4 : Int) (l5 : Int) (s0 : Int) (h : qz_H) : qz_J yd_Md_type G bk_Md_type_80 80 [qz_r true 12 l0, qz_j l1, qz_u, qz_u, qz_i l4, qz_i l5, qz_u] [qz_i s0] h 0 0 (fn_Md_type_80 k14 l0 l1 l4 l5 s0 h) := by
  unfold fn_Md_type_80 bk_Md_type_80; exact
    qz_istore_n (by decide) fun x1 =>
    qz_iinc rfl (by decide) fun x2 =>
    qz_goto rfl ca_Md_type_14 <|
    qz_fgt [1, 1, 0, 1, 1, 1, 0] <| jk14 l0 l1 x1 l4 x2 h
set_option maxRecDepth 20000 in
theorem jb_Md_type_66 (G : qz_G) (k14 : Int → Int → Int → Int → Int → qz_H → Option qz_R) (jk14 : ∀ (l0 : Int) (l1 : Int) (l3 : Int) (l4 : Int) (l5 : Int) (h : qz_H), qz_J yd_Md_type G bk_Md_type_14 14 [qz_r true 12 l0, qz_j l1, qz_u, qz_i l3, qz_i l4, qz_i l5, qz_u] [] h 0 0 (k14 l0 l1 l3 l4 l5 h)) (l0 : Int) (l1 : Int) (l3 : Int) (l5 : Int) (l6 : Int) (s0 : Int) (h : qz_H) : qz_J yd_Md_type G bk_Md_type_66 66 [qz_r true 12 l0, qz_j l1, qz_u, qz_i l3, qz_u, qz_i l5, qz_i l6] [qz_i s0] h 0 0 (fn_Md_type_66 k14 l0 l1 l3 l5 l6 s0 h) := by
  unfold fn_Md_type_66 bk_Md_type_66; exact
    qz_istore (by decide) fun x1 =>
    qz_iload rfl <|
    qz_if_ne rfl ca_Md_type_77
      (qz_iload_n rfl <|
        qz_iconst rfl <|
        qz_iadd <|
        qz_fall rfl ca_Md_type_80 <|
        qz_fgt [1, 1, 0, 0, 1, 1, 0] <| jb_Md_type_80 G k14 jk14 l0 l1 x1 l5 (qz_w (l3 + 1)) h)
      (qz_iload_n rfl <|
        qz_goto rfl ca_Md_type_80 <|
        qz_fgt [1, 1, 0, 0, 1, 1, 0] <| jb_Md_type_80 G k14 jk14 l0 l1 x1 l5 l3 h)
set_option maxRecDepth 20000 in
theorem jb_Md_type_65 (G : qz_G) (k14 : Int → Int → Int → Int → Int → qz_H → Option qz_R) (jk14 : ∀ (l0 : Int) (l1 : Int) (l3 : Int) (l4 : Int) (l5 : Int) (h : qz_H), qz_J yd_Md_type G bk_Md_type_14 14 [qz_r true 12 l0, qz_j l1, qz_u, qz_i l3, qz_i l4, qz_i l5, qz_u] [] h 0 0 (k14 l0 l1 l3 l4 l5 h)) (l0 : Int) (l1 : Int) (l3 : Int) (l5 : Int) (l6 : Int) (h : qz_H) : qz_J yd_Md_type G bk_Md_type_65 65 [qz_r true 12 l0, qz_j l1, qz_u, qz_i l3, qz_u, qz_i l5, qz_i l6] [] h 0 0 (fn_Md_type_65 k14 l0 l1 l3 l5 l6 h) := by
  unfold fn_Md_type_65 bk_Md_type_65; exact
    qz_iconst rfl <|
    qz_fall rfl ca_Md_type_66 <|
    qz_fgt [1, 1, 0, 1, 0, 1, 1] <| jb_Md_type_66 G k14 jk14 l0 l1 l3 l5 l6 0 h
set_option maxRecDepth 20000 in
theorem jb_Md_type_61 (G : qz_G) (k14 : Int → Int → Int → Int → Int → qz_H → Option qz_R) (jk14 : ∀ (l0 : Int) (l1 : Int) (l3 : Int) (l4 : Int) (l5 : Int) (h : qz_H), qz_J yd_Md_type G bk_Md_type_14 14 [qz_r true 12 l0, qz_j l1, qz_u, qz_i l3, qz_i l4, qz_i l5, qz_u] [] h 0 0 (k14 l0 l1 l3 l4 l5 h)) (l0 : Int) (l1 : Int) (l3 : Int) (l5 : Int) (l6 : Int) (h : qz_H) : qz_J yd_Md_type G bk_Md_type_61 61 [qz_r true 12 l0, qz_j l1, qz_u, qz_i l3, qz_u, qz_i l5, qz_i l6] [] h 0 0 (fn_Md_type_61 k14 l0 l1 l3 l5 l6 h) := by
  unfold fn_Md_type_61 bk_Md_type_61; exact
    qz_iconst rfl <|
    qz_goto rfl ca_Md_type_66 <|
    qz_fgt [1, 1, 0, 1, 0, 1, 1] <| jb_Md_type_66 G k14 jk14 l0 l1 l3 l5 l6 1 h
set_option maxRecDepth 20000 in
theorem jb_Md_type_14_b (G : qz_G) (k14 : Int → Int → Int → Int → Int → qz_H → Option qz_R) (jk14 : ∀ (l0 : Int) (l1 : Int) (l3 : Int) (l4 : Int) (l5 : Int) (h : qz_H), qz_J yd_Md_type G bk_Md_type_14 14 [qz_r true 12 l0, qz_j l1, qz_u, qz_i l3, qz_i l4, qz_i l5, qz_u] [] h 0 0 (k14 l0 l1 l3 l4 l5 h)) (l0 : Int) (l1 : Int) (l3 : Int) (l4 : Int) (l5 : Int) (h : qz_H) : qz_J yd_Md_type G bk_Md_type_14 14 [qz_r true 12 l0, qz_j l1, qz_u, qz_i l3, qz_i l4, qz_i l5, qz_u] [] h 0 0 (fn_Md_type_14_b k14 l0 l1 l3 l4 l5 h) := by
  unfold fn_Md_type_14_b bk_Md_type_14; exact
    qz_iload rfl <|
    qz_if_lt rfl ca_Md_type_87
      (qz_iload rfl <|
        qz_if_eq rfl ca_Md_type_104
          (qz_fgt [0, 0, 0, 0, 0, 0, 0] <| jb_Md_type_104 G h)
          (qz_aload_n rfl <|
            qz_getI kg_12 fl_Md_210 rfl rfl <|
            qz_iload_n rfl <|
            qz_iadd <|
            qz_sipush rfl <|
            qz_icmp_le rfl ca_Md_type_106
              (qz_bipush rfl <|
                qz_istore (by decide) fun x1 =>
                qz_fall rfl ca_Md_type_110 <|
                qz_fgt [1, 1, 0, 0, 0, 1, 0] <| jb_Md_type_110 G qz_NF l0 l1 x1 h)
              (qz_fall rfl ca_Md_type_104 <|
                qz_fgt [0, 0, 0, 0, 0, 0, 0] <| jb_Md_type_104 G h)))
      (qz_lload_n rfl <|
        qz_iload rfl <|
        qz_lushr <|
        qz_l2i <|
        qz_sipush rfl <|
        qz_iand <|
        qz_istore (by decide) fun x2 =>
        qz_iload rfl <|
        qz_if_eq rfl ca_Md_type_65
          (qz_fgt [1, 1, 0, 1, 0, 1, 1] <| jb_Md_type_65 G k14 jk14 l0 l1 l3 l5 x2 h)
          (qz_iload rfl <|
            qz_if_eq rfl ca_Md_type_61
              (qz_fgt [1, 1, 0, 1, 0, 1, 1] <| jb_Md_type_61 G k14 jk14 l0 l1 l3 l5 x2 h)
              (qz_iload rfl <|
                qz_bipush rfl <|
                qz_icmp_eq rfl ca_Md_type_61
                  (qz_fgt [1, 1, 0, 1, 0, 1, 1] <| jb_Md_type_61 G k14 jk14 l0 l1 l3 l5 x2 h)
                  (qz_iload rfl <|
                    qz_bipush rfl <|
                    qz_icmp_lt rfl ca_Md_type_65
                      (qz_fgt [1, 1, 0, 1, 0, 1, 1] <| jb_Md_type_65 G k14 jk14 l0 l1 l3 l5 x2 h)
                      (qz_iload rfl <|
                        qz_bipush rfl <|
                        qz_icmp_gt rfl ca_Md_type_65
                          (qz_fgt [1, 1, 0, 1, 0, 1, 1] <| jb_Md_type_65 G k14 jk14 l0 l1 l3 l5 x2 h)
                          (qz_fall rfl ca_Md_type_61 <|
                            qz_fgt [1, 1, 0, 1, 0, 1, 1] <| jb_Md_type_61 G k14 jk14 l0 l1 l3 l5 x2 h))))))
theorem jb_Md_type_14 (G : qz_G) : ∀ (n : Nat) (l0 l1 l3 l4 l5 : Int) (h : qz_H), qz_J yd_Md_type G bk_Md_type_14 14 [qz_r true 12 l0, qz_j l1, qz_u, qz_i l3, qz_i l4, qz_i l5, qz_u] [] h 0 0 (fn_Md_type_14 n l0 l1 l3 l4 l5 h)
  | 0, _, _, _, _, _, _ => qz_none
  | n + 1, l0, l1, l3, l4, l5, h => jb_Md_type_14_b G (fn_Md_type_14 n) (jb_Md_type_14 G n) l0 l1 l3 l4 l5 h
set_option maxRecDepth 20000 in
theorem cn_Md_type (l0 : Int) (l1 : Int) (h : qz_H) : qz_C yd_Md_type [qz_r true 12 l0, qz_j l1] h (fn_Md_type l0 l1 h) := by
  refine qz_con (is := bk_Md_type_0) (ls := [qz_r true 12 l0, qz_j l1, qz_u, qz_u, qz_u, qz_u, qz_u]) mw_Md_type.2.2.2 ca_Md_type_0 rfl rfl rfl fun G => ?_
  unfold fn_Md_type bk_Md_type_0; exact
    qz_aload_n rfl <|
    qz_iconst rfl <|
    qz_putI kw_12 fp_Md_206_Md_type rfl rfl fun h1 =>
    qz_iconst rfl <|
    qz_istore_n (by decide) fun x2 =>
    qz_iconst rfl <|
    qz_istore (by decide) fun x3 =>
    qz_bipush rfl <|
    qz_istore (by decide) fun x4 =>
    qz_fall rfl ca_Md_type_14 <|
    qz_fgt [1, 1, 0, 1, 1, 1, 0] <| jb_Md_type_14 G qz_NF l0 l1 x2 x3 x4 h1
set_option maxRecDepth 20000 in
def fn_Md_wipe (l0 : Int) (h : qz_H) : Option qz_R :=
  qz_ck ((0 : Int) < l0) <|
  qz_bn (qz_up h l0 3 0) fun h1 =>
  qz_ck ((0 : Int) < l0) <|
  qz_bn (qz_up h1 l0 5 0) fun h2 =>
  some (0, h2)
def bk_Md_wipe_0 : List (Instr × Nat) := [(.aload_n 0, 1), (.iconst 0, 1), (.putfield 206, 3), (.aload_n 0, 1), (.iconst 0, 1), (.putfield 210, 3), (.return_, 1)]
theorem ca_Md_wipe_0 : qz_ca yd_Md_wipe.2.1 0 bk_Md_wipe_0 := qz_cab_ok _ _ (by decide +kernel)
set_option maxRecDepth 20000 in
theorem cn_Md_wipe (l0 : Int) (h : qz_H) : qz_C yd_Md_wipe [qz_r true 12 l0] h (fn_Md_wipe l0 h) := by
  refine qz_con (is := bk_Md_wipe_0) (ls := [qz_r true 12 l0]) mw_Md_wipe.2.2.2 ca_Md_wipe_0 rfl rfl rfl fun G => ?_
  unfold fn_Md_wipe bk_Md_wipe_0; exact
    qz_aload_n rfl <|
    qz_iconst rfl <|
    qz_putI kw_12 fp_Md_206_Md_wipe rfl rfl fun h1 =>
    qz_aload_n rfl <|
    qz_iconst rfl <|
    qz_putI kw_12 fp_Md_210_Md_wipe rfl rfl fun h2 =>
    qz_return ⟨rfl, rfl⟩ rfl
def fn_Md_character_27 (s0 : Int) (h : qz_H) : Option qz_R :=
  qz_ck ((0 : Int) ≤ s0 ∧ (s0 : Int) ≤ 65535) (some (s0, h))
def fn_Md_character_26 (h : qz_H) : Option qz_R :=
  fn_Md_character_27 0 h
set_option maxRecDepth 20000 in
def fn_Md_character (l0 : Int) (l1 : Int) (h : qz_H) : Option qz_R :=
  qz_ck ((0 : Int) < l0) <|
  qz_bn (qz_up h l0 3 0) fun h1 =>
  if l1 < 0 then
    fn_Md_character_26 h1
  else
    if h1 l0 5 ≤ l1 then
      fn_Md_character_26 h1
    else
      qz_ck ((h1 l0 6 : Int) ≠ 0) <|
      qz_ck ((0 : Int) ≤ l1 ∧ l1 < h1 (h1 l0 6) (-1)) <|
      fn_Md_character_27 (h1 (h1 l0 6) l1) h1
def bk_Md_character_0 : List (Instr × Nat) := [(.aload_n 0, 1), (.iconst 0, 1), (.putfield 206, 3), (.iload_n 1, 1), (.ifCond .lt 20, 3), (.iload_n 1, 1), (.aload_n 0, 1), (.getfield 210, 3), (.if_icmp .ge 12, 3), (.aload_n 0, 1), (.getfield 90, 3), (.iload_n 1, 1), (.caload, 1), (.goto 4, 3)]
def bk_Md_character_26 : List (Instr × Nat) := [(.iconst 0, 1)]
def bk_Md_character_27 : List (Instr × Nat) := [(.ireturn, 1)]
theorem ca_Md_character_0 : qz_ca yd_Md_character.2.1 0 bk_Md_character_0 := qz_cab_ok _ _ (by decide +kernel)
theorem ca_Md_character_26 : qz_ca yd_Md_character.2.1 26 bk_Md_character_26 := qz_cab_ok _ _ (by decide +kernel)
theorem ca_Md_character_27 : qz_ca yd_Md_character.2.1 27 bk_Md_character_27 := qz_cab_ok _ _ (by decide +kernel)
set_option maxRecDepth 20000 in
theorem jb_Md_character_27 (G : qz_G) (s0 : Int) (h : qz_H) : qz_J yd_Md_character G bk_Md_character_27 27 [qz_u, qz_u] [qz_i s0] h 0 0 (fn_Md_character_27 s0 h) := by
  unfold fn_Md_character_27 bk_Md_character_27; exact
    qz_creturn ⟨rfl, rfl⟩ rfl
set_option maxRecDepth 20000 in
theorem jb_Md_character_26 (G : qz_G) (h : qz_H) : qz_J yd_Md_character G bk_Md_character_26 26 [qz_u, qz_u] [] h 0 0 (fn_Md_character_26 h) := by
  unfold fn_Md_character_26 bk_Md_character_26; exact
    qz_iconst rfl <|
    qz_fall rfl ca_Md_character_27 <|
    qz_fgt [0, 0] <| jb_Md_character_27 G 0 h
set_option maxRecDepth 20000 in
theorem cn_Md_character (l0 : Int) (l1 : Int) (h : qz_H) : qz_C yd_Md_character [qz_r true 12 l0, qz_i l1] h (fn_Md_character l0 l1 h) := by
  refine qz_con (is := bk_Md_character_0) (ls := [qz_r true 12 l0, qz_i l1]) mw_Md_character.2.2.2 ca_Md_character_0 rfl rfl rfl fun G => ?_
  unfold fn_Md_character bk_Md_character_0; exact
    qz_aload_n rfl <|
    qz_iconst rfl <|
    qz_putI kw_12 fp_Md_206_Md_character rfl rfl fun h1 =>
    qz_iload_n rfl <|
    qz_if_lt rfl ca_Md_character_26
      (qz_fgt [0, 0] <| jb_Md_character_26 G h1)
      (qz_iload_n rfl <|
        qz_aload_n rfl <|
        qz_getI kg_12 fl_Md_210 rfl rfl <|
        qz_icmp_ge rfl ca_Md_character_26
          (qz_fgt [0, 0] <| jb_Md_character_26 G h1)
          (qz_aload_n rfl <|
            qz_getR (k1 := 42) kg_12 fl_Md_90 rfl rfl <|
            qz_iload_n rfl <|
            qz_nnd 1 rfl <|
            qz_cald (k0 := 42) rfl rfl rfl <|
            qz_goto rfl ca_Md_character_27 <|
            qz_fgt [0, 0] <| jb_Md_character_27 G (h1 (h1 l0 6) l1) h1))
def fn_Md_ch_18 (s0 : Int) (h : qz_H) : Option qz_R :=
  some (s0, h)
set_option maxRecDepth 20000 in
def fn_Md_ch (l0 : Int) (l1 : Int) (h : qz_H) : Option qz_R :=
  if h l0 5 ≤ l1 then
    fn_Md_ch_18 0 h
  else
    qz_ck ((h l0 6 : Int) ≠ 0) <|
    qz_ck ((0 : Int) ≤ l1 ∧ l1 < h (h l0 6) (-1)) <|
    fn_Md_ch_18 (h (h l0 6) l1) h
def bk_Md_ch_0 : List (Instr × Nat) := [(.iload_n 1, 1), (.aload_n 0, 1), (.getfield 210, 3), (.if_icmp .ge 12, 3), (.aload_n 0, 1), (.getfield 90, 3), (.iload_n 1, 1), (.caload, 1), (.goto 4, 3)]
def bk_Md_ch_17 : List (Instr × Nat) := [(.iconst 0, 1)]
def bk_Md_ch_18 : List (Instr × Nat) := [(.ireturn, 1)]
theorem ca_Md_ch_0 : qz_ca yd_Md_ch.2.1 0 bk_Md_ch_0 := qz_cab_ok _ _ (by decide +kernel)
theorem ca_Md_ch_17 : qz_ca yd_Md_ch.2.1 17 bk_Md_ch_17 := qz_cab_ok _ _ (by decide +kernel)
theorem ca_Md_ch_18 : qz_ca yd_Md_ch.2.1 18 bk_Md_ch_18 := qz_cab_ok _ _ (by decide +kernel)
set_option maxRecDepth 20000 in
theorem jb_Md_ch_18 (G : qz_G) (s0 : Int) (h : qz_H) : qz_J yd_Md_ch G bk_Md_ch_18 18 [qz_u, qz_u] [qz_i s0] h 0 0 (fn_Md_ch_18 s0 h) := by
  unfold fn_Md_ch_18 bk_Md_ch_18; exact
    qz_ireturn ⟨rfl, rfl⟩ rfl
set_option maxRecDepth 20000 in
theorem cn_Md_ch (l0 : Int) (l1 : Int) (h : qz_H) : qz_C yd_Md_ch [qz_r true 12 l0, qz_i l1] h (fn_Md_ch l0 l1 h) := by
  refine qz_con (is := bk_Md_ch_0) (ls := [qz_r true 12 l0, qz_i l1]) mw_Md_ch.2.2.2 ca_Md_ch_0 rfl rfl rfl fun G => ?_
  unfold fn_Md_ch bk_Md_ch_0; exact
    qz_iload_n rfl <|
    qz_aload_n rfl <|
    qz_getI kg_12 fl_Md_210 rfl rfl <|
    qz_icmp_ge rfl ca_Md_ch_17
      (qz_iconst rfl <|
        qz_fall rfl ca_Md_ch_18 <|
        qz_fgt [0, 0] <| jb_Md_ch_18 G 0 h)
      (qz_aload_n rfl <|
        qz_getR (k1 := 42) kg_12 fl_Md_90 rfl rfl <|
        qz_iload_n rfl <|
        qz_nnd 1 rfl <|
        qz_cald (k0 := 42) rfl rfl rfl <|
        qz_goto rfl ca_Md_ch_18 <|
        qz_fgt [0, 0] <| jb_Md_ch_18 G (h (h l0 6) l1) h)
def fn_Md_isDigit_17 (s0 : Int) (h : qz_H) : Option qz_R :=
  qz_ck ((s0 : Int) = 0 ∨ (s0 : Int) = 1) (some (s0, h))
def fn_Md_isDigit_16 (h : qz_H) : Option qz_R :=
  fn_Md_isDigit_17 0 h
set_option maxRecDepth 20000 in
def fn_Md_isDigit (l0 : Int) (h : qz_H) : Option qz_R :=
  if l0 < 48 then
    fn_Md_isDigit_16 h
  else
    if 57 < l0 then
      fn_Md_isDigit_16 h
    else
      fn_Md_isDigit_17 1 h
def bk_Md_isDigit_0 : List (Instr × Nat) := [(.iload_n 0, 1), (.bipush 48, 2), (.if_icmp .lt 13, 3), (.iload_n 0, 1), (.bipush 57, 2), (.if_icmp .gt 7, 3), (.iconst 1, 1), (.goto 4, 3)]
def bk_Md_isDigit_16 : List (Instr × Nat) := [(.iconst 0, 1)]
def bk_Md_isDigit_17 : List (Instr × Nat) := [(.ireturn, 1)]
theorem ca_Md_isDigit_0 : qz_ca yd_Md_isDigit.2.1 0 bk_Md_isDigit_0 := qz_cab_ok _ _ (by decide +kernel)
theorem ca_Md_isDigit_16 : qz_ca yd_Md_isDigit.2.1 16 bk_Md_isDigit_16 := qz_cab_ok _ _ (by decide +kernel)
theorem ca_Md_isDigit_17 : qz_ca yd_Md_isDigit.2.1 17 bk_Md_isDigit_17 := qz_cab_ok _ _ (by decide +kernel)
set_option maxRecDepth 20000 in
theorem jb_Md_isDigit_17 (G : qz_G) (s0 : Int) (h : qz_H) : qz_J yd_Md_isDigit G bk_Md_isDigit_17 17 [qz_u] [qz_i s0] h 0 0 (fn_Md_isDigit_17 s0 h) := by
  unfold fn_Md_isDigit_17 bk_Md_isDigit_17; exact
    qz_zreturn ⟨rfl, rfl⟩ rfl
set_option maxRecDepth 20000 in
theorem jb_Md_isDigit_16 (G : qz_G) (h : qz_H) : qz_J yd_Md_isDigit G bk_Md_isDigit_16 16 [qz_u] [] h 0 0 (fn_Md_isDigit_16 h) := by
  unfold fn_Md_isDigit_16 bk_Md_isDigit_16; exact
    qz_iconst rfl <|
    qz_fall rfl ca_Md_isDigit_17 <|
    qz_fgt [0] <| jb_Md_isDigit_17 G 0 h
set_option maxRecDepth 20000 in
theorem cn_Md_isDigit (l0 : Int) (h : qz_H) : qz_C yd_Md_isDigit [qz_i l0] h (fn_Md_isDigit l0 h) := by
  refine qz_con (is := bk_Md_isDigit_0) (ls := [qz_i l0]) mw_Md_isDigit.2.2.2 ca_Md_isDigit_0 rfl rfl rfl fun G => ?_
  unfold fn_Md_isDigit bk_Md_isDigit_0; exact
    qz_iload_n rfl <|
    qz_bipush rfl <|
    qz_icmp_lt rfl ca_Md_isDigit_16
      (qz_fgt [0] <| jb_Md_isDigit_16 G h)
      (qz_iload_n rfl <|
        qz_bipush rfl <|
        qz_icmp_gt rfl ca_Md_isDigit_16
          (qz_fgt [0] <| jb_Md_isDigit_16 G h)
          (qz_iconst rfl <|
            qz_goto rfl ca_Md_isDigit_17 <|
            qz_fgt [0] <| jb_Md_isDigit_17 G 1 h))
def fn_Md_isSign_156 (s0 : Int) (h : qz_H) : Option qz_R :=
  qz_ck ((s0 : Int) = 0 ∨ (s0 : Int) = 1) (some (s0, h))
def fn_Md_isSign_151 (h : qz_H) : Option qz_R :=
  fn_Md_isSign_156 1 h
def fn_Md_isSign_138 (l1 : Int) (l2 : Int) (s0 : Int) (h : qz_H) : Option qz_R :=
  qz_bn (s0 : Int) fun x1 =>
  if ¬ l1 = 0 then
    fn_Md_isSign_151 h
  else
    if ¬ l2 = 0 then
      fn_Md_isSign_151 h
    else
      if x1 = 0 then
        fn_Md_isSign_156 0 h
      else
        fn_Md_isSign_151 h
def fn_Md_isSign_133 (l1 : Int) (l2 : Int) (h : qz_H) : Option qz_R :=
  fn_Md_isSign_138 l1 l2 1 h
def fn_Md_isSign_121 (l0 : Int) (l1 : Int) (l2 : Int) (h : qz_H) : Option qz_R :=
  if l0 = 124 then
    fn_Md_isSign_133 l1 l2 h
  else
    if ¬ l0 = 126 then
      fn_Md_isSign_138 l1 l2 0 h
    else
      fn_Md_isSign_133 l1 l2 h
def fn_Md_isSign_103 (l0 : Int) (l1 : Int) (l2 : Int) (h : qz_H) : Option qz_R :=
  if l0 = 92 then
    fn_Md_isSign_133 l1 l2 h
  else
    if l0 < 94 then
      fn_Md_isSign_121 l0 l1 l2 h
    else
      if l0 ≤ 96 then
        fn_Md_isSign_133 l1 l2 h
      else
        fn_Md_isSign_121 l0 l1 l2 h
def fn_Md_isSign_84 (l0 : Int) (l1 : Int) (s0 : Int) (h : qz_H) : Option qz_R :=
  qz_bn (s0 : Int) fun x1 =>
  if l0 = 58 then
    fn_Md_isSign_133 l1 x1 h
  else
    if l0 < 60 then
      fn_Md_isSign_103 l0 l1 x1 h
    else
      if l0 ≤ 64 then
        fn_Md_isSign_133 l1 x1 h
      else
        fn_Md_isSign_103 l0 l1 x1 h
def fn_Md_isSign_79 (l0 : Int) (l1 : Int) (h : qz_H) : Option qz_R :=
  fn_Md_isSign_84 l0 l1 1 h
def fn_Md_isSign_83 (l0 : Int) (l1 : Int) (h : qz_H) : Option qz_R :=
  fn_Md_isSign_84 l0 l1 0 h
def fn_Md_isSign_55 (l0 : Int) (l1 : Int) (h : qz_H) : Option qz_R :=
  if l0 = 42 then
    fn_Md_isSign_79 l0 l1 h
  else
    if l0 = 43 then
      fn_Md_isSign_79 l0 l1 h
    else
      if l0 < 45 then
        fn_Md_isSign_83 l0 l1 h
      else
        if 47 < l0 then
          fn_Md_isSign_83 l0 l1 h
        else
          fn_Md_isSign_79 l0 l1 h
def fn_Md_isSign_36 (l0 : Int) (s0 : Int) (h : qz_H) : Option qz_R :=
  qz_bn (s0 : Int) fun x1 =>
  if l0 = 33 then
    fn_Md_isSign_79 l0 x1 h
  else
    if l0 < 35 then
      fn_Md_isSign_55 l0 x1 h
    else
      if l0 ≤ 39 then
        fn_Md_isSign_79 l0 x1 h
      else
        fn_Md_isSign_55 l0 x1 h
def fn_Md_isSign_31 (l0 : Int) (h : qz_H) : Option qz_R :=
  fn_Md_isSign_36 l0 1 h
def fn_Md_isSign_24 (l0 : Int) (h : qz_H) : Option qz_R :=
  qz_bc (fn_Md_isDigit l0 h) fun r1 h2 =>
  if r1 = 0 then
    fn_Md_isSign_36 l0 0 h2
  else
    fn_Md_isSign_31 l0 h2
def fn_Md_isSign_12 (l0 : Int) (h : qz_H) : Option qz_R :=
  if l0 < 65 then
    fn_Md_isSign_24 l0 h
  else
    if l0 ≤ 90 then
      fn_Md_isSign_31 l0 h
    else
      fn_Md_isSign_24 l0 h
set_option maxRecDepth 20000 in
def fn_Md_isSign (l0 : Int) (h : qz_H) : Option qz_R :=
  if l0 < 97 then
    fn_Md_isSign_12 l0 h
  else
    if l0 ≤ 122 then
      fn_Md_isSign_31 l0 h
    else
      fn_Md_isSign_12 l0 h
def bk_Md_isSign_0 : List (Instr × Nat) := [(.iload_n 0, 1), (.bipush 97, 2), (.if_icmp .lt 9, 3), (.iload_n 0, 1), (.bipush 122, 2), (.if_icmp .le 22, 3)]
def bk_Md_isSign_12 : List (Instr × Nat) := [(.iload_n 0, 1), (.bipush 65, 2), (.if_icmp .lt 9, 3), (.iload_n 0, 1), (.bipush 90, 2), (.if_icmp .le 10, 3)]
def bk_Md_isSign_31 : List (Instr × Nat) := [(.iconst 1, 1), (.goto 4, 3)]
def bk_Md_isSign_24 : List (Instr × Nat) := [(.iload_n 0, 1), (.invokestatic 213, 3), (.ifCond .eq 7, 3)]
def bk_Md_isSign_36 : List (Instr × Nat) := [(.istore_n 1, 1), (.iload_n 0, 1), (.bipush 33, 2), (.if_icmp .eq 39, 3), (.iload_n 0, 1), (.bipush 35, 2), (.if_icmp .lt 9, 3), (.iload_n 0, 1), (.bipush 39, 2), (.if_icmp .le 27, 3)]
def bk_Md_isSign_35 : List (Instr × Nat) := [(.iconst 0, 1)]
def bk_Md_isSign_79 : List (Instr × Nat) := [(.iconst 1, 1), (.goto 4, 3)]
def bk_Md_isSign_55 : List (Instr × Nat) := [(.iload_n 0, 1), (.bipush 42, 2), (.if_icmp .eq 21, 3), (.iload_n 0, 1), (.bipush 43, 2), (.if_icmp .eq 15, 3), (.iload_n 0, 1), (.bipush 45, 2), (.if_icmp .lt 13, 3), (.iload_n 0, 1), (.bipush 47, 2), (.if_icmp .gt 7, 3)]
def bk_Md_isSign_84 : List (Instr × Nat) := [(.istore_n 2, 1), (.iload_n 0, 1), (.bipush 58, 2), (.if_icmp .eq 45, 3), (.iload_n 0, 1), (.bipush 60, 2), (.if_icmp .lt 9, 3), (.iload_n 0, 1), (.bipush 64, 2), (.if_icmp .le 33, 3)]
def bk_Md_isSign_83 : List (Instr × Nat) := [(.iconst 0, 1)]
def bk_Md_isSign_133 : List (Instr × Nat) := [(.iconst 1, 1), (.goto 4, 3)]
def bk_Md_isSign_103 : List (Instr × Nat) := [(.iload_n 0, 1), (.bipush 92, 2), (.if_icmp .eq 27, 3), (.iload_n 0, 1), (.bipush 94, 2), (.if_icmp .lt 9, 3), (.iload_n 0, 1), (.bipush 96, 2), (.if_icmp .le 15, 3)]
def bk_Md_isSign_138 : List (Instr × Nat) := [(.istore_n 3, 1), (.iload_n 1, 1), (.ifCond .ne 11, 3), (.iload_n 2, 1), (.ifCond .ne 7, 3), (.iload_n 3, 1), (.ifCond .eq 7, 3)]
def bk_Md_isSign_121 : List (Instr × Nat) := [(.iload_n 0, 1), (.bipush 124, 2), (.if_icmp .eq 9, 3), (.iload_n 0, 1), (.bipush 126, 2), (.if_icmp .ne 7, 3)]
def bk_Md_isSign_151 : List (Instr × Nat) := [(.iconst 1, 1), (.goto 4, 3)]
def bk_Md_isSign_155 : List (Instr × Nat) := [(.iconst 0, 1)]
def bk_Md_isSign_156 : List (Instr × Nat) := [(.ireturn, 1)]
def bk_Md_isSign_137 : List (Instr × Nat) := [(.iconst 0, 1)]
theorem ca_Md_isSign_0 : qz_ca yd_Md_isSign.2.1 0 bk_Md_isSign_0 := qz_cab_ok _ _ (by decide +kernel)
theorem ca_Md_isSign_12 : qz_ca yd_Md_isSign.2.1 12 bk_Md_isSign_12 := qz_cab_ok _ _ (by decide +kernel)
theorem ca_Md_isSign_31 : qz_ca yd_Md_isSign.2.1 31 bk_Md_isSign_31 := qz_cab_ok _ _ (by decide +kernel)
theorem ca_Md_isSign_24 : qz_ca yd_Md_isSign.2.1 24 bk_Md_isSign_24 := qz_cab_ok _ _ (by decide +kernel)
theorem ca_Md_isSign_36 : qz_ca yd_Md_isSign.2.1 36 bk_Md_isSign_36 := qz_cab_ok _ _ (by decide +kernel)
theorem ca_Md_isSign_35 : qz_ca yd_Md_isSign.2.1 35 bk_Md_isSign_35 := qz_cab_ok _ _ (by decide +kernel)
theorem ca_Md_isSign_79 : qz_ca yd_Md_isSign.2.1 79 bk_Md_isSign_79 := qz_cab_ok _ _ (by decide +kernel)
theorem ca_Md_isSign_55 : qz_ca yd_Md_isSign.2.1 55 bk_Md_isSign_55 := qz_cab_ok _ _ (by decide +kernel)
theorem ca_Md_isSign_84 : qz_ca yd_Md_isSign.2.1 84 bk_Md_isSign_84 := qz_cab_ok _ _ (by decide +kernel)
theorem ca_Md_isSign_83 : qz_ca yd_Md_isSign.2.1 83 bk_Md_isSign_83 := qz_cab_ok _ _ (by decide +kernel)
theorem ca_Md_isSign_133 : qz_ca yd_Md_isSign.2.1 133 bk_Md_isSign_133 := qz_cab_ok _ _ (by decide +kernel)
theorem ca_Md_isSign_103 : qz_ca yd_Md_isSign.2.1 103 bk_Md_isSign_103 := qz_cab_ok _ _ (by decide +kernel)
theorem ca_Md_isSign_138 : qz_ca yd_Md_isSign.2.1 138 bk_Md_isSign_138 := qz_cab_ok _ _ (by decide +kernel)
theorem ca_Md_isSign_121 : qz_ca yd_Md_isSign.2.1 121 bk_Md_isSign_121 := qz_cab_ok _ _ (by decide +kernel)
theorem ca_Md_isSign_151 : qz_ca yd_Md_isSign.2.1 151 bk_Md_isSign_151 := qz_cab_ok _ _ (by decide +kernel)
theorem ca_Md_isSign_155 : qz_ca yd_Md_isSign.2.1 155 bk_Md_isSign_155 := qz_cab_ok _ _ (by decide +kernel)
theorem ca_Md_isSign_156 : qz_ca yd_Md_isSign.2.1 156 bk_Md_isSign_156 := qz_cab_ok _ _ (by decide +kernel)
theorem ca_Md_isSign_137 : qz_ca yd_Md_isSign.2.1 137 bk_Md_isSign_137 := qz_cab_ok _ _ (by decide +kernel)
set_option maxRecDepth 20000 in
theorem jb_Md_isSign_156 (G : qz_G) (s0 : Int) (h : qz_H) : qz_J yd_Md_isSign G bk_Md_isSign_156 156 [qz_u, qz_u, qz_u, qz_u] [qz_i s0] h 0 0 (fn_Md_isSign_156 s0 h) := by
  unfold fn_Md_isSign_156 bk_Md_isSign_156; exact
    qz_zreturn ⟨rfl, rfl⟩ rfl
set_option maxRecDepth 20000 in
theorem jb_Md_isSign_151 (G : qz_G) (h : qz_H) : qz_J yd_Md_isSign G bk_Md_isSign_151 151 [qz_u, qz_u, qz_u, qz_u] [] h 0 0 (fn_Md_isSign_151 h) := by
  unfold fn_Md_isSign_151 bk_Md_isSign_151; exact
    qz_iconst rfl <|
    qz_goto rfl ca_Md_isSign_156 <|
    qz_fgt [0, 0, 0, 0] <| jb_Md_isSign_156 G 1 h
set_option maxRecDepth 20000 in
theorem jb_Md_isSign_138 (G : qz_G) (l1 : Int) (l2 : Int) (s0 : Int) (h : qz_H) : qz_J yd_Md_isSign G bk_Md_isSign_138 138 [qz_u, qz_i l1, qz_i l2, qz_u] [qz_i s0] h 0 0 (fn_Md_isSign_138 l1 l2 s0 h) := by
  unfold fn_Md_isSign_138 bk_Md_isSign_138; exact
    qz_istore_n (by decide) fun x1 =>
    qz_iload_n rfl <|
    qz_if_ne rfl ca_Md_isSign_151
      (qz_fgt [0, 0, 0, 0] <| jb_Md_isSign_151 G h)
      (qz_iload_n rfl <|
        qz_if_ne rfl ca_Md_isSign_151
          (qz_fgt [0, 0, 0, 0] <| jb_Md_isSign_151 G h)
          (qz_iload_n rfl <|
            qz_if_eq rfl ca_Md_isSign_155
              (qz_iconst rfl <|
                qz_fall rfl ca_Md_isSign_156 <|
                qz_fgt [0, 0, 0, 0] <| jb_Md_isSign_156 G 0 h)
              (qz_fall rfl ca_Md_isSign_151 <|
                qz_fgt [0, 0, 0, 0] <| jb_Md_isSign_151 G h)))
set_option maxRecDepth 20000 in
theorem jb_Md_isSign_133 (G : qz_G) (l1 : Int) (l2 : Int) (h : qz_H) : qz_J yd_Md_isSign G bk_Md_isSign_133 133 [qz_u, qz_i l1, qz_i l2, qz_u] [] h 0 0 (fn_Md_isSign_133 l1 l2 h) := by
  unfold fn_Md_isSign_133 bk_Md_isSign_133; exact
    qz_iconst rfl <|
    qz_goto rfl ca_Md_isSign_138 <|
    qz_fgt [0, 1, 1, 0] <| jb_Md_isSign_138 G l1 l2 1 h
set_option maxRecDepth 20000 in
theorem jb_Md_isSign_121 (G : qz_G) (l0 : Int) (l1 : Int) (l2 : Int) (h : qz_H) : qz_J yd_Md_isSign G bk_Md_isSign_121 121 [qz_i l0, qz_i l1, qz_i l2, qz_u] [] h 0 0 (fn_Md_isSign_121 l0 l1 l2 h) := by
  unfold fn_Md_isSign_121 bk_Md_isSign_121; exact
    qz_iload_n rfl <|
    qz_bipush rfl <|
    qz_icmp_eq rfl ca_Md_isSign_133
      (qz_fgt [0, 1, 1, 0] <| jb_Md_isSign_133 G l1 l2 h)
      (qz_iload_n rfl <|
        qz_bipush rfl <|
        qz_icmp_ne rfl ca_Md_isSign_137
          (qz_iconst rfl <|
            qz_fall rfl ca_Md_isSign_138 <|
            qz_fgt [0, 1, 1, 0] <| jb_Md_isSign_138 G l1 l2 0 h)
          (qz_fall rfl ca_Md_isSign_133 <|
            qz_fgt [0, 1, 1, 0] <| jb_Md_isSign_133 G l1 l2 h))
set_option maxRecDepth 20000 in
theorem jb_Md_isSign_103 (G : qz_G) (l0 : Int) (l1 : Int) (l2 : Int) (h : qz_H) : qz_J yd_Md_isSign G bk_Md_isSign_103 103 [qz_i l0, qz_i l1, qz_i l2, qz_u] [] h 0 0 (fn_Md_isSign_103 l0 l1 l2 h) := by
  unfold fn_Md_isSign_103 bk_Md_isSign_103; exact
    qz_iload_n rfl <|
    qz_bipush rfl <|
    qz_icmp_eq rfl ca_Md_isSign_133
      (qz_fgt [0, 1, 1, 0] <| jb_Md_isSign_133 G l1 l2 h)
      (qz_iload_n rfl <|
        qz_bipush rfl <|
        qz_icmp_lt rfl ca_Md_isSign_121
          (qz_fgt [1, 1, 1, 0] <| jb_Md_isSign_121 G l0 l1 l2 h)
          (qz_iload_n rfl <|
            qz_bipush rfl <|
            qz_icmp_le rfl ca_Md_isSign_133
              (qz_fgt [0, 1, 1, 0] <| jb_Md_isSign_133 G l1 l2 h)
              (qz_fall rfl ca_Md_isSign_121 <|
                qz_fgt [1, 1, 1, 0] <| jb_Md_isSign_121 G l0 l1 l2 h)))
set_option maxRecDepth 20000 in
theorem jb_Md_isSign_84 (G : qz_G) (l0 : Int) (l1 : Int) (s0 : Int) (h : qz_H) : qz_J yd_Md_isSign G bk_Md_isSign_84 84 [qz_i l0, qz_i l1, qz_u, qz_u] [qz_i s0] h 0 0 (fn_Md_isSign_84 l0 l1 s0 h) := by
  unfold fn_Md_isSign_84 bk_Md_isSign_84; exact
    qz_istore_n (by decide) fun x1 =>
    qz_iload_n rfl <|
    qz_bipush rfl <|
    qz_icmp_eq rfl ca_Md_isSign_133
      (qz_fgt [0, 1, 1, 0] <| jb_Md_isSign_133 G l1 x1 h)
      (qz_iload_n rfl <|
        qz_bipush rfl <|
        qz_icmp_lt rfl ca_Md_isSign_103
          (qz_fgt [1, 1, 1, 0] <| jb_Md_isSign_103 G l0 l1 x1 h)
          (qz_iload_n rfl <|
            qz_bipush rfl <|
            qz_icmp_le rfl ca_Md_isSign_133
              (qz_fgt [0, 1, 1, 0] <| jb_Md_isSign_133 G l1 x1 h)
              (qz_fall rfl ca_Md_isSign_103 <|
                qz_fgt [1, 1, 1, 0] <| jb_Md_isSign_103 G l0 l1 x1 h)))
set_option maxRecDepth 20000 in
theorem jb_Md_isSign_79 (G : qz_G) (l0 : Int) (l1 : Int) (h : qz_H) : qz_J yd_Md_isSign G bk_Md_isSign_79 79 [qz_i l0, qz_i l1, qz_u, qz_u] [] h 0 0 (fn_Md_isSign_79 l0 l1 h) := by
  unfold fn_Md_isSign_79 bk_Md_isSign_79; exact
    qz_iconst rfl <|
    qz_goto rfl ca_Md_isSign_84 <|
    qz_fgt [1, 1, 0, 0] <| jb_Md_isSign_84 G l0 l1 1 h
set_option maxRecDepth 20000 in
theorem jb_Md_isSign_83 (G : qz_G) (l0 : Int) (l1 : Int) (h : qz_H) : qz_J yd_Md_isSign G bk_Md_isSign_83 83 [qz_i l0, qz_i l1, qz_u, qz_u] [] h 0 0 (fn_Md_isSign_83 l0 l1 h) := by
  unfold fn_Md_isSign_83 bk_Md_isSign_83; exact
    qz_iconst rfl <|
    qz_fall rfl ca_Md_isSign_84 <|
    qz_fgt [1, 1, 0, 0] <| jb_Md_isSign_84 G l0 l1 0 h
set_option maxRecDepth 20000 in
theorem jb_Md_isSign_55 (G : qz_G) (l0 : Int) (l1 : Int) (h : qz_H) : qz_J yd_Md_isSign G bk_Md_isSign_55 55 [qz_i l0, qz_i l1, qz_u, qz_u] [] h 0 0 (fn_Md_isSign_55 l0 l1 h) := by
  unfold fn_Md_isSign_55 bk_Md_isSign_55; exact
    qz_iload_n rfl <|
    qz_bipush rfl <|
    qz_icmp_eq rfl ca_Md_isSign_79
      (qz_fgt [1, 1, 0, 0] <| jb_Md_isSign_79 G l0 l1 h)
      (qz_iload_n rfl <|
        qz_bipush rfl <|
        qz_icmp_eq rfl ca_Md_isSign_79
          (qz_fgt [1, 1, 0, 0] <| jb_Md_isSign_79 G l0 l1 h)
          (qz_iload_n rfl <|
            qz_bipush rfl <|
            qz_icmp_lt rfl ca_Md_isSign_83
              (qz_fgt [1, 1, 0, 0] <| jb_Md_isSign_83 G l0 l1 h)
              (qz_iload_n rfl <|
                qz_bipush rfl <|
                qz_icmp_gt rfl ca_Md_isSign_83
                  (qz_fgt [1, 1, 0, 0] <| jb_Md_isSign_83 G l0 l1 h)
                  (qz_fall rfl ca_Md_isSign_79 <|
                    qz_fgt [1, 1, 0, 0] <| jb_Md_isSign_79 G l0 l1 h))))
set_option maxRecDepth 20000 in
theorem jb_Md_isSign_36 (G : qz_G) (l0 : Int) (s0 : Int) (h : qz_H) : qz_J yd_Md_isSign G bk_Md_isSign_36 36 [qz_i l0, qz_u, qz_u, qz_u] [qz_i s0] h 0 0 (fn_Md_isSign_36 l0 s0 h) := by
  unfold fn_Md_isSign_36 bk_Md_isSign_36; exact
    qz_istore_n (by decide) fun x1 =>
    qz_iload_n rfl <|
    qz_bipush rfl <|
    qz_icmp_eq rfl ca_Md_isSign_79
      (qz_fgt [1, 1, 0, 0] <| jb_Md_isSign_79 G l0 x1 h)
      (qz_iload_n rfl <|
        qz_bipush rfl <|
        qz_icmp_lt rfl ca_Md_isSign_55
          (qz_fgt [1, 1, 0, 0] <| jb_Md_isSign_55 G l0 x1 h)
          (qz_iload_n rfl <|
            qz_bipush rfl <|
            qz_icmp_le rfl ca_Md_isSign_79
              (qz_fgt [1, 1, 0, 0] <| jb_Md_isSign_79 G l0 x1 h)
              (qz_fall rfl ca_Md_isSign_55 <|
                qz_fgt [1, 1, 0, 0] <| jb_Md_isSign_55 G l0 x1 h)))
set_option maxRecDepth 20000 in
theorem jb_Md_isSign_31 (G : qz_G) (l0 : Int) (h : qz_H) : qz_J yd_Md_isSign G bk_Md_isSign_31 31 [qz_i l0, qz_u, qz_u, qz_u] [] h 0 0 (fn_Md_isSign_31 l0 h) := by
  unfold fn_Md_isSign_31 bk_Md_isSign_31; exact
    qz_iconst rfl <|
    qz_goto rfl ca_Md_isSign_36 <|
    qz_fgt [1, 0, 0, 0] <| jb_Md_isSign_36 G l0 1 h
set_option maxRecDepth 20000 in
theorem jb_Md_isSign_24 (G : qz_G) (l0 : Int) (h : qz_H) : qz_J yd_Md_isSign G bk_Md_isSign_24 24 [qz_i l0, qz_u, qz_u, qz_u] [] h 0 0 (fn_Md_isSign_24 l0 h) := by
  unfold fn_Md_isSign_24 bk_Md_isSign_24; exact
    qz_iload_n rfl <|
    qz_invsI [qz_i l0] rfl (cn_Md_isDigit l0 h) mw_Md_isDigit vs_Md_isDigit rfl rfl ln_Md_213 rfl fun r1 h2 =>
    qz_if_eq rfl ca_Md_isSign_35
      (qz_iconst rfl <|
        qz_fall rfl ca_Md_isSign_36 <|
        qz_fgt [1, 0, 0, 0] <| jb_Md_isSign_36 G l0 0 h2)
      (qz_fall rfl ca_Md_isSign_31 <|
        qz_fgt [1, 0, 0, 0] <| jb_Md_isSign_31 G l0 h2)
set_option maxRecDepth 20000 in
theorem jb_Md_isSign_12 (G : qz_G) (l0 : Int) (h : qz_H) : qz_J yd_Md_isSign G bk_Md_isSign_12 12 [qz_i l0, qz_u, qz_u, qz_u] [] h 0 0 (fn_Md_isSign_12 l0 h) := by
  unfold fn_Md_isSign_12 bk_Md_isSign_12; exact
    qz_iload_n rfl <|
    qz_bipush rfl <|
    qz_icmp_lt rfl ca_Md_isSign_24
      (qz_fgt [1, 0, 0, 0] <| jb_Md_isSign_24 G l0 h)
      (qz_iload_n rfl <|
        qz_bipush rfl <|
        qz_icmp_le rfl ca_Md_isSign_31
          (qz_fgt [1, 0, 0, 0] <| jb_Md_isSign_31 G l0 h)
          (qz_fall rfl ca_Md_isSign_24 <|
            qz_fgt [1, 0, 0, 0] <| jb_Md_isSign_24 G l0 h))
set_option maxRecDepth 20000 in
theorem cn_Md_isSign (l0 : Int) (h : qz_H) : qz_C yd_Md_isSign [qz_i l0] h (fn_Md_isSign l0 h) := by
  refine qz_con (is := bk_Md_isSign_0) (ls := [qz_i l0, qz_u, qz_u, qz_u]) mw_Md_isSign.2.2.2 ca_Md_isSign_0 rfl rfl rfl fun G => ?_
  unfold fn_Md_isSign bk_Md_isSign_0; exact
    qz_iload_n rfl <|
    qz_bipush rfl <|
    qz_icmp_lt rfl ca_Md_isSign_12
      (qz_fgt [1, 0, 0, 0] <| jb_Md_isSign_12 G l0 h)
      (qz_iload_n rfl <|
        qz_bipush rfl <|
        qz_icmp_le rfl ca_Md_isSign_31
          (qz_fgt [1, 0, 0, 0] <| jb_Md_isSign_31 G l0 h)
          (qz_fall rfl ca_Md_isSign_12 <|
            qz_fgt [1, 0, 0, 0] <| jb_Md_isSign_12 G l0 h))
def fn_Md_comment_145 (k4 : Int → Int → Int → qz_H → Option qz_R) (l0 : Int) (l1 : Int) (s0 : Int) (h : qz_H) : Option qz_R :=
  qz_bn (s0 : Int) fun x1 =>
  k4 l0 l1 x1 h
def fn_Md_comment_132 (k4 : Int → Int → Int → qz_H → Option qz_R) (l0 : Int) (l1 : Int) (s0 : Int) (s1 : Int) (s2 : Int) (h : qz_H) : Option qz_R :=
  qz_ck ((0 : Int) < s0) <|
  qz_bn (qz_up h s0 32 (qz_w (s1 + s2))) fun h1 =>
  if l1 ≤ 0 then
    fn_Md_comment_145 k4 l0 l1 0 h1
  else
    fn_Md_comment_145 k4 l0 l1 1 h1
def fn_Md_comment_127 (k4 : Int → Int → Int → qz_H → Option qz_R) (l0 : Int) (l1 : Int) (s0 : Int) (s1 : Int) (h : qz_H) : Option qz_R :=
  fn_Md_comment_132 k4 l0 l1 s0 s1 2 h
def fn_Md_comment_112 (k4 : Int → Int → Int → qz_H → Option qz_R) (l0 : Int) (l3 : Int) (l4 : Int) (s0 : Int) (h : qz_H) : Option qz_R :=
  qz_bn (s0 : Int) fun x1 =>
  if ¬ l3 = 0 then
    fn_Md_comment_127 k4 l0 x1 l0 (h l0 32) h
  else
    if l4 = 0 then
      fn_Md_comment_132 k4 l0 x1 l0 (h l0 32) 1 h
    else
      fn_Md_comment_127 k4 l0 x1 l0 (h l0 32) h
def fn_Md_comment_88 (k4 : Int → Int → Int → qz_H → Option qz_R) (l0 : Int) (l1 : Int) (l3 : Int) (s0 : Int) (h : qz_H) : Option qz_R :=
  qz_bn (s0 : Int) fun x1 =>
  if l3 = 0 then
    if x1 = 0 then
      fn_Md_comment_112 k4 l0 l3 x1 l1 h
    else
      fn_Md_comment_112 k4 l0 l3 x1 (qz_w (l1 - 1)) h
  else
    fn_Md_comment_112 k4 l0 l3 x1 (qz_w (l1 + 1)) h
def fn_Md_comment_87 (k4 : Int → Int → Int → qz_H → Option qz_R) (l0 : Int) (l1 : Int) (l3 : Int) (h : qz_H) : Option qz_R :=
  fn_Md_comment_88 k4 l0 l1 l3 0 h
def fn_Md_comment_54 (k4 : Int → Int → Int → qz_H → Option qz_R) (l0 : Int) (l1 : Int) (s0 : Int) (h : qz_H) : Option qz_R :=
  qz_bn (s0 : Int) fun x1 =>
  qz_bc (fn_Md_ch l0 (h l0 32) h) fun r2 h3 =>
  if ¬ r2 = 59 then
    fn_Md_comment_87 k4 l0 l1 x1 h3
  else
    qz_bc (fn_Md_ch l0 (qz_w ((h3 l0 32) + 1)) h3) fun r4 h5 =>
    if ¬ r4 = 41 then
      fn_Md_comment_87 k4 l0 l1 x1 h5
    else
      fn_Md_comment_88 k4 l0 l1 x1 1 h5
def fn_Md_comment_53 (k4 : Int → Int → Int → qz_H → Option qz_R) (l0 : Int) (l1 : Int) (h : qz_H) : Option qz_R :=
  fn_Md_comment_54 k4 l0 l1 0 h
def fn_Md_comment_4_b (k4 : Int → Int → Int → qz_H → Option qz_R) (l0 : Int) (l1 : Int) (l2 : Int) (h : qz_H) : Option qz_R :=
  if l2 = 0 then
    qz_ck ((1 : Int) = 0 ∨ (1 : Int) = 1) (some (1, h))
  else
    if h l0 32 < h l0 5 then
      qz_bc (fn_Md_ch l0 (h l0 32) h) fun r1 h2 =>
      if ¬ r1 = 40 then
        fn_Md_comment_53 k4 l0 l1 h2
      else
        qz_bc (fn_Md_ch l0 (qz_w ((h2 l0 32) + 1)) h2) fun r3 h4 =>
        if ¬ r3 = 59 then
          fn_Md_comment_53 k4 l0 l1 h4
        else
          fn_Md_comment_54 k4 l0 l1 1 h4
    else
      qz_ck ((0 : Int) = 0 ∨ (0 : Int) = 1) (some (0, h))
def fn_Md_comment_4 : Nat → Int → Int → Int → qz_H → Option qz_R
  | 0, _, _, _, _ => none
  | n + 1, l0, l1, l2, h => fn_Md_comment_4_b (fn_Md_comment_4 n) l0 l1 l2 h
set_option maxRecDepth 20000 in
def fn_Md_comment (l0 : Int) (h : qz_H) : Option qz_R :=
  qz_bn (0 : Int) fun x1 =>
  qz_bn (1 : Int) fun x2 =>
  fn_Md_comment_4 qz_NF l0 x1 x2 h
def bk_Md_comment_0 : List (Instr × Nat) := [(.iconst 0, 1), (.istore_n 1, 1), (.iconst 1, 1), (.istore_n 2, 1)]
def bk_Md_comment_4 : List (Instr × Nat) := [(.iload_n 2, 1), (.ifCond .eq 144, 3), (.aload_n 0, 1), (.getfield 217, 3), (.aload_n 0, 1), (.getfield 210, 3), (.if_icmp .lt 5, 3), (.iconst 0, 1), (.ireturn, 1)]
def bk_Md_comment_149 : List (Instr × Nat) := [(.iconst 1, 1), (.ireturn, 1)]
def bk_Md_comment_21 : List (Instr × Nat) := [(.aload_n 0, 1), (.aload_n 0, 1), (.getfield 217, 3), (.invokevirtual 220, 3), (.bipush 40, 2), (.if_icmp .ne 22, 3), (.aload_n 0, 1), (.aload_n 0, 1), (.getfield 217, 3), (.iconst 1, 1), (.iadd, 1), (.invokevirtual 220, 3), (.bipush 59, 2), (.if_icmp .ne 7, 3), (.iconst 1, 1), (.goto 4, 3)]
def bk_Md_comment_53 : List (Instr × Nat) := [(.iconst 0, 1)]
def bk_Md_comment_54 : List (Instr × Nat) := [(.istore_n 3, 1), (.aload_n 0, 1), (.aload_n 0, 1), (.getfield 217, 3), (.invokevirtual 220, 3), (.bipush 59, 2), (.if_icmp .ne 22, 3), (.aload_n 0, 1), (.aload_n 0, 1), (.getfield 217, 3), (.iconst 1, 1), (.iadd, 1), (.invokevirtual 220, 3), (.bipush 41, 2), (.if_icmp .ne 7, 3), (.iconst 1, 1), (.goto 4, 3)]
def bk_Md_comment_87 : List (Instr × Nat) := [(.iconst 0, 1)]
def bk_Md_comment_88 : List (Instr × Nat) := [(.istore 4, 2), (.iload_n 3, 1), (.ifCond .eq 9, 3), (.iload_n 1, 1), (.iconst 1, 1), (.iadd, 1), (.goto 15, 3)]
def bk_Md_comment_100 : List (Instr × Nat) := [(.iload 4, 2), (.ifCond .eq 9, 3), (.iload_n 1, 1), (.iconst 1, 1), (.isub, 1), (.goto 4, 3)]
def bk_Md_comment_111 : List (Instr × Nat) := [(.iload_n 1, 1)]
def bk_Md_comment_112 : List (Instr × Nat) := [(.istore_n 1, 1), (.aload_n 0, 1), (.dup, 1), (.getfield 217, 3), (.iload_n 3, 1), (.ifCond .ne 8, 3), (.iload 4, 2), (.ifCond .eq 7, 3)]
def bk_Md_comment_127 : List (Instr × Nat) := [(.iconst 2, 1), (.goto 4, 3)]
def bk_Md_comment_131 : List (Instr × Nat) := [(.iconst 1, 1)]
def bk_Md_comment_132 : List (Instr × Nat) := [(.iadd, 1), (.putfield 217, 3), (.iload_n 1, 1), (.ifCond .le 7, 3), (.iconst 1, 1), (.goto 4, 3)]
def bk_Md_comment_144 : List (Instr × Nat) := [(.iconst 0, 1)]
def bk_Md_comment_145 : List (Instr × Nat) := [(.istore_n 2, 1), (.goto (-142), 3)]
theorem ca_Md_comment_0 : qz_ca yd_Md_comment.2.1 0 bk_Md_comment_0 := qz_cab_ok _ _ (by decide +kernel)
theorem ca_Md_comment_4 : qz_ca yd_Md_comment.2.1 4 bk_Md_comment_4 := qz_cab_ok _ _ (by decide +kernel)
theorem ca_Md_comment_149 : qz_ca yd_Md_comment.2.1 149 bk_Md_comment_149 := qz_cab_ok _ _ (by decide +kernel)
theorem ca_Md_comment_21 : qz_ca yd_Md_comment.2.1 21 bk_Md_comment_21 := qz_cab_ok _ _ (by decide +kernel)
theorem ca_Md_comment_53 : qz_ca yd_Md_comment.2.1 53 bk_Md_comment_53 := qz_cab_ok _ _ (by decide +kernel)
theorem ca_Md_comment_54 : qz_ca yd_Md_comment.2.1 54 bk_Md_comment_54 := qz_cab_ok _ _ (by decide +kernel)
theorem ca_Md_comment_87 : qz_ca yd_Md_comment.2.1 87 bk_Md_comment_87 := qz_cab_ok _ _ (by decide +kernel)
theorem ca_Md_comment_88 : qz_ca yd_Md_comment.2.1 88 bk_Md_comment_88 := qz_cab_ok _ _ (by decide +kernel)
theorem ca_Md_comment_100 : qz_ca yd_Md_comment.2.1 100 bk_Md_comment_100 := qz_cab_ok _ _ (by decide +kernel)
theorem ca_Md_comment_111 : qz_ca yd_Md_comment.2.1 111 bk_Md_comment_111 := qz_cab_ok _ _ (by decide +kernel)
theorem ca_Md_comment_112 : qz_ca yd_Md_comment.2.1 112 bk_Md_comment_112 := qz_cab_ok _ _ (by decide +kernel)
theorem ca_Md_comment_127 : qz_ca yd_Md_comment.2.1 127 bk_Md_comment_127 := qz_cab_ok _ _ (by decide +kernel)
theorem ca_Md_comment_131 : qz_ca yd_Md_comment.2.1 131 bk_Md_comment_131 := qz_cab_ok _ _ (by decide +kernel)
theorem ca_Md_comment_132 : qz_ca yd_Md_comment.2.1 132 bk_Md_comment_132 := qz_cab_ok _ _ (by decide +kernel)
theorem ca_Md_comment_144 : qz_ca yd_Md_comment.2.1 144 bk_Md_comment_144 := qz_cab_ok _ _ (by decide +kernel)
theorem ca_Md_comment_145 : qz_ca yd_Md_comment.2.1 145 bk_Md_comment_145 := qz_cab_ok _ _ (by decide +kernel)
set_option maxRecDepth 20000 in
theorem jb_Md_comment_145 (G : qz_G) (k4 : Int → Int → Int → qz_H → Option qz_R) (jk4 : ∀ (l0 : Int) (l1 : Int) (l2 : Int) (h : qz_H), qz_J yd_Md_comment G bk_Md_comment_4 4 [qz_r true 12 l0, qz_i l1, qz_i l2, qz_u, qz_u] [] h 0 0 (k4 l0 l1 l2 h)) (l0 : Int) (l1 : Int) (s0 : Int) (h : qz_H) : qz_J yd_Md_comment G bk_Md_comment_145 145 [qz_r true 12 l0, qz_i l1, qz_u, qz_u, qz_u] [qz_i s0] h 0 0 (fn_Md_comment_145 k4 l0 l1 s0 h) := by
  unfold fn_Md_comment_145 bk_Md_comment_145; exact
    qz_istore_n (by decide) fun x1 =>
    qz_goto rfl ca_Md_comment_4 <|
    qz_fgt [1, 1, 1, 0, 0] <| jk4 l0 l1 x1 h
set_option maxRecDepth 20000 in
theorem jb_Md_comment_132 (G : qz_G) (k4 : Int → Int → Int → qz_H → Option qz_R) (jk4 : ∀ (l0 : Int) (l1 : Int) (l2 : Int) (h : qz_H), qz_J yd_Md_comment G bk_Md_comment_4 4 [qz_r true 12 l0, qz_i l1, qz_i l2, qz_u, qz_u] [] h 0 0 (k4 l0 l1 l2 h)) (l0 : Int) (l1 : Int) (s0 : Int) (s1 : Int) (s2 : Int) (h : qz_H) : qz_J yd_Md_comment G bk_Md_comment_132 132 [qz_r true 12 l0, qz_i l1, qz_u, qz_u, qz_u] [qz_i s2, qz_i s1, qz_r true 12 s0] h 0 0 (fn_Md_comment_132 k4 l0 l1 s0 s1 s2 h) := by
  unfold fn_Md_comment_132 bk_Md_comment_132; exact
    qz_iadd <|
    qz_putI kw_12 fp_Md_217_Md_comment rfl rfl fun h1 =>
    qz_iload_n rfl <|
    qz_if_le rfl ca_Md_comment_144
      (qz_iconst rfl <|
        qz_fall rfl ca_Md_comment_145 <|
        qz_fgt [1, 1, 0, 0, 0] <| jb_Md_comment_145 G k4 jk4 l0 l1 0 h1)
      (qz_iconst rfl <|
        qz_goto rfl ca_Md_comment_145 <|
        qz_fgt [1, 1, 0, 0, 0] <| jb_Md_comment_145 G k4 jk4 l0 l1 1 h1)
set_option maxRecDepth 20000 in
theorem jb_Md_comment_127 (G : qz_G) (k4 : Int → Int → Int → qz_H → Option qz_R) (jk4 : ∀ (l0 : Int) (l1 : Int) (l2 : Int) (h : qz_H), qz_J yd_Md_comment G bk_Md_comment_4 4 [qz_r true 12 l0, qz_i l1, qz_i l2, qz_u, qz_u] [] h 0 0 (k4 l0 l1 l2 h)) (l0 : Int) (l1 : Int) (s0 : Int) (s1 : Int) (h : qz_H) : qz_J yd_Md_comment G bk_Md_comment_127 127 [qz_r true 12 l0, qz_i l1, qz_u, qz_u, qz_u] [qz_i s1, qz_r true 12 s0] h 0 0 (fn_Md_comment_127 k4 l0 l1 s0 s1 h) := by
  unfold fn_Md_comment_127 bk_Md_comment_127; exact
    qz_iconst rfl <|
    qz_goto rfl ca_Md_comment_132 <|
    qz_fgt [1, 1, 0, 0, 0] <| jb_Md_comment_132 G k4 jk4 l0 l1 s0 s1 2 h
set_option maxRecDepth 20000 in
theorem jb_Md_comment_112 (G : qz_G) (k4 : Int → Int → Int → qz_H → Option qz_R) (jk4 : ∀ (l0 : Int) (l1 : Int) (l2 : Int) (h : qz_H), qz_J yd_Md_comment G bk_Md_comment_4 4 [qz_r true 12 l0, qz_i l1, qz_i l2, qz_u, qz_u] [] h 0 0 (k4 l0 l1 l2 h)) (l0 : Int) (l3 : Int) (l4 : Int) (s0 : Int) (h : qz_H) : qz_J yd_Md_comment G bk_Md_comment_112 112 [qz_r true 12 l0, qz_u, qz_u, qz_i l3, qz_i l4] [qz_i s0] h 0 0 (fn_Md_comment_112 k4 l0 l3 l4 s0 h) := by
  unfold fn_Md_comment_112 bk_Md_comment_112; exact
    qz_istore_n (by decide) fun x1 =>
    qz_aload_n rfl <|
    qz_dup rfl <|
    qz_getI kg_12 fl_Md_217 rfl rfl <|
    qz_iload_n rfl <|
    qz_if_ne rfl ca_Md_comment_127
      (qz_fgt [1, 1, 0, 0, 0] <| jb_Md_comment_127 G k4 jk4 l0 x1 l0 (h l0 32) h)
      (qz_iload rfl <|
        qz_if_eq rfl ca_Md_comment_131
          (qz_iconst rfl <|
            qz_fall rfl ca_Md_comment_132 <|
            qz_fgt [1, 1, 0, 0, 0] <| jb_Md_comment_132 G k4 jk4 l0 x1 l0 (h l0 32) 1 h)
          (qz_fall rfl ca_Md_comment_127 <|
            qz_fgt [1, 1, 0, 0, 0] <| jb_Md_comment_127 G k4 jk4 l0 x1 l0 (h l0 32) h))
set_option maxRecDepth 20000 in
theorem jb_Md_comment_88 (G : qz_G) (k4 : Int → Int → Int → qz_H → Option qz_R) (jk4 : ∀ (l0 : Int) (l1 : Int) (l2 : Int) (h : qz_H), qz_J yd_Md_comment G bk_Md_comment_4 4 [qz_r true 12 l0, qz_i l1, qz_i l2, qz_u, qz_u] [] h 0 0 (k4 l0 l1 l2 h)) (l0 : Int) (l1 : Int) (l3 : Int) (s0 : Int) (h : qz_H) : qz_J yd_Md_comment G bk_Md_comment_88 88 [qz_r true 12 l0, qz_i l1, qz_u, qz_i l3, qz_u] [qz_i s0] h 0 0 (fn_Md_comment_88 k4 l0 l1 l3 s0 h) := by
  unfold fn_Md_comment_88 bk_Md_comment_88; exact
    qz_istore (by decide) fun x1 =>
    qz_iload_n rfl <|
    qz_if_eq rfl ca_Md_comment_100
      (qz_iload rfl <|
        qz_if_eq rfl ca_Md_comment_111
          (qz_iload_n rfl <|
            qz_fall rfl ca_Md_comment_112 <|
            qz_fgt [1, 0, 0, 1, 1] <| jb_Md_comment_112 G k4 jk4 l0 l3 x1 l1 h)
          (qz_iload_n rfl <|
            qz_iconst rfl <|
            qz_isub <|
            qz_goto rfl ca_Md_comment_112 <|
            qz_fgt [1, 0, 0, 1, 1] <| jb_Md_comment_112 G k4 jk4 l0 l3 x1 (qz_w (l1 - 1)) h))
      (qz_iload_n rfl <|
        qz_iconst rfl <|
        qz_iadd <|
        qz_goto rfl ca_Md_comment_112 <|
        qz_fgt [1, 0, 0, 1, 1] <| jb_Md_comment_112 G k4 jk4 l0 l3 x1 (qz_w (l1 + 1)) h)
set_option maxRecDepth 20000 in
theorem jb_Md_comment_87 (G : qz_G) (k4 : Int → Int → Int → qz_H → Option qz_R) (jk4 : ∀ (l0 : Int) (l1 : Int) (l2 : Int) (h : qz_H), qz_J yd_Md_comment G bk_Md_comment_4 4 [qz_r true 12 l0, qz_i l1, qz_i l2, qz_u, qz_u] [] h 0 0 (k4 l0 l1 l2 h)) (l0 : Int) (l1 : Int) (l3 : Int) (h : qz_H) : qz_J yd_Md_comment G bk_Md_comment_87 87 [qz_r true 12 l0, qz_i l1, qz_u, qz_i l3, qz_u] [] h 0 0 (fn_Md_comment_87 k4 l0 l1 l3 h) := by
  unfold fn_Md_comment_87 bk_Md_comment_87; exact
    qz_iconst rfl <|
    qz_fall rfl ca_Md_comment_88 <|
    qz_fgt [1, 1, 0, 1, 0] <| jb_Md_comment_88 G k4 jk4 l0 l1 l3 0 h
set_option maxRecDepth 20000 in
theorem jb_Md_comment_54 (G : qz_G) (k4 : Int → Int → Int → qz_H → Option qz_R) (jk4 : ∀ (l0 : Int) (l1 : Int) (l2 : Int) (h : qz_H), qz_J yd_Md_comment G bk_Md_comment_4 4 [qz_r true 12 l0, qz_i l1, qz_i l2, qz_u, qz_u] [] h 0 0 (k4 l0 l1 l2 h)) (l0 : Int) (l1 : Int) (s0 : Int) (h : qz_H) : qz_J yd_Md_comment G bk_Md_comment_54 54 [qz_r true 12 l0, qz_i l1, qz_u, qz_u, qz_u] [qz_i s0] h 0 0 (fn_Md_comment_54 k4 l0 l1 s0 h) := by
  unfold fn_Md_comment_54 bk_Md_comment_54; exact
    qz_istore_n (by decide) fun x1 =>
    qz_aload_n rfl <|
    qz_aload_n rfl <|
    qz_getI kg_12 fl_Md_217 rfl rfl <|
    qz_invvI [qz_i (h l0 32)] rfl (cn_Md_ch l0 (h l0 32) h) mw_Md_ch vw_Md_ch ⟨_, rfl, rfl, by decide⟩ rfl rfl ln_Md_220 rfl fun r2 h3 =>
    qz_bipush rfl <|
    qz_icmp_ne rfl ca_Md_comment_87
      (qz_fgt [1, 1, 0, 1, 0] <| jb_Md_comment_87 G k4 jk4 l0 l1 x1 h3)
      (qz_aload_n rfl <|
        qz_aload_n rfl <|
        qz_getI kg_12 fl_Md_217 rfl rfl <|
        qz_iconst rfl <|
        qz_iadd <|
        qz_invvI [qz_i (qz_w ((h3 l0 32) + 1))] rfl (cn_Md_ch l0 (qz_w ((h3 l0 32) + 1)) h3) mw_Md_ch vw_Md_ch ⟨_, rfl, rfl, by decide⟩ rfl rfl ln_Md_220 rfl fun r4 h5 =>
        qz_bipush rfl <|
        qz_icmp_ne rfl ca_Md_comment_87
          (qz_fgt [1, 1, 0, 1, 0] <| jb_Md_comment_87 G k4 jk4 l0 l1 x1 h5)
          (qz_iconst rfl <|
            qz_goto rfl ca_Md_comment_88 <|
            qz_fgt [1, 1, 0, 1, 0] <| jb_Md_comment_88 G k4 jk4 l0 l1 x1 1 h5))
set_option maxRecDepth 20000 in
theorem jb_Md_comment_53 (G : qz_G) (k4 : Int → Int → Int → qz_H → Option qz_R) (jk4 : ∀ (l0 : Int) (l1 : Int) (l2 : Int) (h : qz_H), qz_J yd_Md_comment G bk_Md_comment_4 4 [qz_r true 12 l0, qz_i l1, qz_i l2, qz_u, qz_u] [] h 0 0 (k4 l0 l1 l2 h)) (l0 : Int) (l1 : Int) (h : qz_H) : qz_J yd_Md_comment G bk_Md_comment_53 53 [qz_r true 12 l0, qz_i l1, qz_u, qz_u, qz_u] [] h 0 0 (fn_Md_comment_53 k4 l0 l1 h) := by
  unfold fn_Md_comment_53 bk_Md_comment_53; exact
    qz_iconst rfl <|
    qz_fall rfl ca_Md_comment_54 <|
    qz_fgt [1, 1, 0, 0, 0] <| jb_Md_comment_54 G k4 jk4 l0 l1 0 h
set_option maxRecDepth 20000 in
theorem jb_Md_comment_4_b (G : qz_G) (k4 : Int → Int → Int → qz_H → Option qz_R) (jk4 : ∀ (l0 : Int) (l1 : Int) (l2 : Int) (h : qz_H), qz_J yd_Md_comment G bk_Md_comment_4 4 [qz_r true 12 l0, qz_i l1, qz_i l2, qz_u, qz_u] [] h 0 0 (k4 l0 l1 l2 h)) (l0 : Int) (l1 : Int) (l2 : Int) (h : qz_H) : qz_J yd_Md_comment G bk_Md_comment_4 4 [qz_r true 12 l0, qz_i l1, qz_i l2, qz_u, qz_u] [] h 0 0 (fn_Md_comment_4_b k4 l0 l1 l2 h) := by
  unfold fn_Md_comment_4_b bk_Md_comment_4; exact
    qz_iload_n rfl <|
    qz_if_eq rfl ca_Md_comment_149
      (qz_iconst rfl <|
        qz_zreturn ⟨rfl, rfl⟩ rfl)
      (qz_aload_n rfl <|
        qz_getI kg_12 fl_Md_217 rfl rfl <|
        qz_aload_n rfl <|
        qz_getI kg_12 fl_Md_210 rfl rfl <|
        qz_icmp_lt rfl ca_Md_comment_21
          (qz_aload_n rfl <|
            qz_aload_n rfl <|
            qz_getI kg_12 fl_Md_217 rfl rfl <|
            qz_invvI [qz_i (h l0 32)] rfl (cn_Md_ch l0 (h l0 32) h) mw_Md_ch vw_Md_ch ⟨_, rfl, rfl, by decide⟩ rfl rfl ln_Md_220 rfl fun r1 h2 =>
            qz_bipush rfl <|
            qz_icmp_ne rfl ca_Md_comment_53
              (qz_fgt [1, 1, 0, 0, 0] <| jb_Md_comment_53 G k4 jk4 l0 l1 h2)
              (qz_aload_n rfl <|
                qz_aload_n rfl <|
                qz_getI kg_12 fl_Md_217 rfl rfl <|
                qz_iconst rfl <|
                qz_iadd <|
                qz_invvI [qz_i (qz_w ((h2 l0 32) + 1))] rfl (cn_Md_ch l0 (qz_w ((h2 l0 32) + 1)) h2) mw_Md_ch vw_Md_ch ⟨_, rfl, rfl, by decide⟩ rfl rfl ln_Md_220 rfl fun r3 h4 =>
                qz_bipush rfl <|
                qz_icmp_ne rfl ca_Md_comment_53
                  (qz_fgt [1, 1, 0, 0, 0] <| jb_Md_comment_53 G k4 jk4 l0 l1 h4)
                  (qz_iconst rfl <|
                    qz_goto rfl ca_Md_comment_54 <|
                    qz_fgt [1, 1, 0, 0, 0] <| jb_Md_comment_54 G k4 jk4 l0 l1 1 h4)))
          (qz_iconst rfl <|
            qz_zreturn ⟨rfl, rfl⟩ rfl))
theorem jb_Md_comment_4 (G : qz_G) : ∀ (n : Nat) (l0 l1 l2 : Int) (h : qz_H), qz_J yd_Md_comment G bk_Md_comment_4 4 [qz_r true 12 l0, qz_i l1, qz_i l2, qz_u, qz_u] [] h 0 0 (fn_Md_comment_4 n l0 l1 l2 h)
  | 0, _, _, _, _ => qz_none
  | n + 1, l0, l1, l2, h => jb_Md_comment_4_b G (fn_Md_comment_4 n) (jb_Md_comment_4 G n) l0 l1 l2 h
set_option maxRecDepth 20000 in
theorem cn_Md_comment (l0 : Int) (h : qz_H) : qz_C yd_Md_comment [qz_r true 12 l0] h (fn_Md_comment l0 h) := by
  refine qz_con (is := bk_Md_comment_0) (ls := [qz_r true 12 l0, qz_u, qz_u, qz_u, qz_u]) mw_Md_comment.2.2.2 ca_Md_comment_0 rfl rfl rfl fun G => ?_
  unfold fn_Md_comment bk_Md_comment_0; exact
    qz_iconst rfl <|
    qz_istore_n (by decide) fun x1 =>
    qz_iconst rfl <|
    qz_istore_n (by decide) fun x2 =>
    qz_fall rfl ca_Md_comment_4 <|
    qz_fgt [1, 1, 1, 0, 0] <| jb_Md_comment_4 G qz_NF l0 x1 x2 h
def fn_Md_readWord_110 (k15 : Int → qz_H → Option qz_R) (l0 : Int) (s0 : Int) (s1 : Int) (h : qz_H) : Option qz_R :=
  qz_ck ((0 : Int) < s0) <|
  qz_bn (qz_up h s0 37 s1) fun h1 =>
  qz_ck ((0 : Int) < l0) <|
  qz_bn (qz_up h1 l0 32 (qz_w ((h1 l0 32) + 1))) fun h2 =>
  k15 l0 h2
def fn_Md_readWord_106 (k15 : Int → qz_H → Option qz_R) (l0 : Int) (s0 : Int) (h : qz_H) : Option qz_R :=
  fn_Md_readWord_110 k15 l0 s0 (h l0 37) h
def fn_Md_readWord_70 (k15 : Int → qz_H → Option qz_R) (l0 : Int) (l1 : Int) (s0 : Int) (s1 : Int) (h : qz_H) : Option qz_R :=
  qz_ck ((0 : Int) < s0) <|
  qz_bn (qz_up h s0 36 s1) fun h1 =>
  if l1 < 8 then
    fn_Md_readWord_106 k15 l0 l0 h1
  else
    if 16 ≤ l1 then
      fn_Md_readWord_106 k15 l0 l0 h1
    else
      qz_bc (fn_Md_ch l0 (h1 l0 32) h1) fun r2 h3 =>
      fn_Md_readWord_110 k15 l0 l0 (qz_orJ (qz_shlJ (h1 l0 37) 8) r2) h3
def fn_Md_readWord_15_b (k15 : Int → qz_H → Option qz_R) (l0 : Int) (h : qz_H) : Option qz_R :=
  qz_bc (fn_Md_ch l0 (h l0 32) h) fun r1 h2 =>
  qz_bc (fn_Md_isSign r1 h2) fun r3 h4 =>
  if r3 = 0 then
    qz_ck ((0 : Int) < l0) <|
    qz_bn (qz_up h4 l0 35 (qz_w ((h4 l0 32) - (h4 l0 34)))) fun h5 =>
    some (0, h5)
  else
    qz_bn (qz_w ((h4 l0 32) - (h4 l0 34)) : Int) fun x6 =>
    if 8 ≤ x6 then
      fn_Md_readWord_70 k15 l0 x6 l0 (h4 l0 36) h4
    else
      qz_bc (fn_Md_ch l0 (h4 l0 32) h4) fun r7 h8 =>
      fn_Md_readWord_70 k15 l0 x6 l0 (qz_orJ (qz_shlJ (h4 l0 36) 8) r7) h8
def fn_Md_readWord_15 : Nat → Int → qz_H → Option qz_R
  | 0, _, _ => none
  | n + 1, l0, h => fn_Md_readWord_15_b (fn_Md_readWord_15 n) l0 h
set_option maxRecDepth 20000 in
def fn_Md_readWord (l0 : Int) (h : qz_H) : Option qz_R :=
  qz_ck ((0 : Int) < l0) <|
  qz_bn (qz_up h l0 33 3) fun h1 =>
  qz_ck ((0 : Int) < l0) <|
  qz_bn (qz_up h1 l0 36 0) fun h2 =>
  qz_ck ((0 : Int) < l0) <|
  qz_bn (qz_up h2 l0 37 0) fun h3 =>
  fn_Md_readWord_15 qz_NF l0 h3
def bk_Md_readWord_0 : List (Instr × Nat) := [(.aload_n 0, 1), (.iconst 3, 1), (.putfield 231, 3), (.aload_n 0, 1), (.lconst 0, 1), (.putfield 240, 3), (.aload_n 0, 1), (.lconst 0, 1), (.putfield 244, 3)]
def bk_Md_readWord_15 : List (Instr × Nat) := [(.aload_n 0, 1), (.aload_n 0, 1), (.getfield 217, 3), (.invokevirtual 220, 3), (.invokestatic 234, 3), (.ifCond .eq 100, 3), (.aload_n 0, 1), (.getfield 217, 3), (.aload_n 0, 1), (.getfield 224, 3), (.isub, 1), (.istore_n 1, 1), (.aload_n 0, 1), (.iload_n 1, 1), (.bipush 8, 2), (.if_icmp .ge 23, 3), (.aload_n 0, 1), (.getfield 240, 3), (.bipush 8, 2), (.lshl, 1), (.aload_n 0, 1), (.aload_n 0, 1), (.getfield 217, 3), (.invokevirtual 220, 3), (.i2l, 1), (.lor, 1), (.goto 7, 3)]
def bk_Md_readWord_126 : List (Instr × Nat) := [(.aload_n 0, 1), (.aload_n 0, 1), (.getfield 217, 3), (.aload_n 0, 1), (.getfield 224, 3), (.isub, 1), (.putfield 247, 3), (.return_, 1)]
def bk_Md_readWord_66 : List (Instr × Nat) := [(.aload_n 0, 1), (.getfield 240, 3)]
def bk_Md_readWord_70 : List (Instr × Nat) := [(.putfield 240, 3), (.aload_n 0, 1), (.iload_n 1, 1), (.bipush 8, 2), (.if_icmp .lt 29, 3), (.iload_n 1, 1), (.bipush 16, 2), (.if_icmp .ge 23, 3), (.aload_n 0, 1), (.getfield 244, 3), (.bipush 8, 2), (.lshl, 1), (.aload_n 0, 1), (.aload_n 0, 1), (.getfield 217, 3), (.invokevirtual 220, 3), (.i2l, 1), (.lor, 1), (.goto 7, 3)]
def bk_Md_readWord_106 : List (Instr × Nat) := [(.aload_n 0, 1), (.getfield 244, 3)]
def bk_Md_readWord_110 : List (Instr × Nat) := [(.putfield 244, 3), (.aload_n 0, 1), (.dup, 1), (.getfield 217, 3), (.iconst 1, 1), (.iadd, 1), (.putfield 217, 3), (.goto (-108), 3)]
theorem ca_Md_readWord_0 : qz_ca yd_Md_readWord.2.1 0 bk_Md_readWord_0 := qz_cab_ok _ _ (by decide +kernel)
theorem ca_Md_readWord_15 : qz_ca yd_Md_readWord.2.1 15 bk_Md_readWord_15 := qz_cab_ok _ _ (by decide +kernel)
theorem ca_Md_readWord_126 : qz_ca yd_Md_readWord.2.1 126 bk_Md_readWord_126 := qz_cab_ok _ _ (by decide +kernel)
theorem ca_Md_readWord_66 : qz_ca yd_Md_readWord.2.1 66 bk_Md_readWord_66 := qz_cab_ok _ _ (by decide +kernel)
theorem ca_Md_readWord_70 : qz_ca yd_Md_readWord.2.1 70 bk_Md_readWord_70 := qz_cab_ok _ _ (by decide +kernel)
theorem ca_Md_readWord_106 : qz_ca yd_Md_readWord.2.1 106 bk_Md_readWord_106 := qz_cab_ok _ _ (by decide +kernel)
theorem ca_Md_readWord_110 : qz_ca yd_Md_readWord.2.1 110 bk_Md_readWord_110 := qz_cab_ok _ _ (by decide +kernel)
set_option maxRecDepth 20000 in
theorem jb_Md_readWord_110 (G : qz_G) (k15 : Int → qz_H → Option qz_R) (jk15 : ∀ (l0 : Int) (h : qz_H), qz_J yd_Md_readWord G bk_Md_readWord_15 15 [qz_r true 12 l0, qz_u] [] h 0 0 (k15 l0 h)) (l0 : Int) (s0 : Int) (s1 : Int) (h : qz_H) : qz_J yd_Md_readWord G bk_Md_readWord_110 110 [qz_r true 12 l0, qz_u] [qz_j s1, qz_r true 12 s0] h 0 0 (fn_Md_readWord_110 k15 l0 s0 s1 h) := by
  unfold fn_Md_readWord_110 bk_Md_readWord_110; exact
    qz_putJ kw_12 fp_Md_244_Md_readWord rfl rfl fun h1 =>
    qz_aload_n rfl <|
    qz_dup rfl <|
    qz_getI kg_12 fl_Md_217 rfl rfl <|
    qz_iconst rfl <|
    qz_iadd <|
    qz_putI kw_12 fp_Md_217_Md_readWord rfl rfl fun h2 =>
    qz_goto rfl ca_Md_readWord_15 <|
    qz_fgt [1, 0] <| jk15 l0 h2
set_option maxRecDepth 20000 in
theorem jb_Md_readWord_106 (G : qz_G) (k15 : Int → qz_H → Option qz_R) (jk15 : ∀ (l0 : Int) (h : qz_H), qz_J yd_Md_readWord G bk_Md_readWord_15 15 [qz_r true 12 l0, qz_u] [] h 0 0 (k15 l0 h)) (l0 : Int) (s0 : Int) (h : qz_H) : qz_J yd_Md_readWord G bk_Md_readWord_106 106 [qz_r true 12 l0, qz_u] [qz_r true 12 s0] h 0 0 (fn_Md_readWord_106 k15 l0 s0 h) := by
  unfold fn_Md_readWord_106 bk_Md_readWord_106; exact
    qz_aload_n rfl <|
    qz_getJ kg_12 fl_Md_244 rfl rfl <|
    qz_fall rfl ca_Md_readWord_110 <|
    qz_fgt [1, 0] <| jb_Md_readWord_110 G k15 jk15 l0 s0 (h l0 37) h
set_option maxRecDepth 20000 in
theorem jb_Md_readWord_70 (G : qz_G) (k15 : Int → qz_H → Option qz_R) (jk15 : ∀ (l0 : Int) (h : qz_H), qz_J yd_Md_readWord G bk_Md_readWord_15 15 [qz_r true 12 l0, qz_u] [] h 0 0 (k15 l0 h)) (l0 : Int) (l1 : Int) (s0 : Int) (s1 : Int) (h : qz_H) : qz_J yd_Md_readWord G bk_Md_readWord_70 70 [qz_r true 12 l0, qz_i l1] [qz_j s1, qz_r true 12 s0] h 0 0 (fn_Md_readWord_70 k15 l0 l1 s0 s1 h) := by
  unfold fn_Md_readWord_70 bk_Md_readWord_70; exact
    qz_putJ kw_12 fp_Md_240_Md_readWord rfl rfl fun h1 =>
    qz_aload_n rfl <|
    qz_iload_n rfl <|
    qz_bipush rfl <|
    qz_icmp_lt rfl ca_Md_readWord_106
      (qz_fgt [1, 0] <| jb_Md_readWord_106 G k15 jk15 l0 l0 h1)
      (qz_iload_n rfl <|
        qz_bipush rfl <|
        qz_icmp_ge rfl ca_Md_readWord_106
          (qz_fgt [1, 0] <| jb_Md_readWord_106 G k15 jk15 l0 l0 h1)
          (qz_aload_n rfl <|
            qz_getJ kg_12 fl_Md_244 rfl rfl <|
            qz_bipush rfl <|
            qz_lshl <|
            qz_aload_n rfl <|
            qz_aload_n rfl <|
            qz_getI kg_12 fl_Md_217 rfl rfl <|
            qz_invvI [qz_i (h1 l0 32)] rfl (cn_Md_ch l0 (h1 l0 32) h1) mw_Md_ch vw_Md_ch ⟨_, rfl, rfl, by decide⟩ rfl rfl ln_Md_220 rfl fun r2 h3 =>
            qz_i2l <|
            qz_lor <|
            qz_goto rfl ca_Md_readWord_110 <|
            qz_fgt [1, 0] <| jb_Md_readWord_110 G k15 jk15 l0 l0 (qz_orJ (qz_shlJ (h1 l0 37) 8) r2) h3))
set_option maxRecDepth 20000 in
theorem jb_Md_readWord_15_b (G : qz_G) (k15 : Int → qz_H → Option qz_R) (jk15 : ∀ (l0 : Int) (h : qz_H), qz_J yd_Md_readWord G bk_Md_readWord_15 15 [qz_r true 12 l0, qz_u] [] h 0 0 (k15 l0 h)) (l0 : Int) (h : qz_H) : qz_J yd_Md_readWord G bk_Md_readWord_15 15 [qz_r true 12 l0, qz_u] [] h 0 0 (fn_Md_readWord_15_b k15 l0 h) := by
  unfold fn_Md_readWord_15_b bk_Md_readWord_15; exact
    qz_aload_n rfl <|
    qz_aload_n rfl <|
    qz_getI kg_12 fl_Md_217 rfl rfl <|
    qz_invvI [qz_i (h l0 32)] rfl (cn_Md_ch l0 (h l0 32) h) mw_Md_ch vw_Md_ch ⟨_, rfl, rfl, by decide⟩ rfl rfl ln_Md_220 rfl fun r1 h2 =>
    qz_invsI [qz_i r1] rfl (cn_Md_isSign r1 h2) mw_Md_isSign vs_Md_isSign rfl rfl ln_Md_234 rfl fun r3 h4 =>
    qz_if_eq rfl ca_Md_readWord_126
      (qz_aload_n rfl <|
        qz_aload_n rfl <|
        qz_getI kg_12 fl_Md_217 rfl rfl <|
        qz_aload_n rfl <|
        qz_getI kg_12 fl_Md_224 rfl rfl <|
        qz_isub <|
        qz_putI kw_12 fp_Md_247_Md_readWord rfl rfl fun h5 =>
        qz_return ⟨rfl, rfl⟩ rfl)
      (qz_aload_n rfl <|
        qz_getI kg_12 fl_Md_217 rfl rfl <|
        qz_aload_n rfl <|
        qz_getI kg_12 fl_Md_224 rfl rfl <|
        qz_isub <|
        qz_istore_n (by decide) fun x6 =>
        qz_aload_n rfl <|
        qz_iload_n rfl <|
        qz_bipush rfl <|
        qz_icmp_ge rfl ca_Md_readWord_66
          (qz_aload_n rfl <|
            qz_getJ kg_12 fl_Md_240 rfl rfl <|
            qz_fall rfl ca_Md_readWord_70 <|
            qz_fgt [1, 1] <| jb_Md_readWord_70 G k15 jk15 l0 x6 l0 (h4 l0 36) h4)
          (qz_aload_n rfl <|
            qz_getJ kg_12 fl_Md_240 rfl rfl <|
            qz_bipush rfl <|
            qz_lshl <|
            qz_aload_n rfl <|
            qz_aload_n rfl <|
            qz_getI kg_12 fl_Md_217 rfl rfl <|
            qz_invvI [qz_i (h4 l0 32)] rfl (cn_Md_ch l0 (h4 l0 32) h4) mw_Md_ch vw_Md_ch ⟨_, rfl, rfl, by decide⟩ rfl rfl ln_Md_220 rfl fun r7 h8 =>
            qz_i2l <|
            qz_lor <|
            qz_goto rfl ca_Md_readWord_70 <|
            qz_fgt [1, 1] <| jb_Md_readWord_70 G k15 jk15 l0 x6 l0 (qz_orJ (qz_shlJ (h4 l0 36) 8) r7) h8))
theorem jb_Md_readWord_15 (G : qz_G) : ∀ (n : Nat) (l0 : Int) (h : qz_H), qz_J yd_Md_readWord G bk_Md_readWord_15 15 [qz_r true 12 l0, qz_u] [] h 0 0 (fn_Md_readWord_15 n l0 h)
  | 0, _, _ => qz_none
  | n + 1, l0, h => jb_Md_readWord_15_b G (fn_Md_readWord_15 n) (jb_Md_readWord_15 G n) l0 h
set_option maxRecDepth 20000 in
theorem cn_Md_readWord (l0 : Int) (h : qz_H) : qz_C yd_Md_readWord [qz_r true 12 l0] h (fn_Md_readWord l0 h) := by
  refine qz_con (is := bk_Md_readWord_0) (ls := [qz_r true 12 l0, qz_u]) mw_Md_readWord.2.2.2 ca_Md_readWord_0 rfl rfl rfl fun G => ?_
  unfold fn_Md_readWord bk_Md_readWord_0; exact
    qz_aload_n rfl <|
    qz_iconst rfl <|
    qz_putI kw_12 fp_Md_231_Md_readWord rfl rfl fun h1 =>
    qz_aload_n rfl <|
    qz_lconst rfl <|
    qz_putJ kw_12 fp_Md_240_Md_readWord rfl rfl fun h2 =>
    qz_aload_n rfl <|
    qz_lconst rfl <|
    qz_putJ kw_12 fp_Md_244_Md_readWord rfl rfl fun h3 =>
    qz_fall rfl ca_Md_readWord_15 <|
    qz_fgt [1, 0] <| jb_Md_readWord_15 G qz_NF l0 h3
def fn_Md_next_252 (h : qz_H) : Option qz_R :=
  some (0, h)
def fn_Md_next_217 (l0 : Int) (s0 : Int) (s1 : Int) (h : qz_H) : Option qz_R :=
  qz_ck ((0 : Int) < s0) <|
  qz_bn (qz_up h s0 33 s1) fun h1 =>
  qz_ck ((0 : Int) < l0) <|
  qz_bn (qz_up h1 l0 32 (qz_w ((h1 l0 32) + 1))) fun h2 =>
  fn_Md_next_252 h2
def fn_Md_next_205 (l0 : Int) (l2 : Int) (h : qz_H) : Option qz_R :=
  if ¬ l2 = 40 then
    fn_Md_next_217 l0 l0 2 h
  else
    fn_Md_next_217 l0 l0 1 h
def fn_Md_next_40 (k2 : Int → Int → qz_H → Option qz_R) (l0 : Int) (l1 : Int) (h : qz_H) : Option qz_R :=
  qz_ck ((0 : Int) < l0) <|
  qz_bn (qz_up h l0 32 (qz_w ((h l0 32) + 1))) fun h1 =>
  k2 l0 l1 h1
def fn_Md_next_160 (k2 : Int → Int → qz_H → Option qz_R) (l0 : Int) (h : qz_H) : Option qz_R :=
  qz_bn (0 : Int) fun x1 =>
  k2 l0 x1 h
def fn_Md_next_119 (k2 : Int → Int → qz_H → Option qz_R) (l0 : Int) (l1 : Int) (h : qz_H) : Option qz_R :=
  qz_bc (fn_Md_ch l0 (h l0 32) h) fun r1 h2 =>
  if ¬ r1 = 40 then
    fn_Md_next_160 k2 l0 h2
  else
    qz_bc (fn_Md_ch l0 (qz_w ((h2 l0 32) + 1)) h2) fun r3 h4 =>
    if ¬ r3 = 59 then
      fn_Md_next_160 k2 l0 h4
    else
      qz_bc (fn_Md_comment l0 h4) fun r5 h6 =>
      if ¬ r5 = 0 then
        k2 l0 l1 h6
      else
        qz_ck ((0 : Int) < l0) <|
        qz_bn (qz_up h6 l0 33 4) fun h7 =>
        some (0, h7)
def fn_Md_next_81_b (k2 : Int → Int → qz_H → Option qz_R) (k81 : Int → Int → qz_H → Option qz_R) (l0 : Int) (l1 : Int) (h : qz_H) : Option qz_R :=
  if h l0 5 ≤ h l0 32 then
    k2 l0 l1 h
  else
    qz_ck ((h l0 6 : Int) ≠ 0) <|
    qz_ck ((0 : Int) ≤ h l0 32 ∧ h l0 32 < h (h l0 6) (-1)) <|
    if h (h l0 6) (h l0 32) = 10 then
      k2 l0 l1 h
    else
      qz_ck ((0 : Int) < l0) <|
      qz_bn (qz_up h l0 32 (qz_w ((h l0 32) + 1))) fun h1 =>
      k81 l0 l1 h1
def fn_Md_next_81 (k2 : Int → Int → qz_H → Option qz_R) : Nat → Int → Int → qz_H → Option qz_R
  | 0, _, _, _ => none
  | n + 1, l0, l1, h => fn_Md_next_81_b k2 (fn_Md_next_81 k2 n) l0 l1 h
def fn_Md_next_2_b (k2 : Int → Int → qz_H → Option qz_R) (l0 : Int) (l1 : Int) (h : qz_H) : Option qz_R :=
  if l1 = 0 then
    qz_bc (fn_Md_ch l0 (h l0 32) h) fun r1 h2 =>
    qz_bn (r1 : Int) fun x3 =>
    if h2 l0 32 < h2 l0 5 then
      if x3 = 40 then
        fn_Md_next_205 l0 x3 h2
      else
        if ¬ x3 = 41 then
          qz_bc (fn_Md_isSign x3 h2) fun r4 h5 =>
          if r4 = 0 then
            qz_ck ((0 : Int) < l0) <|
            qz_bn (qz_up h5 l0 33 4) fun h6 =>
            fn_Md_next_252 h6
          else
            qz_bc (fn_Md_readWord l0 h5) fun _ h8 =>
            fn_Md_next_252 h8
        else
          fn_Md_next_205 l0 x3 h2
    else
      qz_ck ((0 : Int) < l0) <|
      qz_bn (qz_up h2 l0 33 0) fun h9 =>
      fn_Md_next_252 h9
  else
    qz_ck ((0 : Int) < l0) <|
    qz_bn (qz_up h l0 34 (h l0 32)) fun h10 =>
    qz_bc (fn_Md_ch l0 (h10 l0 32) h10) fun r11 h12 =>
    if r11 = 32 then
      fn_Md_next_40 k2 l0 l1 h12
    else
      qz_bc (fn_Md_ch l0 (h12 l0 32) h12) fun r13 h14 =>
      if ¬ r13 = 10 then
        qz_bc (fn_Md_ch l0 (h14 l0 32) h14) fun r15 h16 =>
        if ¬ r15 = 59 then
          fn_Md_next_119 k2 l0 l1 h16
        else
          qz_bc (fn_Md_ch l0 (qz_w ((h16 l0 32) + 1)) h16) fun r17 h18 =>
          if ¬ r17 = 59 then
            fn_Md_next_119 k2 l0 l1 h18
          else
            fn_Md_next_81 k2 qz_NF l0 l1 h18
      else
        fn_Md_next_40 k2 l0 l1 h14
def fn_Md_next_2 : Nat → Int → Int → qz_H → Option qz_R
  | 0, _, _, _ => none
  | n + 1, l0, l1, h => fn_Md_next_2_b (fn_Md_next_2 n) l0 l1 h
set_option maxRecDepth 20000 in
def fn_Md_next (l0 : Int) (h : qz_H) : Option qz_R :=
  qz_bn (1 : Int) fun x1 =>
  fn_Md_next_2 qz_NF l0 x1 h
def bk_Md_next_0 : List (Instr × Nat) := [(.iconst 1, 1), (.istore_n 1, 1)]
def bk_Md_next_2 : List (Instr × Nat) := [(.iload_n 1, 1), (.ifCond .eq 162, 3), (.aload_n 0, 1), (.aload_n 0, 1), (.getfield 217, 3), (.putfield 224, 3), (.aload_n 0, 1), (.aload_n 0, 1), (.getfield 217, 3), (.invokevirtual 220, 3), (.bipush 32, 2), (.if_icmp .eq 16, 3), (.aload_n 0, 1), (.aload_n 0, 1), (.getfield 217, 3), (.invokevirtual 220, 3), (.bipush 10, 2), (.if_icmp .ne 16, 3)]
def bk_Md_next_165 : List (Instr × Nat) := [(.aload_n 0, 1), (.aload_n 0, 1), (.getfield 217, 3), (.invokevirtual 220, 3), (.istore_n 2, 1), (.aload_n 0, 1), (.getfield 217, 3), (.aload_n 0, 1), (.getfield 210, 3), (.if_icmp .lt 11, 3), (.aload_n 0, 1), (.iconst 0, 1), (.putfield 231, 3), (.goto 62, 3)]
def bk_Md_next_193 : List (Instr × Nat) := [(.iload_n 2, 1), (.bipush 40, 2), (.if_icmp .eq 9, 3), (.iload_n 2, 1), (.bipush 41, 2), (.if_icmp .ne 31, 3)]
def bk_Md_next_205 : List (Instr × Nat) := [(.aload_n 0, 1), (.iload_n 2, 1), (.bipush 40, 2), (.if_icmp .ne 7, 3), (.iconst 1, 1), (.goto 4, 3)]
def bk_Md_next_233 : List (Instr × Nat) := [(.iload_n 2, 1), (.invokestatic 234, 3), (.ifCond .eq 10, 3), (.aload_n 0, 1), (.invokevirtual 237, 3), (.goto 8, 3)]
def bk_Md_next_247 : List (Instr × Nat) := [(.aload_n 0, 1), (.iconst 4, 1), (.putfield 231, 3)]
def bk_Md_next_252 : List (Instr × Nat) := [(.return_, 1)]
def bk_Md_next_40 : List (Instr × Nat) := [(.aload_n 0, 1), (.dup, 1), (.getfield 217, 3), (.iconst 1, 1), (.iadd, 1), (.putfield 217, 3), (.goto (-48), 3)]
def bk_Md_next_53 : List (Instr × Nat) := [(.aload_n 0, 1), (.aload_n 0, 1), (.getfield 217, 3), (.invokevirtual 220, 3), (.bipush 59, 2), (.if_icmp .ne 56, 3), (.aload_n 0, 1), (.aload_n 0, 1), (.getfield 217, 3), (.iconst 1, 1), (.iadd, 1), (.invokevirtual 220, 3), (.bipush 59, 2), (.if_icmp .ne 41, 3)]
def bk_Md_next_119 : List (Instr × Nat) := [(.aload_n 0, 1), (.aload_n 0, 1), (.getfield 217, 3), (.invokevirtual 220, 3), (.bipush 40, 2), (.if_icmp .ne 31, 3), (.aload_n 0, 1), (.aload_n 0, 1), (.getfield 217, 3), (.iconst 1, 1), (.iadd, 1), (.invokevirtual 220, 3), (.bipush 59, 2), (.if_icmp .ne 16, 3), (.aload_n 0, 1), (.invokevirtual 227, 3), (.ifCond .ne (-149), 3), (.aload_n 0, 1), (.iconst 4, 1), (.putfield 231, 3), (.return_, 1)]
def bk_Md_next_81 : List (Instr × Nat) := [(.aload_n 0, 1), (.getfield 217, 3), (.aload_n 0, 1), (.getfield 210, 3), (.if_icmp .ge (-87), 3), (.aload_n 0, 1), (.getfield 90, 3), (.aload_n 0, 1), (.getfield 217, 3), (.caload, 1), (.bipush 10, 2), (.if_icmp .eq (-101), 3), (.aload_n 0, 1), (.dup, 1), (.getfield 217, 3), (.iconst 1, 1), (.iadd, 1), (.putfield 217, 3), (.goto (-35), 3)]
def bk_Md_next_216 : List (Instr × Nat) := [(.iconst 2, 1)]
def bk_Md_next_217 : List (Instr × Nat) := [(.putfield 231, 3), (.aload_n 0, 1), (.dup, 1), (.getfield 217, 3), (.iconst 1, 1), (.iadd, 1), (.putfield 217, 3), (.goto 22, 3)]
def bk_Md_next_160 : List (Instr × Nat) := [(.iconst 0, 1), (.istore_n 1, 1), (.goto (-160), 3)]
theorem ca_Md_next_0 : qz_ca yd_Md_next.2.1 0 bk_Md_next_0 := qz_cab_ok _ _ (by decide +kernel)
theorem ca_Md_next_2 : qz_ca yd_Md_next.2.1 2 bk_Md_next_2 := qz_cab_ok _ _ (by decide +kernel)
theorem ca_Md_next_165 : qz_ca yd_Md_next.2.1 165 bk_Md_next_165 := qz_cab_ok _ _ (by decide +kernel)
theorem ca_Md_next_193 : qz_ca yd_Md_next.2.1 193 bk_Md_next_193 := qz_cab_ok _ _ (by decide +kernel)
theorem ca_Md_next_205 : qz_ca yd_Md_next.2.1 205 bk_Md_next_205 := qz_cab_ok _ _ (by decide +kernel)
theorem ca_Md_next_233 : qz_ca yd_Md_next.2.1 233 bk_Md_next_233 := qz_cab_ok _ _ (by decide +kernel)
theorem ca_Md_next_247 : qz_ca yd_Md_next.2.1 247 bk_Md_next_247 := qz_cab_ok _ _ (by decide +kernel)
theorem ca_Md_next_252 : qz_ca yd_Md_next.2.1 252 bk_Md_next_252 := qz_cab_ok _ _ (by decide +kernel)
theorem ca_Md_next_40 : qz_ca yd_Md_next.2.1 40 bk_Md_next_40 := qz_cab_ok _ _ (by decide +kernel)
theorem ca_Md_next_53 : qz_ca yd_Md_next.2.1 53 bk_Md_next_53 := qz_cab_ok _ _ (by decide +kernel)
theorem ca_Md_next_119 : qz_ca yd_Md_next.2.1 119 bk_Md_next_119 := qz_cab_ok _ _ (by decide +kernel)
theorem ca_Md_next_81 : qz_ca yd_Md_next.2.1 81 bk_Md_next_81 := qz_cab_ok _ _ (by decide +kernel)
theorem ca_Md_next_216 : qz_ca yd_Md_next.2.1 216 bk_Md_next_216 := qz_cab_ok _ _ (by decide +kernel)
theorem ca_Md_next_217 : qz_ca yd_Md_next.2.1 217 bk_Md_next_217 := qz_cab_ok _ _ (by decide +kernel)
theorem ca_Md_next_160 : qz_ca yd_Md_next.2.1 160 bk_Md_next_160 := qz_cab_ok _ _ (by decide +kernel)
set_option maxRecDepth 20000 in
theorem jb_Md_next_252 (G : qz_G) (h : qz_H) : qz_J yd_Md_next G bk_Md_next_252 252 [qz_u, qz_u, qz_u] [] h 0 0 (fn_Md_next_252 h) := by
  unfold fn_Md_next_252 bk_Md_next_252; exact
    qz_return ⟨rfl, rfl⟩ rfl
set_option maxRecDepth 20000 in
theorem jb_Md_next_217 (G : qz_G) (l0 : Int) (s0 : Int) (s1 : Int) (h : qz_H) : qz_J yd_Md_next G bk_Md_next_217 217 [qz_r true 12 l0, qz_u, qz_u] [qz_i s1, qz_r true 12 s0] h 0 0 (fn_Md_next_217 l0 s0 s1 h) := by
  unfold fn_Md_next_217 bk_Md_next_217; exact
    qz_putI kw_12 fp_Md_231_Md_next rfl rfl fun h1 =>
    qz_aload_n rfl <|
    qz_dup rfl <|
    qz_getI kg_12 fl_Md_217 rfl rfl <|
    qz_iconst rfl <|
    qz_iadd <|
    qz_putI kw_12 fp_Md_217_Md_next rfl rfl fun h2 =>
    qz_goto rfl ca_Md_next_252 <|
    qz_fgt [0, 0, 0] <| jb_Md_next_252 G h2
set_option maxRecDepth 20000 in
theorem jb_Md_next_205 (G : qz_G) (l0 : Int) (l2 : Int) (h : qz_H) : qz_J yd_Md_next G bk_Md_next_205 205 [qz_r true 12 l0, qz_u, qz_i l2] [] h 0 0 (fn_Md_next_205 l0 l2 h) := by
  unfold fn_Md_next_205 bk_Md_next_205; exact
    qz_aload_n rfl <|
    qz_iload_n rfl <|
    qz_bipush rfl <|
    qz_icmp_ne rfl ca_Md_next_216
      (qz_iconst rfl <|
        qz_fall rfl ca_Md_next_217 <|
        qz_fgt [1, 0, 0] <| jb_Md_next_217 G l0 l0 2 h)
      (qz_iconst rfl <|
        qz_goto rfl ca_Md_next_217 <|
        qz_fgt [1, 0, 0] <| jb_Md_next_217 G l0 l0 1 h)
set_option maxRecDepth 20000 in
theorem jb_Md_next_40 (G : qz_G) (k2 : Int → Int → qz_H → Option qz_R) (jk2 : ∀ (l0 : Int) (l1 : Int) (h : qz_H), qz_J yd_Md_next G bk_Md_next_2 2 [qz_r true 12 l0, qz_i l1, qz_u] [] h 0 0 (k2 l0 l1 h)) (l0 : Int) (l1 : Int) (h : qz_H) : qz_J yd_Md_next G bk_Md_next_40 40 [qz_r true 12 l0, qz_i l1, qz_u] [] h 0 0 (fn_Md_next_40 k2 l0 l1 h) := by
  unfold fn_Md_next_40 bk_Md_next_40; exact
    qz_aload_n rfl <|
    qz_dup rfl <|
    qz_getI kg_12 fl_Md_217 rfl rfl <|
    qz_iconst rfl <|
    qz_iadd <|
    qz_putI kw_12 fp_Md_217_Md_next rfl rfl fun h1 =>
    qz_goto rfl ca_Md_next_2 <|
    qz_fgt [1, 1, 0] <| jk2 l0 l1 h1
set_option maxRecDepth 20000 in
theorem jb_Md_next_160 (G : qz_G) (k2 : Int → Int → qz_H → Option qz_R) (jk2 : ∀ (l0 : Int) (l1 : Int) (h : qz_H), qz_J yd_Md_next G bk_Md_next_2 2 [qz_r true 12 l0, qz_i l1, qz_u] [] h 0 0 (k2 l0 l1 h)) (l0 : Int) (h : qz_H) : qz_J yd_Md_next G bk_Md_next_160 160 [qz_r true 12 l0, qz_u, qz_u] [] h 0 0 (fn_Md_next_160 k2 l0 h) := by
  unfold fn_Md_next_160 bk_Md_next_160; exact
    qz_iconst rfl <|
    qz_istore_n (by decide) fun x1 =>
    qz_goto rfl ca_Md_next_2 <|
    qz_fgt [1, 1, 0] <| jk2 l0 x1 h
set_option maxRecDepth 20000 in
theorem jb_Md_next_119 (G : qz_G) (k2 : Int → Int → qz_H → Option qz_R) (jk2 : ∀ (l0 : Int) (l1 : Int) (h : qz_H), qz_J yd_Md_next G bk_Md_next_2 2 [qz_r true 12 l0, qz_i l1, qz_u] [] h 0 0 (k2 l0 l1 h)) (l0 : Int) (l1 : Int) (h : qz_H) : qz_J yd_Md_next G bk_Md_next_119 119 [qz_r true 12 l0, qz_i l1, qz_u] [] h 0 0 (fn_Md_next_119 k2 l0 l1 h) := by
  unfold fn_Md_next_119 bk_Md_next_119; exact
    qz_aload_n rfl <|
    qz_aload_n rfl <|
    qz_getI kg_12 fl_Md_217 rfl rfl <|
    qz_invvI [qz_i (h l0 32)] rfl (cn_Md_ch l0 (h l0 32) h) mw_Md_ch vw_Md_ch ⟨_, rfl, rfl, by decide⟩ rfl rfl ln_Md_220 rfl fun r1 h2 =>
    qz_bipush rfl <|
    qz_icmp_ne rfl ca_Md_next_160
      (qz_fgt [1, 0, 0] <| jb_Md_next_160 G k2 jk2 l0 h2)
      (qz_aload_n rfl <|
        qz_aload_n rfl <|
        qz_getI kg_12 fl_Md_217 rfl rfl <|
        qz_iconst rfl <|
        qz_iadd <|
        qz_invvI [qz_i (qz_w ((h2 l0 32) + 1))] rfl (cn_Md_ch l0 (qz_w ((h2 l0 32) + 1)) h2) mw_Md_ch vw_Md_ch ⟨_, rfl, rfl, by decide⟩ rfl rfl ln_Md_220 rfl fun r3 h4 =>
        qz_bipush rfl <|
        qz_icmp_ne rfl ca_Md_next_160
          (qz_fgt [1, 0, 0] <| jb_Md_next_160 G k2 jk2 l0 h4)
          (qz_aload_n rfl <|
            qz_invvI [] rfl (cn_Md_comment l0 h4) mw_Md_comment vw_Md_comment ⟨_, rfl, rfl, by decide⟩ rfl rfl ln_Md_227 rfl fun r5 h6 =>
            qz_if_ne rfl ca_Md_next_2
              (qz_fgt [1, 1, 0] <| jk2 l0 l1 h6)
              (qz_aload_n rfl <|
                qz_iconst rfl <|
                qz_putI kw_12 fp_Md_231_Md_next rfl rfl fun h7 =>
                qz_return ⟨rfl, rfl⟩ rfl)))
set_option maxRecDepth 20000 in
theorem jb_Md_next_81_b (G : qz_G) (k2 : Int → Int → qz_H → Option qz_R) (jk2 : ∀ (l0 : Int) (l1 : Int) (h : qz_H), qz_J yd_Md_next G bk_Md_next_2 2 [qz_r true 12 l0, qz_i l1, qz_u] [] h 0 0 (k2 l0 l1 h)) (k81 : Int → Int → qz_H → Option qz_R) (jk81 : ∀ (l0 : Int) (l1 : Int) (h : qz_H), qz_J yd_Md_next G bk_Md_next_81 81 [qz_r true 12 l0, qz_i l1, qz_u] [] h 0 0 (k81 l0 l1 h)) (l0 : Int) (l1 : Int) (h : qz_H) : qz_J yd_Md_next G bk_Md_next_81 81 [qz_r true 12 l0, qz_i l1, qz_u] [] h 0 0 (fn_Md_next_81_b k2 k81 l0 l1 h) := by
  unfold fn_Md_next_81_b bk_Md_next_81; exact
    qz_aload_n rfl <|
    qz_getI kg_12 fl_Md_217 rfl rfl <|
    qz_aload_n rfl <|
    qz_getI kg_12 fl_Md_210 rfl rfl <|
    qz_icmp_ge rfl ca_Md_next_2
      (qz_fgt [1, 1, 0] <| jk2 l0 l1 h)
      (qz_aload_n rfl <|
        qz_getR (k1 := 42) kg_12 fl_Md_90 rfl rfl <|
        qz_aload_n rfl <|
        qz_getI kg_12 fl_Md_217 rfl rfl <|
        qz_nnd 1 rfl <|
        qz_cald (k0 := 42) rfl rfl rfl <|
        qz_bipush rfl <|
        qz_icmp_eq rfl ca_Md_next_2
          (qz_fgt [1, 1, 0] <| jk2 l0 l1 h)
          (qz_aload_n rfl <|
            qz_dup rfl <|
            qz_getI kg_12 fl_Md_217 rfl rfl <|
            qz_iconst rfl <|
            qz_iadd <|
            qz_putI kw_12 fp_Md_217_Md_next rfl rfl fun h1 =>
            qz_goto rfl ca_Md_next_81 <|
            qz_fgt [1, 1, 0] <| jk81 l0 l1 h1))
theorem jb_Md_next_81 (G : qz_G) (k2 : Int → Int → qz_H → Option qz_R) (jk2 : ∀ (l0 : Int) (l1 : Int) (h : qz_H), qz_J yd_Md_next G bk_Md_next_2 2 [qz_r true 12 l0, qz_i l1, qz_u] [] h 0 0 (k2 l0 l1 h)) : ∀ (n : Nat) (l0 l1 : Int) (h : qz_H), qz_J yd_Md_next G bk_Md_next_81 81 [qz_r true 12 l0, qz_i l1, qz_u] [] h 0 0 (fn_Md_next_81 k2 n l0 l1 h)
  | 0, _, _, _ => qz_none
  | n + 1, l0, l1, h => jb_Md_next_81_b G k2 jk2 (fn_Md_next_81 k2 n) (jb_Md_next_81 G k2 jk2 n) l0 l1 h
set_option maxRecDepth 20000 in
theorem jb_Md_next_2_b (G : qz_G) (k2 : Int → Int → qz_H → Option qz_R) (jk2 : ∀ (l0 : Int) (l1 : Int) (h : qz_H), qz_J yd_Md_next G bk_Md_next_2 2 [qz_r true 12 l0, qz_i l1, qz_u] [] h 0 0 (k2 l0 l1 h)) (l0 : Int) (l1 : Int) (h : qz_H) : qz_J yd_Md_next G bk_Md_next_2 2 [qz_r true 12 l0, qz_i l1, qz_u] [] h 0 0 (fn_Md_next_2_b k2 l0 l1 h) := by
  unfold fn_Md_next_2_b bk_Md_next_2; exact
    qz_iload_n rfl <|
    qz_if_eq rfl ca_Md_next_165
      (qz_aload_n rfl <|
        qz_aload_n rfl <|
        qz_getI kg_12 fl_Md_217 rfl rfl <|
        qz_invvI [qz_i (h l0 32)] rfl (cn_Md_ch l0 (h l0 32) h) mw_Md_ch vw_Md_ch ⟨_, rfl, rfl, by decide⟩ rfl rfl ln_Md_220 rfl fun r1 h2 =>
        qz_istore_n (by decide) fun x3 =>
        qz_aload_n rfl <|
        qz_getI kg_12 fl_Md_217 rfl rfl <|
        qz_aload_n rfl <|
        qz_getI kg_12 fl_Md_210 rfl rfl <|
        qz_icmp_lt rfl ca_Md_next_193
          (qz_iload_n rfl <|
            qz_bipush rfl <|
            qz_icmp_eq rfl ca_Md_next_205
              (qz_fgt [1, 0, 1] <| jb_Md_next_205 G l0 x3 h2)
              (qz_iload_n rfl <|
                qz_bipush rfl <|
                qz_icmp_ne rfl ca_Md_next_233
                  (qz_iload_n rfl <|
                    qz_invsI [qz_i x3] rfl (cn_Md_isSign x3 h2) mw_Md_isSign vs_Md_isSign rfl rfl ln_Md_234 rfl fun r4 h5 =>
                    qz_if_eq rfl ca_Md_next_247
                      (qz_aload_n rfl <|
                        qz_iconst rfl <|
                        qz_putI kw_12 fp_Md_231_Md_next rfl rfl fun h6 =>
                        qz_fall rfl ca_Md_next_252 <|
                        qz_fgt [0, 0, 0] <| jb_Md_next_252 G h6)
                      (qz_aload_n rfl <|
                        qz_invvV [] rfl (cn_Md_readWord l0 h5) mw_Md_readWord vw_Md_readWord ⟨_, rfl, rfl, by decide⟩ rfl rfl ln_Md_237 rfl fun _ h8 =>
                        qz_goto rfl ca_Md_next_252 <|
                        qz_fgt [0, 0, 0] <| jb_Md_next_252 G h8))
                  (qz_fall rfl ca_Md_next_205 <|
                    qz_fgt [1, 0, 1] <| jb_Md_next_205 G l0 x3 h2)))
          (qz_aload_n rfl <|
            qz_iconst rfl <|
            qz_putI kw_12 fp_Md_231_Md_next rfl rfl fun h9 =>
            qz_goto rfl ca_Md_next_252 <|
            qz_fgt [0, 0, 0] <| jb_Md_next_252 G h9))
      (qz_aload_n rfl <|
        qz_aload_n rfl <|
        qz_getI kg_12 fl_Md_217 rfl rfl <|
        qz_putI kw_12 fp_Md_224_Md_next rfl rfl fun h10 =>
        qz_aload_n rfl <|
        qz_aload_n rfl <|
        qz_getI kg_12 fl_Md_217 rfl rfl <|
        qz_invvI [qz_i (h10 l0 32)] rfl (cn_Md_ch l0 (h10 l0 32) h10) mw_Md_ch vw_Md_ch ⟨_, rfl, rfl, by decide⟩ rfl rfl ln_Md_220 rfl fun r11 h12 =>
        qz_bipush rfl <|
        qz_icmp_eq rfl ca_Md_next_40
          (qz_fgt [1, 1, 0] <| jb_Md_next_40 G k2 jk2 l0 l1 h12)
          (qz_aload_n rfl <|
            qz_aload_n rfl <|
            qz_getI kg_12 fl_Md_217 rfl rfl <|
            qz_invvI [qz_i (h12 l0 32)] rfl (cn_Md_ch l0 (h12 l0 32) h12) mw_Md_ch vw_Md_ch ⟨_, rfl, rfl, by decide⟩ rfl rfl ln_Md_220 rfl fun r13 h14 =>
            qz_bipush rfl <|
            qz_icmp_ne rfl ca_Md_next_53
              (qz_aload_n rfl <|
                qz_aload_n rfl <|
                qz_getI kg_12 fl_Md_217 rfl rfl <|
                qz_invvI [qz_i (h14 l0 32)] rfl (cn_Md_ch l0 (h14 l0 32) h14) mw_Md_ch vw_Md_ch ⟨_, rfl, rfl, by decide⟩ rfl rfl ln_Md_220 rfl fun r15 h16 =>
                qz_bipush rfl <|
                qz_icmp_ne rfl ca_Md_next_119
                  (qz_fgt [1, 1, 0] <| jb_Md_next_119 G k2 jk2 l0 l1 h16)
                  (qz_aload_n rfl <|
                    qz_aload_n rfl <|
                    qz_getI kg_12 fl_Md_217 rfl rfl <|
                    qz_iconst rfl <|
                    qz_iadd <|
                    qz_invvI [qz_i (qz_w ((h16 l0 32) + 1))] rfl (cn_Md_ch l0 (qz_w ((h16 l0 32) + 1)) h16) mw_Md_ch vw_Md_ch ⟨_, rfl, rfl, by decide⟩ rfl rfl ln_Md_220 rfl fun r17 h18 =>
                    qz_bipush rfl <|
                    qz_icmp_ne rfl ca_Md_next_119
                      (qz_fgt [1, 1, 0] <| jb_Md_next_119 G k2 jk2 l0 l1 h18)
                      (qz_fall rfl ca_Md_next_81 <|
                        qz_fgt [1, 1, 0] <| jb_Md_next_81 G k2 jk2 qz_NF l0 l1 h18)))
              (qz_fall rfl ca_Md_next_40 <|
                qz_fgt [1, 1, 0] <| jb_Md_next_40 G k2 jk2 l0 l1 h14)))
theorem jb_Md_next_2 (G : qz_G) : ∀ (n : Nat) (l0 l1 : Int) (h : qz_H), qz_J yd_Md_next G bk_Md_next_2 2 [qz_r true 12 l0, qz_i l1, qz_u] [] h 0 0 (fn_Md_next_2 n l0 l1 h)
  | 0, _, _, _ => qz_none
  | n + 1, l0, l1, h => jb_Md_next_2_b G (fn_Md_next_2 n) (jb_Md_next_2 G n) l0 l1 h
set_option maxRecDepth 20000 in
theorem cn_Md_next (l0 : Int) (h : qz_H) : qz_C yd_Md_next [qz_r true 12 l0] h (fn_Md_next l0 h) := by
  refine qz_con (is := bk_Md_next_0) (ls := [qz_r true 12 l0, qz_u, qz_u]) mw_Md_next.2.2.2 ca_Md_next_0 rfl rfl rfl fun G => ?_
  unfold fn_Md_next bk_Md_next_0; exact
    qz_iconst rfl <|
    qz_istore_n (by decide) fun x1 =>
    qz_fall rfl ca_Md_next_2 <|
    qz_fgt [1, 1, 0] <| jb_Md_next_2 G qz_NF l0 x1 h
def fn_Md_is_39 (s0 : Int) (h : qz_H) : Option qz_R :=
  qz_ck ((s0 : Int) = 0 ∨ (s0 : Int) = 1) (some (s0, h))
def fn_Md_is_38 (h : qz_H) : Option qz_R :=
  fn_Md_is_39 0 h
set_option maxRecDepth 20000 in
def fn_Md_is (l0 : Int) (l1 : Int) (l3 : Int) (h : qz_H) : Option qz_R :=
  if ¬ h l0 33 = 3 then
    fn_Md_is_38 h
  else
    if ¬ h l0 35 = l3 then
      fn_Md_is_38 h
    else
      if ¬ qz_cmp (h l0 36) l1 = 0 then
        fn_Md_is_38 h
      else
        if ¬ qz_cmp (h l0 37) 0 = 0 then
          fn_Md_is_38 h
        else
          fn_Md_is_39 1 h
def bk_Md_is_0 : List (Instr × Nat) := [(.aload_n 0, 1), (.getfield 231, 3), (.iconst 3, 1), (.if_icmp .ne 33, 3), (.aload_n 0, 1), (.getfield 247, 3), (.iload_n 3, 1), (.if_icmp .ne 25, 3), (.aload_n 0, 1), (.getfield 240, 3), (.lload_n 1, 1), (.lcmp, 1), (.ifCond .ne 16, 3), (.aload_n 0, 1), (.getfield 244, 3), (.lconst 0, 1), (.lcmp, 1), (.ifCond .ne 7, 3), (.iconst 1, 1), (.goto 4, 3)]
def bk_Md_is_38 : List (Instr × Nat) := [(.iconst 0, 1)]
def bk_Md_is_39 : List (Instr × Nat) := [(.ireturn, 1)]
theorem ca_Md_is_0 : qz_ca yd_Md_is.2.1 0 bk_Md_is_0 := qz_cab_ok _ _ (by decide +kernel)
theorem ca_Md_is_38 : qz_ca yd_Md_is.2.1 38 bk_Md_is_38 := qz_cab_ok _ _ (by decide +kernel)
theorem ca_Md_is_39 : qz_ca yd_Md_is.2.1 39 bk_Md_is_39 := qz_cab_ok _ _ (by decide +kernel)
set_option maxRecDepth 20000 in
theorem jb_Md_is_39 (G : qz_G) (s0 : Int) (h : qz_H) : qz_J yd_Md_is G bk_Md_is_39 39 [qz_u, qz_u, qz_u, qz_u] [qz_i s0] h 0 0 (fn_Md_is_39 s0 h) := by
  unfold fn_Md_is_39 bk_Md_is_39; exact
    qz_zreturn ⟨rfl, rfl⟩ rfl
set_option maxRecDepth 20000 in
theorem jb_Md_is_38 (G : qz_G) (h : qz_H) : qz_J yd_Md_is G bk_Md_is_38 38 [qz_u, qz_u, qz_u, qz_u] [] h 0 0 (fn_Md_is_38 h) := by
  unfold fn_Md_is_38 bk_Md_is_38; exact
    qz_iconst rfl <|
    qz_fall rfl ca_Md_is_39 <|
    qz_fgt [0, 0, 0, 0] <| jb_Md_is_39 G 0 h
set_option maxRecDepth 20000 in
theorem cn_Md_is (l0 : Int) (l1 : Int) (l3 : Int) (h : qz_H) : qz_C yd_Md_is [qz_r true 12 l0, qz_j l1, qz_i l3] h (fn_Md_is l0 l1 l3 h) := by
  refine qz_con (is := bk_Md_is_0) (ls := [qz_r true 12 l0, qz_j l1, qz_u, qz_i l3]) mw_Md_is.2.2.2 ca_Md_is_0 rfl rfl rfl fun G => ?_
  unfold fn_Md_is bk_Md_is_0; exact
    qz_aload_n rfl <|
    qz_getI kg_12 fl_Md_231 rfl rfl <|
    qz_iconst rfl <|
    qz_icmp_ne rfl ca_Md_is_38
      (qz_fgt [0, 0, 0, 0] <| jb_Md_is_38 G h)
      (qz_aload_n rfl <|
        qz_getI kg_12 fl_Md_247 rfl rfl <|
        qz_iload_n rfl <|
        qz_icmp_ne rfl ca_Md_is_38
          (qz_fgt [0, 0, 0, 0] <| jb_Md_is_38 G h)
          (qz_aload_n rfl <|
            qz_getJ kg_12 fl_Md_240 rfl rfl <|
            qz_lload_n rfl <|
            qz_lcmp <|
            qz_if_ne rfl ca_Md_is_38
              (qz_fgt [0, 0, 0, 0] <| jb_Md_is_38 G h)
              (qz_aload_n rfl <|
                qz_getJ kg_12 fl_Md_244 rfl rfl <|
                qz_lconst rfl <|
                qz_lcmp <|
                qz_if_ne rfl ca_Md_is_38
                  (qz_fgt [0, 0, 0, 0] <| jb_Md_is_38 G h)
                  (qz_iconst rfl <|
                    qz_goto rfl ca_Md_is_39 <|
                    qz_fgt [0, 0, 0, 0] <| jb_Md_is_39 G 1 h))))
def fn_Md_isId_35 (s0 : Int) (h : qz_H) : Option qz_R :=
  qz_ck ((s0 : Int) = 0 ∨ (s0 : Int) = 1) (some (s0, h))
def fn_Md_isId_34 (h : qz_H) : Option qz_R :=
  fn_Md_isId_35 0 h
set_option maxRecDepth 20000 in
def fn_Md_isId (l0 : Int) (h : qz_H) : Option qz_R :=
  if ¬ h l0 33 = 3 then
    fn_Md_isId_34 h
  else
    if h l0 35 ≤ 1 then
      fn_Md_isId_34 h
    else
      qz_ck ((h l0 6 : Int) ≠ 0) <|
      qz_ck ((0 : Int) ≤ h l0 34 ∧ h l0 34 < h (h l0 6) (-1)) <|
      if ¬ h (h l0 6) (h l0 34) = 36 then
        fn_Md_isId_34 h
      else
        fn_Md_isId_35 1 h
def bk_Md_isId_0 : List (Instr × Nat) := [(.aload_n 0, 1), (.getfield 231, 3), (.iconst 3, 1), (.if_icmp .ne 29, 3), (.aload_n 0, 1), (.getfield 247, 3), (.iconst 1, 1), (.if_icmp .le 21, 3), (.aload_n 0, 1), (.getfield 90, 3), (.aload_n 0, 1), (.getfield 224, 3), (.caload, 1), (.bipush 36, 2), (.if_icmp .ne 7, 3), (.iconst 1, 1), (.goto 4, 3)]
def bk_Md_isId_34 : List (Instr × Nat) := [(.iconst 0, 1)]
def bk_Md_isId_35 : List (Instr × Nat) := [(.ireturn, 1)]
theorem ca_Md_isId_0 : qz_ca yd_Md_isId.2.1 0 bk_Md_isId_0 := qz_cab_ok _ _ (by decide +kernel)
theorem ca_Md_isId_34 : qz_ca yd_Md_isId.2.1 34 bk_Md_isId_34 := qz_cab_ok _ _ (by decide +kernel)
theorem ca_Md_isId_35 : qz_ca yd_Md_isId.2.1 35 bk_Md_isId_35 := qz_cab_ok _ _ (by decide +kernel)
set_option maxRecDepth 20000 in
theorem jb_Md_isId_35 (G : qz_G) (s0 : Int) (h : qz_H) : qz_J yd_Md_isId G bk_Md_isId_35 35 [qz_u] [qz_i s0] h 0 0 (fn_Md_isId_35 s0 h) := by
  unfold fn_Md_isId_35 bk_Md_isId_35; exact
    qz_zreturn ⟨rfl, rfl⟩ rfl
set_option maxRecDepth 20000 in
theorem jb_Md_isId_34 (G : qz_G) (h : qz_H) : qz_J yd_Md_isId G bk_Md_isId_34 34 [qz_u] [] h 0 0 (fn_Md_isId_34 h) := by
  unfold fn_Md_isId_34 bk_Md_isId_34; exact
    qz_iconst rfl <|
    qz_fall rfl ca_Md_isId_35 <|
    qz_fgt [0] <| jb_Md_isId_35 G 0 h
set_option maxRecDepth 20000 in
theorem cn_Md_isId (l0 : Int) (h : qz_H) : qz_C yd_Md_isId [qz_r true 12 l0] h (fn_Md_isId l0 h) := by
  refine qz_con (is := bk_Md_isId_0) (ls := [qz_r true 12 l0]) mw_Md_isId.2.2.2 ca_Md_isId_0 rfl rfl rfl fun G => ?_
  unfold fn_Md_isId bk_Md_isId_0; exact
    qz_aload_n rfl <|
    qz_getI kg_12 fl_Md_231 rfl rfl <|
    qz_iconst rfl <|
    qz_icmp_ne rfl ca_Md_isId_34
      (qz_fgt [0] <| jb_Md_isId_34 G h)
      (qz_aload_n rfl <|
        qz_getI kg_12 fl_Md_247 rfl rfl <|
        qz_iconst rfl <|
        qz_icmp_le rfl ca_Md_isId_34
          (qz_fgt [0] <| jb_Md_isId_34 G h)
          (qz_aload_n rfl <|
            qz_getR (k1 := 42) kg_12 fl_Md_90 rfl rfl <|
            qz_aload_n rfl <|
            qz_getI kg_12 fl_Md_224 rfl rfl <|
            qz_nnd 1 rfl <|
            qz_cald (k0 := 42) rfl rfl rfl <|
            qz_bipush rfl <|
            qz_icmp_ne rfl ca_Md_isId_34
              (qz_fgt [0] <| jb_Md_isId_34 G h)
              (qz_iconst rfl <|
                qz_goto rfl ca_Md_isId_35 <|
                qz_fgt [0] <| jb_Md_isId_35 G 1 h)))
def fn_Md_fail_16 (s0 : Int) (s1 : Int) (h : qz_H) : Option qz_R :=
  qz_ck ((0 : Int) < s0) <|
  qz_bn (qz_up h s0 38 s1) fun h1 =>
  qz_ck ((0 : Int) = 0 ∨ (0 : Int) = 1) (some (0, h1))
set_option maxRecDepth 20000 in
def fn_Md_fail (l0 : Int) (l1 : Int) (h : qz_H) : Option qz_R :=
  if ¬ h l0 38 = 0 then
    fn_Md_fail_16 l0 (h l0 38) h
  else
    fn_Md_fail_16 l0 l1 h
def bk_Md_fail_0 : List (Instr × Nat) := [(.aload_n 0, 1), (.aload_n 0, 1), (.getfield 250, 3), (.ifCond .ne 7, 3), (.iload_n 1, 1), (.goto 7, 3)]
def bk_Md_fail_12 : List (Instr × Nat) := [(.aload_n 0, 1), (.getfield 250, 3)]
def bk_Md_fail_16 : List (Instr × Nat) := [(.putfield 250, 3), (.iconst 0, 1), (.ireturn, 1)]
theorem ca_Md_fail_0 : qz_ca yd_Md_fail.2.1 0 bk_Md_fail_0 := qz_cab_ok _ _ (by decide +kernel)
theorem ca_Md_fail_12 : qz_ca yd_Md_fail.2.1 12 bk_Md_fail_12 := qz_cab_ok _ _ (by decide +kernel)
theorem ca_Md_fail_16 : qz_ca yd_Md_fail.2.1 16 bk_Md_fail_16 := qz_cab_ok _ _ (by decide +kernel)
set_option maxRecDepth 20000 in
theorem jb_Md_fail_16 (G : qz_G) (s0 : Int) (s1 : Int) (h : qz_H) : qz_J yd_Md_fail G bk_Md_fail_16 16 [qz_u, qz_u] [qz_i s1, qz_r true 12 s0] h 0 0 (fn_Md_fail_16 s0 s1 h) := by
  unfold fn_Md_fail_16 bk_Md_fail_16; exact
    qz_putI kw_12 fp_Md_250_Md_fail rfl rfl fun h1 =>
    qz_iconst rfl <|
    qz_zreturn ⟨rfl, rfl⟩ rfl
set_option maxRecDepth 20000 in
theorem cn_Md_fail (l0 : Int) (l1 : Int) (h : qz_H) : qz_C yd_Md_fail [qz_r true 12 l0, qz_i l1] h (fn_Md_fail l0 l1 h) := by
  refine qz_con (is := bk_Md_fail_0) (ls := [qz_r true 12 l0, qz_i l1]) mw_Md_fail.2.2.2 ca_Md_fail_0 rfl rfl rfl fun G => ?_
  unfold fn_Md_fail bk_Md_fail_0; exact
    qz_aload_n rfl <|
    qz_aload_n rfl <|
    qz_getI kg_12 fl_Md_250 rfl rfl <|
    qz_if_ne rfl ca_Md_fail_12
      (qz_aload_n rfl <|
        qz_getI kg_12 fl_Md_250 rfl rfl <|
        qz_fall rfl ca_Md_fail_16 <|
        qz_fgt [0, 0] <| jb_Md_fail_16 G l0 (h l0 38) h)
      (qz_iload_n rfl <|
        qz_goto rfl ca_Md_fail_16 <|
        qz_fgt [0, 0] <| jb_Md_fail_16 G l0 l1 h)
set_option maxRecDepth 20000 in
def fn_Md_pass (l0 : Int) (l1 : Int) (h : qz_H) : Option qz_R :=
  if h l0 33 = l1 then
    qz_bc (fn_Md_next l0 h) fun _ h2 =>
    qz_ck ((1 : Int) = 0 ∨ (1 : Int) = 1) (some (1, h2))
  else
    qz_bc (fn_Md_fail l0 1 h) fun r3 h4 =>
    qz_ck ((r3 : Int) = 0 ∨ (r3 : Int) = 1) (some (r3, h4))
def bk_Md_pass_0 : List (Instr × Nat) := [(.aload_n 0, 1), (.getfield 231, 3), (.iload_n 1, 1), (.if_icmp .eq 9, 3), (.aload_n 0, 1), (.iconst 1, 1), (.invokevirtual 253, 3), (.ireturn, 1)]
def bk_Md_pass_14 : List (Instr × Nat) := [(.aload_n 0, 1), (.invokevirtual 256, 3), (.iconst 1, 1), (.ireturn, 1)]
theorem ca_Md_pass_0 : qz_ca yd_Md_pass.2.1 0 bk_Md_pass_0 := qz_cab_ok _ _ (by decide +kernel)
theorem ca_Md_pass_14 : qz_ca yd_Md_pass.2.1 14 bk_Md_pass_14 := qz_cab_ok _ _ (by decide +kernel)
set_option maxRecDepth 20000 in
theorem cn_Md_pass (l0 : Int) (l1 : Int) (h : qz_H) : qz_C yd_Md_pass [qz_r true 12 l0, qz_i l1] h (fn_Md_pass l0 l1 h) := by
  refine qz_con (is := bk_Md_pass_0) (ls := [qz_r true 12 l0, qz_i l1]) mw_Md_pass.2.2.2 ca_Md_pass_0 rfl rfl rfl fun G => ?_
  unfold fn_Md_pass bk_Md_pass_0; exact
    qz_aload_n rfl <|
    qz_getI kg_12 fl_Md_231 rfl rfl <|
    qz_iload_n rfl <|
    qz_icmp_eq rfl ca_Md_pass_14
      (qz_aload_n rfl <|
        qz_invvV [] rfl (cn_Md_next l0 h) mw_Md_next vw_Md_next ⟨_, rfl, rfl, by decide⟩ rfl rfl ln_Md_256 rfl fun _ h2 =>
        qz_iconst rfl <|
        qz_zreturn ⟨rfl, rfl⟩ rfl)
      (qz_aload_n rfl <|
        qz_iconst rfl <|
        qz_invvI [qz_i 1] rfl (cn_Md_fail l0 1 h) mw_Md_fail vw_Md_fail ⟨_, rfl, rfl, by decide⟩ rfl rfl ln_Md_253 rfl fun r3 h4 =>
        qz_zreturn ⟨rfl, rfl⟩ rfl)
set_option maxRecDepth 20000 in
def fn_Md_passWord (l0 : Int) (l1 : Int) (l3 : Int) (h : qz_H) : Option qz_R :=
  qz_bc (fn_Md_is l0 l1 l3 h) fun r1 h2 =>
  if ¬ r1 = 0 then
    qz_bc (fn_Md_next l0 h2) fun _ h4 =>
    qz_ck ((1 : Int) = 0 ∨ (1 : Int) = 1) (some (1, h4))
  else
    qz_bc (fn_Md_fail l0 1 h2) fun r5 h6 =>
    qz_ck ((r5 : Int) = 0 ∨ (r5 : Int) = 1) (some (r5, h6))
def bk_Md_passWord_0 : List (Instr × Nat) := [(.aload_n 0, 1), (.lload_n 1, 1), (.iload_n 3, 1), (.invokevirtual 259, 3), (.ifCond .ne 9, 3), (.aload_n 0, 1), (.iconst 1, 1), (.invokevirtual 253, 3), (.ireturn, 1)]
def bk_Md_passWord_15 : List (Instr × Nat) := [(.aload_n 0, 1), (.invokevirtual 256, 3), (.iconst 1, 1), (.ireturn, 1)]
theorem ca_Md_passWord_0 : qz_ca yd_Md_passWord.2.1 0 bk_Md_passWord_0 := qz_cab_ok _ _ (by decide +kernel)
theorem ca_Md_passWord_15 : qz_ca yd_Md_passWord.2.1 15 bk_Md_passWord_15 := qz_cab_ok _ _ (by decide +kernel)
set_option maxRecDepth 20000 in
theorem cn_Md_passWord (l0 : Int) (l1 : Int) (l3 : Int) (h : qz_H) : qz_C yd_Md_passWord [qz_r true 12 l0, qz_j l1, qz_i l3] h (fn_Md_passWord l0 l1 l3 h) := by
  refine qz_con (is := bk_Md_passWord_0) (ls := [qz_r true 12 l0, qz_j l1, qz_u, qz_i l3]) mw_Md_passWord.2.2.2 ca_Md_passWord_0 rfl rfl rfl fun G => ?_
  unfold fn_Md_passWord bk_Md_passWord_0; exact
    qz_aload_n rfl <|
    qz_lload_n rfl <|
    qz_iload_n rfl <|
    qz_invvI [qz_j l1, qz_i l3] rfl (cn_Md_is l0 l1 l3 h) mw_Md_is vw_Md_is ⟨_, rfl, rfl, by decide⟩ rfl rfl ln_Md_259 rfl fun r1 h2 =>
    qz_if_ne rfl ca_Md_passWord_15
      (qz_aload_n rfl <|
        qz_invvV [] rfl (cn_Md_next l0 h2) mw_Md_next vw_Md_next ⟨_, rfl, rfl, by decide⟩ rfl rfl ln_Md_256 rfl fun _ h4 =>
        qz_iconst rfl <|
        qz_zreturn ⟨rfl, rfl⟩ rfl)
      (qz_aload_n rfl <|
        qz_iconst rfl <|
        qz_invvI [qz_i 1] rfl (cn_Md_fail l0 1 h2) mw_Md_fail vw_Md_fail ⟨_, rfl, rfl, by decide⟩ rfl rfl ln_Md_253 rfl fun r5 h6 =>
        qz_zreturn ⟨rfl, rfl⟩ rfl)
