def fn_Md_sameName_61 (l5 : Int) (h : qz_H) : Option qz_R :=
  qz_ck ((l5 : Int) = 0 ∨ (l5 : Int) = 1) (some (l5, h))
def fn_Md_sameName_53 (k16 : Int → Int → Int → Int → Int → Int → qz_H → Option qz_R) (l0 : Int) (l1 : Int) (l2 : Int) (l3 : Int) (l6 : Int) (s0 : Int) (h : qz_H) : Option qz_R :=
  qz_bn (s0 : Int) fun x1 =>
  qz_bn (qz_w (l6 + 1)) fun x2 =>
  k16 l0 l1 l2 l3 x1 x2 h
def fn_Md_sameName_16_b (k16 : Int → Int → Int → Int → Int → Int → qz_H → Option qz_R) (l0 : Int) (l1 : Int) (l2 : Int) (l3 : Int) (l5 : Int) (l6 : Int) (h : qz_H) : Option qz_R :=
  if l2 ≤ l6 then
    fn_Md_sameName_61 l5 h
  else
    if l5 = 0 then
      fn_Md_sameName_61 l5 h
    else
      qz_ck ((h l0 6 : Int) ≠ 0) <|
      qz_ck ((0 : Int) ≤ qz_w (l1 + l6) ∧ qz_w (l1 + l6) < h (h l0 6) (-1)) <|
      qz_ck ((h l0 6 : Int) ≠ 0) <|
      qz_ck ((0 : Int) ≤ qz_w (l3 + l6) ∧ qz_w (l3 + l6) < h (h l0 6) (-1)) <|
      if ¬ h (h l0 6) (qz_w (l1 + l6)) = h (h l0 6) (qz_w (l3 + l6)) then
        fn_Md_sameName_53 k16 l0 l1 l2 l3 l6 0 h
      else
        fn_Md_sameName_53 k16 l0 l1 l2 l3 l6 1 h
def fn_Md_sameName_16 : Nat → Int → Int → Int → Int → Int → Int → qz_H → Option qz_R
  | 0, _, _, _, _, _, _, _ => none
  | n + 1, l0, l1, l2, l3, l5, l6, h => fn_Md_sameName_16_b (fn_Md_sameName_16 n) l0 l1 l2 l3 l5 l6 h
def fn_Md_sameName_11 (l0 : Int) (l1 : Int) (l2 : Int) (l3 : Int) (s0 : Int) (h : qz_H) : Option qz_R :=
  qz_bn (s0 : Int) fun x1 =>
  qz_bn (0 : Int) fun x2 =>
  fn_Md_sameName_16 qz_NF l0 l1 l2 l3 x1 x2 h
set_option maxRecDepth 20000 in
def fn_Md_sameName (l0 : Int) (l1 : Int) (l2 : Int) (l3 : Int) (l4 : Int) (h : qz_H) : Option qz_R :=
  if ¬ l2 = l4 then
    fn_Md_sameName_11 l0 l1 l2 l3 0 h
  else
    fn_Md_sameName_11 l0 l1 l2 l3 1 h
def bk_Md_sameName_0 : List (Instr × Nat) := [(.iload_n 2, 1), (.iload 4, 2), (.if_icmp .ne 7, 3), (.iconst 1, 1), (.goto 4, 3)]
def bk_Md_sameName_10 : List (Instr × Nat) := [(.iconst 0, 1)]
def bk_Md_sameName_11 : List (Instr × Nat) := [(.istore 5, 2), (.iconst 0, 1), (.istore 6, 2)]
def bk_Md_sameName_16 : List (Instr × Nat) := [(.iload 6, 2), (.iload_n 2, 1), (.if_icmp .ge 42, 3), (.iload 5, 2), (.ifCond .eq 37, 3), (.aload_n 0, 1), (.getfield 90, 3), (.iload_n 1, 1), (.iload 6, 2), (.iadd, 1), (.caload, 1), (.aload_n 0, 1), (.getfield 90, 3), (.iload_n 3, 1), (.iload 6, 2), (.iadd, 1), (.caload, 1), (.if_icmp .ne 7, 3), (.iconst 1, 1), (.goto 4, 3)]
def bk_Md_sameName_61 : List (Instr × Nat) := [(.iload 5, 2), (.ireturn, 1)]
def bk_Md_sameName_52 : List (Instr × Nat) := [(.iconst 0, 1)]
def bk_Md_sameName_53 : List (Instr × Nat) := [(.istore 5, 2), (.iinc 6 1, 3), (.goto (-42), 3)]
theorem ca_Md_sameName_0 : qz_ca yd_Md_sameName.2.1 0 bk_Md_sameName_0 := qz_cab_ok _ _ (by decide +kernel)
theorem ca_Md_sameName_10 : qz_ca yd_Md_sameName.2.1 10 bk_Md_sameName_10 := qz_cab_ok _ _ (by decide +kernel)
theorem ca_Md_sameName_11 : qz_ca yd_Md_sameName.2.1 11 bk_Md_sameName_11 := qz_cab_ok _ _ (by decide +kernel)
theorem ca_Md_sameName_16 : qz_ca yd_Md_sameName.2.1 16 bk_Md_sameName_16 := qz_cab_ok _ _ (by decide +kernel)
theorem ca_Md_sameName_61 : qz_ca yd_Md_sameName.2.1 61 bk_Md_sameName_61 := qz_cab_ok _ _ (by decide +kernel)
theorem ca_Md_sameName_52 : qz_ca yd_Md_sameName.2.1 52 bk_Md_sameName_52 := qz_cab_ok _ _ (by decide +kernel)
theorem ca_Md_sameName_53 : qz_ca yd_Md_sameName.2.1 53 bk_Md_sameName_53 := qz_cab_ok _ _ (by decide +kernel)
set_option maxRecDepth 20000 in
theorem jb_Md_sameName_61 (G : qz_G) (l5 : Int) (h : qz_H) : qz_J yd_Md_sameName G bk_Md_sameName_61 61 [qz_u, qz_u, qz_u, qz_u, qz_u, qz_i l5, qz_u] [] h 0 0 (fn_Md_sameName_61 l5 h) := by
  unfold fn_Md_sameName_61 bk_Md_sameName_61; exact
    qz_iload rfl <|
    qz_zreturn ⟨rfl, rfl⟩ rfl
set_option maxRecDepth 20000 in
theorem jb_Md_sameName_53 (G : qz_G) (k16 : Int → Int → Int → Int → Int → Int → qz_H → Option qz_R) (jk16 : ∀ (l0 : Int) (l1 : Int) (l2 : Int) (l3 : Int) (l5 : Int) (l6 : Int) (h : qz_H), qz_J yd_Md_sameName G bk_Md_sameName_16 16 [qz_r true 12 l0, qz_i l1, qz_i l2, qz_i l3, qz_u, qz_i l5, qz_i l6] [] h 0 0 (k16 l0 l1 l2 l3 l5 l6 h)) (l0 : Int) (l1 : Int) (l2 : Int) (l3 : Int) (l6 : Int) (s0 : Int) (h : qz_H) : qz_J yd_Md_sameName G bk_Md_sameName_53 53 [qz_r true 12 l0, qz_i l1, qz_i l2, qz_i l3, qz_u, qz_u, qz_i l6] [qz_i s0] h 0 0 (fn_Md_sameName_53 k16 l0 l1 l2 l3 l6 s0 h) := by
  unfold fn_Md_sameName_53 bk_Md_sameName_53; exact
    qz_istore (by decide) fun x1 =>
    qz_iinc rfl (by decide) fun x2 =>
    qz_goto rfl ca_Md_sameName_16 <|
    qz_fgt [1, 1, 1, 1, 0, 1, 1] <| jk16 l0 l1 l2 l3 x1 x2 h
set_option maxRecDepth 20000 in
theorem jb_Md_sameName_16_b (G : qz_G) (k16 : Int → Int → Int → Int → Int → Int → qz_H → Option qz_R) (jk16 : ∀ (l0 : Int) (l1 : Int) (l2 : Int) (l3 : Int) (l5 : Int) (l6 : Int) (h : qz_H), qz_J yd_Md_sameName G bk_Md_sameName_16 16 [qz_r true 12 l0, qz_i l1, qz_i l2, qz_i l3, qz_u, qz_i l5, qz_i l6] [] h 0 0 (k16 l0 l1 l2 l3 l5 l6 h)) (l0 : Int) (l1 : Int) (l2 : Int) (l3 : Int) (l5 : Int) (l6 : Int) (h : qz_H) : qz_J yd_Md_sameName G bk_Md_sameName_16 16 [qz_r true 12 l0, qz_i l1, qz_i l2, qz_i l3, qz_u, qz_i l5, qz_i l6] [] h 0 0 (fn_Md_sameName_16_b k16 l0 l1 l2 l3 l5 l6 h) := by
  unfold fn_Md_sameName_16_b bk_Md_sameName_16; exact
    qz_iload rfl <|
    qz_iload_n rfl <|
    qz_icmp_ge rfl ca_Md_sameName_61
      (qz_fgt [0, 0, 0, 0, 0, 1, 0] <| jb_Md_sameName_61 G l5 h)
      (qz_iload rfl <|
        qz_if_eq rfl ca_Md_sameName_61
          (qz_fgt [0, 0, 0, 0, 0, 1, 0] <| jb_Md_sameName_61 G l5 h)
          (qz_aload_n rfl <|
            qz_getR (k1 := 42) kg_12 fl_Md_90 rfl rfl <|
            qz_iload_n rfl <|
            qz_iload rfl <|
            qz_iadd <|
            qz_nnd 1 rfl <|
            qz_cald (k0 := 42) rfl rfl rfl <|
            qz_aload_n rfl <|
            qz_getR (k1 := 42) kg_12 fl_Md_90 rfl rfl <|
            qz_iload_n rfl <|
            qz_iload rfl <|
            qz_iadd <|
            qz_nnd 1 rfl <|
            qz_cald (k0 := 42) rfl rfl rfl <|
            qz_icmp_ne rfl ca_Md_sameName_52
              (qz_iconst rfl <|
                qz_fall rfl ca_Md_sameName_53 <|
                qz_fgt [1, 1, 1, 1, 0, 0, 1] <| jb_Md_sameName_53 G k16 jk16 l0 l1 l2 l3 l6 0 h)
              (qz_iconst rfl <|
                qz_goto rfl ca_Md_sameName_53 <|
                qz_fgt [1, 1, 1, 1, 0, 0, 1] <| jb_Md_sameName_53 G k16 jk16 l0 l1 l2 l3 l6 1 h)))
theorem jb_Md_sameName_16 (G : qz_G) : ∀ (n : Nat) (l0 l1 l2 l3 l5 l6 : Int) (h : qz_H), qz_J yd_Md_sameName G bk_Md_sameName_16 16 [qz_r true 12 l0, qz_i l1, qz_i l2, qz_i l3, qz_u, qz_i l5, qz_i l6] [] h 0 0 (fn_Md_sameName_16 n l0 l1 l2 l3 l5 l6 h)
  | 0, _, _, _, _, _, _, _ => qz_none
  | n + 1, l0, l1, l2, l3, l5, l6, h => jb_Md_sameName_16_b G (fn_Md_sameName_16 n) (jb_Md_sameName_16 G n) l0 l1 l2 l3 l5 l6 h
set_option maxRecDepth 20000 in
theorem jb_Md_sameName_11 (G : qz_G) (l0 : Int) (l1 : Int) (l2 : Int) (l3 : Int) (s0 : Int) (h : qz_H) : qz_J yd_Md_sameName G bk_Md_sameName_11 11 [qz_r true 12 l0, qz_i l1, qz_i l2, qz_i l3, qz_u, qz_u, qz_u] [qz_i s0] h 0 0 (fn_Md_sameName_11 l0 l1 l2 l3 s0 h) := by
  unfold fn_Md_sameName_11 bk_Md_sameName_11; exact
    qz_istore (by decide) fun x1 =>
    qz_iconst rfl <|
    qz_istore (by decide) fun x2 =>
    qz_fall rfl ca_Md_sameName_16 <|
    qz_fgt [1, 1, 1, 1, 0, 1, 1] <| jb_Md_sameName_16 G qz_NF l0 l1 l2 l3 x1 x2 h
set_option maxRecDepth 20000 in
theorem cn_Md_sameName (l0 : Int) (l1 : Int) (l2 : Int) (l3 : Int) (l4 : Int) (h : qz_H) : qz_C yd_Md_sameName [qz_r true 12 l0, qz_i l1, qz_i l2, qz_i l3, qz_i l4] h (fn_Md_sameName l0 l1 l2 l3 l4 h) := by
  refine qz_con (is := bk_Md_sameName_0) (ls := [qz_r true 12 l0, qz_i l1, qz_i l2, qz_i l3, qz_i l4, qz_u, qz_u]) mw_Md_sameName.2.2.2 ca_Md_sameName_0 rfl rfl rfl fun G => ?_
  unfold fn_Md_sameName bk_Md_sameName_0; exact
    qz_iload_n rfl <|
    qz_iload rfl <|
    qz_icmp_ne rfl ca_Md_sameName_10
      (qz_iconst rfl <|
        qz_fall rfl ca_Md_sameName_11 <|
        qz_fgt [1, 1, 1, 1, 0, 0, 0] <| jb_Md_sameName_11 G l0 l1 l2 l3 0 h)
      (qz_iconst rfl <|
        qz_goto rfl ca_Md_sameName_11 <|
        qz_fgt [1, 1, 1, 1, 0, 0, 0] <| jb_Md_sameName_11 G l0 l1 l2 l3 1 h)
def fn_Md_digits_143 (l2 : Int) (h : qz_H) : Option qz_R :=
  qz_ck ((l2 : Int) = 0 ∨ (l2 : Int) = 1) (some (l2, h))
def fn_Md_digits_120 (k26 : Int → Int → Int → qz_H → Option qz_R) (l0 : Int) (l3 : Int) (l4 : Int) (s0 : Int) (h : qz_H) : Option qz_R :=
  qz_bn (s0 : Int) fun x1 =>
  qz_ck ((0 : Int) < l0) <|
  qz_bn (qz_up h l0 47 (qz_x ((qz_x ((h l0 47) * 10)) + l4))) fun h2 =>
  qz_bn (qz_w (l3 + 1)) fun x3 =>
  k26 l0 x1 x3 h2
def fn_Md_digits_119 (k26 : Int → Int → Int → qz_H → Option qz_R) (l0 : Int) (l3 : Int) (l4 : Int) (h : qz_H) : Option qz_R :=
  fn_Md_digits_120 k26 l0 l3 l4 0 h
def fn_Md_digits_96 (k26 : Int → Int → Int → qz_H → Option qz_R) (l0 : Int) (l3 : Int) (l4 : Int) (s0 : Int) (h : qz_H) : Option qz_R :=
  qz_bn (s0 : Int) fun x1 =>
  if l4 < 0 then
    fn_Md_digits_119 k26 l0 l3 l4 h
  else
    if 9 < l4 then
      fn_Md_digits_119 k26 l0 l3 l4 h
    else
      if x1 = 0 then
        fn_Md_digits_119 k26 l0 l3 l4 h
      else
        fn_Md_digits_120 k26 l0 l3 l4 1 h
def fn_Md_digits_95 (k26 : Int → Int → Int → qz_H → Option qz_R) (l0 : Int) (l3 : Int) (l4 : Int) (h : qz_H) : Option qz_R :=
  fn_Md_digits_96 k26 l0 l3 l4 0 h
def fn_Md_digits_91 (k26 : Int → Int → Int → qz_H → Option qz_R) (l0 : Int) (l3 : Int) (l4 : Int) (h : qz_H) : Option qz_R :=
  fn_Md_digits_96 k26 l0 l3 l4 1 h
def fn_Md_digits_74 (k26 : Int → Int → Int → qz_H → Option qz_R) (l0 : Int) (l3 : Int) (l4 : Int) (h : qz_H) : Option qz_R :=
  if ¬ qz_cmp (h l0 47) 1844674407370955161 = 0 then
    fn_Md_digits_95 k26 l0 l3 l4 h
  else
    if 5 < l4 then
      fn_Md_digits_95 k26 l0 l3 l4 h
    else
      fn_Md_digits_91 k26 l0 l3 l4 h
def fn_Md_digits_26_b (k26 : Int → Int → Int → qz_H → Option qz_R) (l0 : Int) (l2 : Int) (l3 : Int) (h : qz_H) : Option qz_R :=
  if qz_w ((h l0 34) + (h l0 35)) ≤ l3 then
    fn_Md_digits_143 l2 h
  else
    if l2 = 0 then
      fn_Md_digits_143 l2 h
    else
      qz_ck ((h l0 6 : Int) ≠ 0) <|
      qz_ck ((0 : Int) ≤ l3 ∧ l3 < h (h l0 6) (-1)) <|
      qz_bn (qz_w ((h (h l0 6) l3) - 48) : Int) fun x1 =>
      if qz_cmp (h l0 47) 0 < 0 then
        fn_Md_digits_74 k26 l0 l3 x1 h
      else
        if qz_cmp (h l0 47) 1844674407370955161 < 0 then
          fn_Md_digits_91 k26 l0 l3 x1 h
        else
          fn_Md_digits_74 k26 l0 l3 x1 h
def fn_Md_digits_26 : Nat → Int → Int → Int → qz_H → Option qz_R
  | 0, _, _, _, _ => none
  | n + 1, l0, l2, l3, h => fn_Md_digits_26_b (fn_Md_digits_26 n) l0 l2 l3 h
def fn_Md_digits_23 (l0 : Int) (l1 : Int) (s0 : Int) (h : qz_H) : Option qz_R :=
  qz_bn (s0 : Int) fun x1 =>
  qz_bn (l1 : Int) fun x2 =>
  fn_Md_digits_26 qz_NF l0 x1 x2 h
set_option maxRecDepth 20000 in
def fn_Md_digits (l0 : Int) (l1 : Int) (h : qz_H) : Option qz_R :=
  qz_ck ((0 : Int) < l0) <|
  qz_bn (qz_up h l0 47 0) fun h1 =>
  if qz_w ((h1 l0 34) + (h1 l0 35)) ≤ l1 then
    fn_Md_digits_23 l0 l1 0 h1
  else
    fn_Md_digits_23 l0 l1 1 h1
def bk_Md_digits_0 : List (Instr × Nat) := [(.aload_n 0, 1), (.lconst 0, 1), (.putfield 263, 3), (.iload_n 1, 1), (.aload_n 0, 1), (.getfield 224, 3), (.aload_n 0, 1), (.getfield 247, 3), (.iadd, 1), (.if_icmp .ge 7, 3), (.iconst 1, 1), (.goto 4, 3)]
def bk_Md_digits_22 : List (Instr × Nat) := [(.iconst 0, 1)]
def bk_Md_digits_23 : List (Instr × Nat) := [(.istore_n 2, 1), (.iload_n 1, 1), (.istore_n 3, 1)]
def bk_Md_digits_26 : List (Instr × Nat) := [(.iload_n 3, 1), (.aload_n 0, 1), (.getfield 224, 3), (.aload_n 0, 1), (.getfield 247, 3), (.iadd, 1), (.if_icmp .ge 107, 3), (.iload_n 2, 1), (.ifCond .eq 103, 3), (.aload_n 0, 1), (.getfield 90, 3), (.iload_n 3, 1), (.caload, 1), (.bipush 48, 2), (.isub, 1), (.istore 4, 2), (.aload_n 0, 1), (.getfield 263, 3), (.lconst 0, 1), (.lcmp, 1), (.ifCond .lt 14, 3), (.aload_n 0, 1), (.getfield 263, 3), (.ldc2_w 266, 3), (.lcmp, 1), (.ifCond .lt 20, 3)]
def bk_Md_digits_143 : List (Instr × Nat) := [(.iload_n 2, 1), (.ireturn, 1)]
def bk_Md_digits_74 : List (Instr × Nat) := [(.aload_n 0, 1), (.getfield 263, 3), (.ldc2_w 266, 3), (.lcmp, 1), (.ifCond .ne 13, 3), (.iload 4, 2), (.iconst 5, 1), (.if_icmp .gt 7, 3)]
def bk_Md_digits_91 : List (Instr × Nat) := [(.iconst 1, 1), (.goto 4, 3)]
def bk_Md_digits_95 : List (Instr × Nat) := [(.iconst 0, 1)]
def bk_Md_digits_96 : List (Instr × Nat) := [(.istore 5, 2), (.iload 4, 2), (.ifCond .lt 19, 3), (.iload 4, 2), (.bipush 9, 2), (.if_icmp .gt 12, 3), (.iload 5, 2), (.ifCond .eq 7, 3), (.iconst 1, 1), (.goto 4, 3)]
def bk_Md_digits_119 : List (Instr × Nat) := [(.iconst 0, 1)]
def bk_Md_digits_120 : List (Instr × Nat) := [(.istore_n 2, 1), (.aload_n 0, 1), (.aload_n 0, 1), (.getfield 263, 3), (.ldc2_w 268, 3), (.lmul, 1), (.iload 4, 2), (.i2l, 1), (.ladd, 1), (.putfield 263, 3), (.iinc 3 1, 3), (.goto (-114), 3)]
theorem ca_Md_digits_0 : qz_ca yd_Md_digits.2.1 0 bk_Md_digits_0 := qz_cab_ok _ _ (by decide +kernel)
theorem ca_Md_digits_22 : qz_ca yd_Md_digits.2.1 22 bk_Md_digits_22 := qz_cab_ok _ _ (by decide +kernel)
theorem ca_Md_digits_23 : qz_ca yd_Md_digits.2.1 23 bk_Md_digits_23 := qz_cab_ok _ _ (by decide +kernel)
theorem ca_Md_digits_26 : qz_ca yd_Md_digits.2.1 26 bk_Md_digits_26 := qz_cab_ok _ _ (by decide +kernel)
theorem ca_Md_digits_143 : qz_ca yd_Md_digits.2.1 143 bk_Md_digits_143 := qz_cab_ok _ _ (by decide +kernel)
theorem ca_Md_digits_74 : qz_ca yd_Md_digits.2.1 74 bk_Md_digits_74 := qz_cab_ok _ _ (by decide +kernel)
theorem ca_Md_digits_91 : qz_ca yd_Md_digits.2.1 91 bk_Md_digits_91 := qz_cab_ok _ _ (by decide +kernel)
theorem ca_Md_digits_95 : qz_ca yd_Md_digits.2.1 95 bk_Md_digits_95 := qz_cab_ok _ _ (by decide +kernel)
theorem ca_Md_digits_96 : qz_ca yd_Md_digits.2.1 96 bk_Md_digits_96 := qz_cab_ok _ _ (by decide +kernel)
theorem ca_Md_digits_119 : qz_ca yd_Md_digits.2.1 119 bk_Md_digits_119 := qz_cab_ok _ _ (by decide +kernel)
theorem ca_Md_digits_120 : qz_ca yd_Md_digits.2.1 120 bk_Md_digits_120 := qz_cab_ok _ _ (by decide +kernel)
set_option maxRecDepth 20000 in
theorem jb_Md_digits_143 (G : qz_G) (l2 : Int) (h : qz_H) : qz_J yd_Md_digits G bk_Md_digits_143 143 [qz_u, qz_u, qz_i l2, qz_u, qz_u, qz_u] [] h 0 0 (fn_Md_digits_143 l2 h) := by
  unfold fn_Md_digits_143 bk_Md_digits_143; exact
    qz_iload_n rfl <|
    qz_zreturn ⟨rfl, rfl⟩ rfl
set_option maxRecDepth 20000 in
theorem jb_Md_digits_120 (G : qz_G) (k26 : Int → Int → Int → qz_H → Option qz_R) (jk26 : ∀ (l0 : Int) (l2 : Int) (l3 : Int) (h : qz_H), qz_J yd_Md_digits G bk_Md_digits_26 26 [qz_r true 12 l0, qz_u, qz_i l2, qz_i l3, qz_u, qz_u] [] h 0 0 (k26 l0 l2 l3 h)) (l0 : Int) (l3 : Int) (l4 : Int) (s0 : Int) (h : qz_H) : qz_J yd_Md_digits G bk_Md_digits_120 120 [qz_r true 12 l0, qz_u, qz_u, qz_i l3, qz_i l4, qz_u] [qz_i s0] h 0 0 (fn_Md_digits_120 k26 l0 l3 l4 s0 h) := by
  unfold fn_Md_digits_120 bk_Md_digits_120; exact
    qz_istore_n (by decide) fun x1 =>
    qz_aload_n rfl <|
    qz_aload_n rfl <|
    qz_getJ kg_12 fl_Md_263 rfl rfl <|
    qz_ldc2 wc_Md_268 rfl <|
    qz_lmul <|
    qz_iload rfl <|
    qz_i2l <|
    qz_ladd <|
    qz_putJ kw_12 fp_Md_263_Md_digits rfl rfl fun h2 =>
    qz_iinc rfl (by decide) fun x3 =>
    qz_goto rfl ca_Md_digits_26 <|
    qz_fgt [1, 0, 1, 1, 0, 0] <| jk26 l0 x1 x3 h2
set_option maxRecDepth 20000 in
theorem jb_Md_digits_119 (G : qz_G) (k26 : Int → Int → Int → qz_H → Option qz_R) (jk26 : ∀ (l0 : Int) (l2 : Int) (l3 : Int) (h : qz_H), qz_J yd_Md_digits G bk_Md_digits_26 26 [qz_r true 12 l0, qz_u, qz_i l2, qz_i l3, qz_u, qz_u] [] h 0 0 (k26 l0 l2 l3 h)) (l0 : Int) (l3 : Int) (l4 : Int) (h : qz_H) : qz_J yd_Md_digits G bk_Md_digits_119 119 [qz_r true 12 l0, qz_u, qz_u, qz_i l3, qz_i l4, qz_u] [] h 0 0 (fn_Md_digits_119 k26 l0 l3 l4 h) := by
  unfold fn_Md_digits_119 bk_Md_digits_119; exact
    qz_iconst rfl <|
    qz_fall rfl ca_Md_digits_120 <|
    qz_fgt [1, 0, 0, 1, 1, 0] <| jb_Md_digits_120 G k26 jk26 l0 l3 l4 0 h
set_option maxRecDepth 20000 in
theorem jb_Md_digits_96 (G : qz_G) (k26 : Int → Int → Int → qz_H → Option qz_R) (jk26 : ∀ (l0 : Int) (l2 : Int) (l3 : Int) (h : qz_H), qz_J yd_Md_digits G bk_Md_digits_26 26 [qz_r true 12 l0, qz_u, qz_i l2, qz_i l3, qz_u, qz_u] [] h 0 0 (k26 l0 l2 l3 h)) (l0 : Int) (l3 : Int) (l4 : Int) (s0 : Int) (h : qz_H) : qz_J yd_Md_digits G bk_Md_digits_96 96 [qz_r true 12 l0, qz_u, qz_u, qz_i l3, qz_i l4, qz_u] [qz_i s0] h 0 0 (fn_Md_digits_96 k26 l0 l3 l4 s0 h) := by
  unfold fn_Md_digits_96 bk_Md_digits_96; exact
    qz_istore (by decide) fun x1 =>
    qz_iload rfl <|
    qz_if_lt rfl ca_Md_digits_119
      (qz_fgt [1, 0, 0, 1, 1, 0] <| jb_Md_digits_119 G k26 jk26 l0 l3 l4 h)
      (qz_iload rfl <|
        qz_bipush rfl <|
        qz_icmp_gt rfl ca_Md_digits_119
          (qz_fgt [1, 0, 0, 1, 1, 0] <| jb_Md_digits_119 G k26 jk26 l0 l3 l4 h)
          (qz_iload rfl <|
            qz_if_eq rfl ca_Md_digits_119
              (qz_fgt [1, 0, 0, 1, 1, 0] <| jb_Md_digits_119 G k26 jk26 l0 l3 l4 h)
              (qz_iconst rfl <|
                qz_goto rfl ca_Md_digits_120 <|
                qz_fgt [1, 0, 0, 1, 1, 0] <| jb_Md_digits_120 G k26 jk26 l0 l3 l4 1 h)))
set_option maxRecDepth 20000 in
theorem jb_Md_digits_95 (G : qz_G) (k26 : Int → Int → Int → qz_H → Option qz_R) (jk26 : ∀ (l0 : Int) (l2 : Int) (l3 : Int) (h : qz_H), qz_J yd_Md_digits G bk_Md_digits_26 26 [qz_r true 12 l0, qz_u, qz_i l2, qz_i l3, qz_u, qz_u] [] h 0 0 (k26 l0 l2 l3 h)) (l0 : Int) (l3 : Int) (l4 : Int) (h : qz_H) : qz_J yd_Md_digits G bk_Md_digits_95 95 [qz_r true 12 l0, qz_u, qz_u, qz_i l3, qz_i l4, qz_u] [] h 0 0 (fn_Md_digits_95 k26 l0 l3 l4 h) := by
  unfold fn_Md_digits_95 bk_Md_digits_95; exact
    qz_iconst rfl <|
    qz_fall rfl ca_Md_digits_96 <|
    qz_fgt [1, 0, 0, 1, 1, 0] <| jb_Md_digits_96 G k26 jk26 l0 l3 l4 0 h
set_option maxRecDepth 20000 in
theorem jb_Md_digits_91 (G : qz_G) (k26 : Int → Int → Int → qz_H → Option qz_R) (jk26 : ∀ (l0 : Int) (l2 : Int) (l3 : Int) (h : qz_H), qz_J yd_Md_digits G bk_Md_digits_26 26 [qz_r true 12 l0, qz_u, qz_i l2, qz_i l3, qz_u, qz_u] [] h 0 0 (k26 l0 l2 l3 h)) (l0 : Int) (l3 : Int) (l4 : Int) (h : qz_H) : qz_J yd_Md_digits G bk_Md_digits_91 91 [qz_r true 12 l0, qz_u, qz_u, qz_i l3, qz_i l4, qz_u] [] h 0 0 (fn_Md_digits_91 k26 l0 l3 l4 h) := by
  unfold fn_Md_digits_91 bk_Md_digits_91; exact
    qz_iconst rfl <|
    qz_goto rfl ca_Md_digits_96 <|
    qz_fgt [1, 0, 0, 1, 1, 0] <| jb_Md_digits_96 G k26 jk26 l0 l3 l4 1 h
set_option maxRecDepth 20000 in
theorem jb_Md_digits_74 (G : qz_G) (k26 : Int → Int → Int → qz_H → Option qz_R) (jk26 : ∀ (l0 : Int) (l2 : Int) (l3 : Int) (h : qz_H), qz_J yd_Md_digits G bk_Md_digits_26 26 [qz_r true 12 l0, qz_u, qz_i l2, qz_i l3, qz_u, qz_u] [] h 0 0 (k26 l0 l2 l3 h)) (l0 : Int) (l3 : Int) (l4 : Int) (h : qz_H) : qz_J yd_Md_digits G bk_Md_digits_74 74 [qz_r true 12 l0, qz_u, qz_u, qz_i l3, qz_i l4, qz_u] [] h 0 0 (fn_Md_digits_74 k26 l0 l3 l4 h) := by
  unfold fn_Md_digits_74 bk_Md_digits_74; exact
    qz_aload_n rfl <|
    qz_getJ kg_12 fl_Md_263 rfl rfl <|
    qz_ldc2 wc_Md_266 rfl <|
    qz_lcmp <|
    qz_if_ne rfl ca_Md_digits_95
      (qz_fgt [1, 0, 0, 1, 1, 0] <| jb_Md_digits_95 G k26 jk26 l0 l3 l4 h)
      (qz_iload rfl <|
        qz_iconst rfl <|
        qz_icmp_gt rfl ca_Md_digits_95
          (qz_fgt [1, 0, 0, 1, 1, 0] <| jb_Md_digits_95 G k26 jk26 l0 l3 l4 h)
          (qz_fall rfl ca_Md_digits_91 <|
            qz_fgt [1, 0, 0, 1, 1, 0] <| jb_Md_digits_91 G k26 jk26 l0 l3 l4 h))
set_option maxRecDepth 20000 in
theorem jb_Md_digits_26_b (G : qz_G) (k26 : Int → Int → Int → qz_H → Option qz_R) (jk26 : ∀ (l0 : Int) (l2 : Int) (l3 : Int) (h : qz_H), qz_J yd_Md_digits G bk_Md_digits_26 26 [qz_r true 12 l0, qz_u, qz_i l2, qz_i l3, qz_u, qz_u] [] h 0 0 (k26 l0 l2 l3 h)) (l0 : Int) (l2 : Int) (l3 : Int) (h : qz_H) : qz_J yd_Md_digits G bk_Md_digits_26 26 [qz_r true 12 l0, qz_u, qz_i l2, qz_i l3, qz_u, qz_u] [] h 0 0 (fn_Md_digits_26_b k26 l0 l2 l3 h) := by
  unfold fn_Md_digits_26_b bk_Md_digits_26; exact
    qz_iload_n rfl <|
    qz_aload_n rfl <|
    qz_getI kg_12 fl_Md_224 rfl rfl <|
    qz_aload_n rfl <|
    qz_getI kg_12 fl_Md_247 rfl rfl <|
    qz_iadd <|
    qz_icmp_ge rfl ca_Md_digits_143
      (qz_fgt [0, 0, 1, 0, 0, 0] <| jb_Md_digits_143 G l2 h)
      (qz_iload_n rfl <|
        qz_if_eq rfl ca_Md_digits_143
          (qz_fgt [0, 0, 1, 0, 0, 0] <| jb_Md_digits_143 G l2 h)
          (qz_aload_n rfl <|
            qz_getR (k1 := 42) kg_12 fl_Md_90 rfl rfl <|
            qz_iload_n rfl <|
            qz_nnd 1 rfl <|
            qz_cald (k0 := 42) rfl rfl rfl <|
            qz_bipush rfl <|
            qz_isub <|
            qz_istore (by decide) fun x1 =>
            qz_aload_n rfl <|
            qz_getJ kg_12 fl_Md_263 rfl rfl <|
            qz_lconst rfl <|
            qz_lcmp <|
            qz_if_lt rfl ca_Md_digits_74
              (qz_fgt [1, 0, 0, 1, 1, 0] <| jb_Md_digits_74 G k26 jk26 l0 l3 x1 h)
              (qz_aload_n rfl <|
                qz_getJ kg_12 fl_Md_263 rfl rfl <|
                qz_ldc2 wc_Md_266 rfl <|
                qz_lcmp <|
                qz_if_lt rfl ca_Md_digits_91
                  (qz_fgt [1, 0, 0, 1, 1, 0] <| jb_Md_digits_91 G k26 jk26 l0 l3 x1 h)
                  (qz_fall rfl ca_Md_digits_74 <|
                    qz_fgt [1, 0, 0, 1, 1, 0] <| jb_Md_digits_74 G k26 jk26 l0 l3 x1 h))))
theorem jb_Md_digits_26 (G : qz_G) : ∀ (n : Nat) (l0 l2 l3 : Int) (h : qz_H), qz_J yd_Md_digits G bk_Md_digits_26 26 [qz_r true 12 l0, qz_u, qz_i l2, qz_i l3, qz_u, qz_u] [] h 0 0 (fn_Md_digits_26 n l0 l2 l3 h)
  | 0, _, _, _, _ => qz_none
  | n + 1, l0, l2, l3, h => jb_Md_digits_26_b G (fn_Md_digits_26 n) (jb_Md_digits_26 G n) l0 l2 l3 h
set_option maxRecDepth 20000 in
theorem jb_Md_digits_23 (G : qz_G) (l0 : Int) (l1 : Int) (s0 : Int) (h : qz_H) : qz_J yd_Md_digits G bk_Md_digits_23 23 [qz_r true 12 l0, qz_i l1, qz_u, qz_u, qz_u, qz_u] [qz_i s0] h 0 0 (fn_Md_digits_23 l0 l1 s0 h) := by
  unfold fn_Md_digits_23 bk_Md_digits_23; exact
    qz_istore_n (by decide) fun x1 =>
    qz_iload_n rfl <|
    qz_istore_n (by decide) fun x2 =>
    qz_fall rfl ca_Md_digits_26 <|
    qz_fgt [1, 0, 1, 1, 0, 0] <| jb_Md_digits_26 G qz_NF l0 x1 x2 h
set_option maxRecDepth 20000 in
theorem cn_Md_digits (l0 : Int) (l1 : Int) (h : qz_H) : qz_C yd_Md_digits [qz_r true 12 l0, qz_i l1] h (fn_Md_digits l0 l1 h) := by
  refine qz_con (is := bk_Md_digits_0) (ls := [qz_r true 12 l0, qz_i l1, qz_u, qz_u, qz_u, qz_u]) mw_Md_digits.2.2.2 ca_Md_digits_0 rfl rfl rfl fun G => ?_
  unfold fn_Md_digits bk_Md_digits_0; exact
    qz_aload_n rfl <|
    qz_lconst rfl <|
    qz_putJ kw_12 fp_Md_263_Md_digits rfl rfl fun h1 =>
    qz_iload_n rfl <|
    qz_aload_n rfl <|
    qz_getI kg_12 fl_Md_224 rfl rfl <|
    qz_aload_n rfl <|
    qz_getI kg_12 fl_Md_247 rfl rfl <|
    qz_iadd <|
    qz_icmp_ge rfl ca_Md_digits_22
      (qz_iconst rfl <|
        qz_fall rfl ca_Md_digits_23 <|
        qz_fgt [1, 1, 0, 0, 0, 0] <| jb_Md_digits_23 G l0 l1 0 h1)
      (qz_iconst rfl <|
        qz_goto rfl ca_Md_digits_23 <|
        qz_fgt [1, 1, 0, 0, 0, 0] <| jb_Md_digits_23 G l0 l1 1 h1)
def fn_Md_below32_14 (s0 : Int) (h : qz_H) : Option qz_R :=
  qz_ck ((s0 : Int) = 0 ∨ (s0 : Int) = 1) (some (s0, h))
set_option maxRecDepth 20000 in
def fn_Md_below32 (l0 : Int) (h : qz_H) : Option qz_R :=
  if ¬ qz_cmp (qz_ushJ l0 32) 0 = 0 then
    fn_Md_below32_14 0 h
  else
    fn_Md_below32_14 1 h
def bk_Md_below32_0 : List (Instr × Nat) := [(.lload_n 0, 1), (.bipush 32, 2), (.lushr, 1), (.lconst 0, 1), (.lcmp, 1), (.ifCond .ne 7, 3), (.iconst 1, 1), (.goto 4, 3)]
def bk_Md_below32_13 : List (Instr × Nat) := [(.iconst 0, 1)]
def bk_Md_below32_14 : List (Instr × Nat) := [(.ireturn, 1)]
theorem ca_Md_below32_0 : qz_ca yd_Md_below32.2.1 0 bk_Md_below32_0 := qz_cab_ok _ _ (by decide +kernel)
theorem ca_Md_below32_13 : qz_ca yd_Md_below32.2.1 13 bk_Md_below32_13 := qz_cab_ok _ _ (by decide +kernel)
theorem ca_Md_below32_14 : qz_ca yd_Md_below32.2.1 14 bk_Md_below32_14 := qz_cab_ok _ _ (by decide +kernel)
set_option maxRecDepth 20000 in
theorem jb_Md_below32_14 (G : qz_G) (s0 : Int) (h : qz_H) : qz_J yd_Md_below32 G bk_Md_below32_14 14 [qz_u, qz_u] [qz_i s0] h 0 0 (fn_Md_below32_14 s0 h) := by
  unfold fn_Md_below32_14 bk_Md_below32_14; exact
    qz_zreturn ⟨rfl, rfl⟩ rfl
set_option maxRecDepth 20000 in
theorem cn_Md_below32 (l0 : Int) (h : qz_H) : qz_C yd_Md_below32 [qz_j l0] h (fn_Md_below32 l0 h) := by
  refine qz_con (is := bk_Md_below32_0) (ls := [qz_j l0, qz_u]) mw_Md_below32.2.2.2 ca_Md_below32_0 rfl rfl rfl fun G => ?_
  unfold fn_Md_below32 bk_Md_below32_0; exact
    qz_lload_n rfl <|
    qz_bipush rfl <|
    qz_lushr <|
    qz_lconst rfl <|
    qz_lcmp <|
    qz_if_ne rfl ca_Md_below32_13
      (qz_iconst rfl <|
        qz_fall rfl ca_Md_below32_14 <|
        qz_fgt [0, 0] <| jb_Md_below32_14 G 0 h)
      (qz_iconst rfl <|
        qz_goto rfl ca_Md_below32_14 <|
        qz_fgt [0, 0] <| jb_Md_below32_14 G 1 h)
def fn_Md_constant_210 (l0 : Int) (s0 : Int) (s1 : Int) (h : qz_H) : Option qz_R :=
  qz_ck ((0 : Int) < s0) <|
  qz_bn (qz_up h s0 47 s1) fun h1 =>
  qz_bc (fn_Md_next l0 h1) fun _ h3 =>
  qz_ck ((1 : Int) = 0 ∨ (1 : Int) = 1) (some (1, h3))
def fn_Md_constant_189 (l0 : Int) (l1 : Int) (s0 : Int) (s1 : Int) (h : qz_H) : Option qz_R :=
  qz_ck ((0 : Int) < s0) <|
  qz_bn (qz_up h s0 47 s1) fun h1 =>
  if l1 = 0 then
    fn_Md_constant_210 l0 l0 (qz_w (h1 l0 47)) h1
  else
    fn_Md_constant_210 l0 l0 (h1 l0 47) h1
def fn_Md_constant_161 (l0 : Int) (l1 : Int) (l2 : Int) (l4 : Int) (h : qz_H) : Option qz_R :=
  if ¬ l4 = 0 then
    if l2 = 0 then
      fn_Md_constant_189 l0 l1 l0 (h l0 47) h
    else
      fn_Md_constant_189 l0 l1 l0 (qz_x (-(h l0 47))) h
  else
    qz_bc (fn_Md_fail l0 1 h) fun r1 h2 =>
    qz_ck ((r1 : Int) = 0 ∨ (r1 : Int) = 1) (some (r1, h2))
def fn_Md_constant_159 (l0 : Int) (l1 : Int) (l2 : Int) (s0 : Int) (h : qz_H) : Option qz_R :=
  qz_bn (s0 : Int) fun x1 =>
  fn_Md_constant_161 l0 l1 l2 x1 h
def fn_Md_constant_158 (l0 : Int) (l1 : Int) (l2 : Int) (h : qz_H) : Option qz_R :=
  fn_Md_constant_159 l0 l1 l2 0 h
def fn_Md_constant_154 (l0 : Int) (l1 : Int) (l2 : Int) (h : qz_H) : Option qz_R :=
  fn_Md_constant_159 l0 l1 l2 1 h
def fn_Md_constant_119 (l0 : Int) (l1 : Int) (l2 : Int) (s0 : Int) (h : qz_H) : Option qz_R :=
  qz_bn (s0 : Int) fun x1 =>
  fn_Md_constant_161 l0 l1 l2 x1 h
def fn_Md_constant_118 (l0 : Int) (l1 : Int) (l2 : Int) (h : qz_H) : Option qz_R :=
  fn_Md_constant_119 l0 l1 l2 0 h
def fn_Md_constant_114 (l0 : Int) (l1 : Int) (l2 : Int) (h : qz_H) : Option qz_R :=
  fn_Md_constant_119 l0 l1 l2 1 h
def fn_Md_constant_76 (l0 : Int) (l1 : Int) (l2 : Int) (s0 : Int) (s1 : Int) (h : qz_H) : Option qz_R :=
  qz_bc (fn_Md_digits s0 s1 h) fun r1 h2 =>
  qz_bn (r1 : Int) fun x3 =>
  if l1 = 0 then
    if x3 = 0 then
      fn_Md_constant_158 l0 l1 l2 h2
    else
      qz_bc (fn_Md_below32 (h2 l0 47) h2) fun r4 h5 =>
      if r4 = 0 then
        fn_Md_constant_158 l0 l1 l2 h5
      else
        if l2 = 0 then
          fn_Md_constant_154 l0 l1 l2 h5
        else
          if 0 < qz_cmp (h5 l0 47) 2147483648 then
            fn_Md_constant_158 l0 l1 l2 h5
          else
            fn_Md_constant_154 l0 l1 l2 h5
  else
    if x3 = 0 then
      fn_Md_constant_118 l0 l1 l2 h2
    else
      if l2 = 0 then
        fn_Md_constant_114 l0 l1 l2 h2
      else
        if 0 ≤ qz_cmp (h2 l0 47) 0 then
          fn_Md_constant_114 l0 l1 l2 h2
        else
          if ¬ qz_cmp (h2 l0 47) (-9223372036854775808) = 0 then
            fn_Md_constant_118 l0 l1 l2 h2
          else
            fn_Md_constant_114 l0 l1 l2 h2
def fn_Md_constant_57 (l0 : Int) (l1 : Int) (l2 : Int) (s0 : Int) (h : qz_H) : Option qz_R :=
  qz_bn (s0 : Int) fun x1 =>
  if x1 = 0 then
    fn_Md_constant_76 l0 l1 l2 l0 (h l0 34) h
  else
    fn_Md_constant_76 l0 l1 l2 l0 (qz_w ((h l0 34) + 1)) h
def fn_Md_constant_52 (l0 : Int) (l1 : Int) (l2 : Int) (h : qz_H) : Option qz_R :=
  fn_Md_constant_57 l0 l1 l2 1 h
def fn_Md_constant_33 (l0 : Int) (l1 : Int) (s0 : Int) (h : qz_H) : Option qz_R :=
  qz_bn (s0 : Int) fun x1 =>
  if ¬ x1 = 0 then
    fn_Md_constant_52 l0 l1 x1 h
  else
    qz_ck ((h l0 6 : Int) ≠ 0) <|
    qz_ck ((0 : Int) ≤ h l0 34 ∧ h l0 34 < h (h l0 6) (-1)) <|
    if ¬ h (h l0 6) (h l0 34) = 43 then
      fn_Md_constant_57 l0 l1 x1 0 h
    else
      fn_Md_constant_52 l0 l1 x1 h
set_option maxRecDepth 20000 in
def fn_Md_constant (l0 : Int) (l1 : Int) (h : qz_H) : Option qz_R :=
  if h l0 33 = 3 then
    qz_ck ((h l0 6 : Int) ≠ 0) <|
    qz_ck ((0 : Int) ≤ h l0 34 ∧ h l0 34 < h (h l0 6) (-1)) <|
    if ¬ h (h l0 6) (h l0 34) = 45 then
      fn_Md_constant_33 l0 l1 0 h
    else
      fn_Md_constant_33 l0 l1 1 h
  else
    qz_bc (fn_Md_fail l0 1 h) fun r1 h2 =>
    qz_ck ((r1 : Int) = 0 ∨ (r1 : Int) = 1) (some (r1, h2))
def bk_Md_constant_0 : List (Instr × Nat) := [(.aload_n 0, 1), (.getfield 231, 3), (.iconst 3, 1), (.if_icmp .eq 9, 3), (.aload_n 0, 1), (.iconst 1, 1), (.invokevirtual 253, 3), (.ireturn, 1)]
def bk_Md_constant_14 : List (Instr × Nat) := [(.aload_n 0, 1), (.getfield 90, 3), (.aload_n 0, 1), (.getfield 224, 3), (.caload, 1), (.bipush 45, 2), (.if_icmp .ne 7, 3), (.iconst 1, 1), (.goto 4, 3)]
def bk_Md_constant_32 : List (Instr × Nat) := [(.iconst 0, 1)]
def bk_Md_constant_33 : List (Instr × Nat) := [(.istore_n 2, 1), (.iload_n 2, 1), (.ifCond .ne 17, 3), (.aload_n 0, 1), (.getfield 90, 3), (.aload_n 0, 1), (.getfield 224, 3), (.caload, 1), (.bipush 43, 2), (.if_icmp .ne 7, 3)]
def bk_Md_constant_52 : List (Instr × Nat) := [(.iconst 1, 1), (.goto 4, 3)]
def bk_Md_constant_56 : List (Instr × Nat) := [(.iconst 0, 1)]
def bk_Md_constant_57 : List (Instr × Nat) := [(.istore_n 3, 1), (.aload_n 0, 1), (.iload_n 3, 1), (.ifCond .eq 12, 3), (.aload_n 0, 1), (.getfield 224, 3), (.iconst 1, 1), (.iadd, 1), (.goto 7, 3)]
def bk_Md_constant_72 : List (Instr × Nat) := [(.aload_n 0, 1), (.getfield 224, 3)]
def bk_Md_constant_76 : List (Instr × Nat) := [(.invokevirtual 270, 3), (.istore 4, 2), (.iload_n 1, 1), (.ifCond .eq 42, 3), (.iload 4, 2), (.ifCond .eq 31, 3), (.iload_n 2, 1), (.ifCond .eq 23, 3), (.aload_n 0, 1), (.getfield 263, 3), (.lconst 0, 1), (.lcmp, 1), (.ifCond .ge 14, 3), (.aload_n 0, 1), (.getfield 263, 3), (.ldc2_w 273, 3), (.lcmp, 1), (.ifCond .ne 7, 3)]
def bk_Md_constant_124 : List (Instr × Nat) := [(.iload 4, 2), (.ifCond .eq 32, 3), (.aload_n 0, 1), (.getfield 263, 3), (.invokestatic 275, 3), (.ifCond .eq 22, 3), (.iload_n 2, 1), (.ifCond .eq 14, 3), (.aload_n 0, 1), (.getfield 263, 3), (.ldc2_w 279, 3), (.lcmp, 1), (.ifCond .gt 7, 3)]
def bk_Md_constant_158 : List (Instr × Nat) := [(.iconst 0, 1)]
def bk_Md_constant_154 : List (Instr × Nat) := [(.iconst 1, 1), (.goto 4, 3)]
def bk_Md_constant_118 : List (Instr × Nat) := [(.iconst 0, 1)]
def bk_Md_constant_114 : List (Instr × Nat) := [(.iconst 1, 1), (.goto 4, 3)]
def bk_Md_constant_159 : List (Instr × Nat) := [(.istore 4, 2)]
def bk_Md_constant_119 : List (Instr × Nat) := [(.istore 4, 2), (.goto 40, 3)]
def bk_Md_constant_161 : List (Instr × Nat) := [(.iload 4, 2), (.ifCond .ne 9, 3), (.aload_n 0, 1), (.iconst 1, 1), (.invokevirtual 253, 3), (.ireturn, 1)]
def bk_Md_constant_172 : List (Instr × Nat) := [(.aload_n 0, 1), (.iload_n 2, 1), (.ifCond .eq 11, 3), (.aload_n 0, 1), (.getfield 263, 3), (.lneg, 1), (.goto 7, 3)]
def bk_Md_constant_185 : List (Instr × Nat) := [(.aload_n 0, 1), (.getfield 263, 3)]
def bk_Md_constant_189 : List (Instr × Nat) := [(.putfield 263, 3), (.aload_n 0, 1), (.iload_n 1, 1), (.ifCond .eq 10, 3), (.aload_n 0, 1), (.getfield 263, 3), (.goto 9, 3)]
def bk_Md_constant_204 : List (Instr × Nat) := [(.aload_n 0, 1), (.getfield 263, 3), (.l2i, 1), (.i2l, 1)]
def bk_Md_constant_210 : List (Instr × Nat) := [(.putfield 263, 3), (.aload_n 0, 1), (.invokevirtual 256, 3), (.iconst 1, 1), (.ireturn, 1)]
theorem ca_Md_constant_0 : qz_ca yd_Md_constant.2.1 0 bk_Md_constant_0 := qz_cab_ok _ _ (by decide +kernel)
theorem ca_Md_constant_14 : qz_ca yd_Md_constant.2.1 14 bk_Md_constant_14 := qz_cab_ok _ _ (by decide +kernel)
theorem ca_Md_constant_32 : qz_ca yd_Md_constant.2.1 32 bk_Md_constant_32 := qz_cab_ok _ _ (by decide +kernel)
theorem ca_Md_constant_33 : qz_ca yd_Md_constant.2.1 33 bk_Md_constant_33 := qz_cab_ok _ _ (by decide +kernel)
theorem ca_Md_constant_52 : qz_ca yd_Md_constant.2.1 52 bk_Md_constant_52 := qz_cab_ok _ _ (by decide +kernel)
theorem ca_Md_constant_56 : qz_ca yd_Md_constant.2.1 56 bk_Md_constant_56 := qz_cab_ok _ _ (by decide +kernel)
theorem ca_Md_constant_57 : qz_ca yd_Md_constant.2.1 57 bk_Md_constant_57 := qz_cab_ok _ _ (by decide +kernel)
theorem ca_Md_constant_72 : qz_ca yd_Md_constant.2.1 72 bk_Md_constant_72 := qz_cab_ok _ _ (by decide +kernel)
theorem ca_Md_constant_76 : qz_ca yd_Md_constant.2.1 76 bk_Md_constant_76 := qz_cab_ok _ _ (by decide +kernel)
theorem ca_Md_constant_124 : qz_ca yd_Md_constant.2.1 124 bk_Md_constant_124 := qz_cab_ok _ _ (by decide +kernel)
theorem ca_Md_constant_158 : qz_ca yd_Md_constant.2.1 158 bk_Md_constant_158 := qz_cab_ok _ _ (by decide +kernel)
theorem ca_Md_constant_154 : qz_ca yd_Md_constant.2.1 154 bk_Md_constant_154 := qz_cab_ok _ _ (by decide +kernel)
theorem ca_Md_constant_118 : qz_ca yd_Md_constant.2.1 118 bk_Md_constant_118 := qz_cab_ok _ _ (by decide +kernel)
theorem ca_Md_constant_114 : qz_ca yd_Md_constant.2.1 114 bk_Md_constant_114 := qz_cab_ok _ _ (by decide +kernel)
theorem ca_Md_constant_159 : qz_ca yd_Md_constant.2.1 159 bk_Md_constant_159 := qz_cab_ok _ _ (by decide +kernel)
theorem ca_Md_constant_119 : qz_ca yd_Md_constant.2.1 119 bk_Md_constant_119 := qz_cab_ok _ _ (by decide +kernel)
theorem ca_Md_constant_161 : qz_ca yd_Md_constant.2.1 161 bk_Md_constant_161 := qz_cab_ok _ _ (by decide +kernel)
theorem ca_Md_constant_172 : qz_ca yd_Md_constant.2.1 172 bk_Md_constant_172 := qz_cab_ok _ _ (by decide +kernel)
theorem ca_Md_constant_185 : qz_ca yd_Md_constant.2.1 185 bk_Md_constant_185 := qz_cab_ok _ _ (by decide +kernel)
theorem ca_Md_constant_189 : qz_ca yd_Md_constant.2.1 189 bk_Md_constant_189 := qz_cab_ok _ _ (by decide +kernel)
theorem ca_Md_constant_204 : qz_ca yd_Md_constant.2.1 204 bk_Md_constant_204 := qz_cab_ok _ _ (by decide +kernel)
theorem ca_Md_constant_210 : qz_ca yd_Md_constant.2.1 210 bk_Md_constant_210 := qz_cab_ok _ _ (by decide +kernel)
set_option maxRecDepth 20000 in
theorem jb_Md_constant_210 (G : qz_G) (l0 : Int) (s0 : Int) (s1 : Int) (h : qz_H) : qz_J yd_Md_constant G bk_Md_constant_210 210 [qz_r true 12 l0, qz_u, qz_u, qz_u, qz_u] [qz_j s1, qz_r true 12 s0] h 0 0 (fn_Md_constant_210 l0 s0 s1 h) := by
  unfold fn_Md_constant_210 bk_Md_constant_210; exact
    qz_putJ kw_12 fp_Md_263_Md_constant rfl rfl fun h1 =>
    qz_aload_n rfl <|
    qz_invvV [] rfl (cn_Md_next l0 h1) mw_Md_next vw_Md_next ⟨_, rfl, rfl, by decide⟩ rfl rfl ln_Md_256 rfl fun _ h3 =>
    qz_iconst rfl <|
    qz_zreturn ⟨rfl, rfl⟩ rfl
set_option maxRecDepth 20000 in
theorem jb_Md_constant_189 (G : qz_G) (l0 : Int) (l1 : Int) (s0 : Int) (s1 : Int) (h : qz_H) : qz_J yd_Md_constant G bk_Md_constant_189 189 [qz_r true 12 l0, qz_i l1, qz_u, qz_u, qz_u] [qz_j s1, qz_r true 12 s0] h 0 0 (fn_Md_constant_189 l0 l1 s0 s1 h) := by
  unfold fn_Md_constant_189 bk_Md_constant_189; exact
    qz_putJ kw_12 fp_Md_263_Md_constant rfl rfl fun h1 =>
    qz_aload_n rfl <|
    qz_iload_n rfl <|
    qz_if_eq rfl ca_Md_constant_204
      (qz_aload_n rfl <|
        qz_getJ kg_12 fl_Md_263 rfl rfl <|
        qz_l2i <|
        qz_i2l <|
        qz_fall rfl ca_Md_constant_210 <|
        qz_fgt [1, 0, 0, 0, 0] <| jb_Md_constant_210 G l0 l0 (qz_w (h1 l0 47)) h1)
      (qz_aload_n rfl <|
        qz_getJ kg_12 fl_Md_263 rfl rfl <|
        qz_goto rfl ca_Md_constant_210 <|
        qz_fgt [1, 0, 0, 0, 0] <| jb_Md_constant_210 G l0 l0 (h1 l0 47) h1)
set_option maxRecDepth 20000 in
theorem jb_Md_constant_161 (G : qz_G) (l0 : Int) (l1 : Int) (l2 : Int) (l4 : Int) (h : qz_H) : qz_J yd_Md_constant G bk_Md_constant_161 161 [qz_r true 12 l0, qz_i l1, qz_i l2, qz_u, qz_i l4] [] h 0 0 (fn_Md_constant_161 l0 l1 l2 l4 h) := by
  unfold fn_Md_constant_161 bk_Md_constant_161; exact
    qz_iload rfl <|
    qz_if_ne rfl ca_Md_constant_172
      (qz_aload_n rfl <|
        qz_iload_n rfl <|
        qz_if_eq rfl ca_Md_constant_185
          (qz_aload_n rfl <|
            qz_getJ kg_12 fl_Md_263 rfl rfl <|
            qz_fall rfl ca_Md_constant_189 <|
            qz_fgt [1, 1, 0, 0, 0] <| jb_Md_constant_189 G l0 l1 l0 (h l0 47) h)
          (qz_aload_n rfl <|
            qz_getJ kg_12 fl_Md_263 rfl rfl <|
            qz_lneg <|
            qz_goto rfl ca_Md_constant_189 <|
            qz_fgt [1, 1, 0, 0, 0] <| jb_Md_constant_189 G l0 l1 l0 (qz_x (-(h l0 47))) h))
      (qz_aload_n rfl <|
        qz_iconst rfl <|
        qz_invvI [qz_i 1] rfl (cn_Md_fail l0 1 h) mw_Md_fail vw_Md_fail ⟨_, rfl, rfl, by decide⟩ rfl rfl ln_Md_253 rfl fun r1 h2 =>
        qz_zreturn ⟨rfl, rfl⟩ rfl)
set_option maxRecDepth 20000 in
theorem jb_Md_constant_159 (G : qz_G) (l0 : Int) (l1 : Int) (l2 : Int) (s0 : Int) (h : qz_H) : qz_J yd_Md_constant G bk_Md_constant_159 159 [qz_r true 12 l0, qz_i l1, qz_i l2, qz_u, qz_u] [qz_i s0] h 0 0 (fn_Md_constant_159 l0 l1 l2 s0 h) := by
  unfold fn_Md_constant_159 bk_Md_constant_159; exact
    qz_istore (by decide) fun x1 =>
    qz_fall rfl ca_Md_constant_161 <|
    qz_fgt [1, 1, 1, 0, 1] <| jb_Md_constant_161 G l0 l1 l2 x1 h
set_option maxRecDepth 20000 in
theorem jb_Md_constant_158 (G : qz_G) (l0 : Int) (l1 : Int) (l2 : Int) (h : qz_H) : qz_J yd_Md_constant G bk_Md_constant_158 158 [qz_r true 12 l0, qz_i l1, qz_i l2, qz_u, qz_u] [] h 0 0 (fn_Md_constant_158 l0 l1 l2 h) := by
  unfold fn_Md_constant_158 bk_Md_constant_158; exact
    qz_iconst rfl <|
    qz_fall rfl ca_Md_constant_159 <|
    qz_fgt [1, 1, 1, 0, 0] <| jb_Md_constant_159 G l0 l1 l2 0 h
set_option maxRecDepth 20000 in
theorem jb_Md_constant_154 (G : qz_G) (l0 : Int) (l1 : Int) (l2 : Int) (h : qz_H) : qz_J yd_Md_constant G bk_Md_constant_154 154 [qz_r true 12 l0, qz_i l1, qz_i l2, qz_u, qz_u] [] h 0 0 (fn_Md_constant_154 l0 l1 l2 h) := by
  unfold fn_Md_constant_154 bk_Md_constant_154; exact
    qz_iconst rfl <|
    qz_goto rfl ca_Md_constant_159 <|
    qz_fgt [1, 1, 1, 0, 0] <| jb_Md_constant_159 G l0 l1 l2 1 h
set_option maxRecDepth 20000 in
theorem jb_Md_constant_119 (G : qz_G) (l0 : Int) (l1 : Int) (l2 : Int) (s0 : Int) (h : qz_H) : qz_J yd_Md_constant G bk_Md_constant_119 119 [qz_r true 12 l0, qz_i l1, qz_i l2, qz_u, qz_u] [qz_i s0] h 0 0 (fn_Md_constant_119 l0 l1 l2 s0 h) := by
  unfold fn_Md_constant_119 bk_Md_constant_119; exact
    qz_istore (by decide) fun x1 =>
    qz_goto rfl ca_Md_constant_161 <|
    qz_fgt [1, 1, 1, 0, 1] <| jb_Md_constant_161 G l0 l1 l2 x1 h
set_option maxRecDepth 20000 in
theorem jb_Md_constant_118 (G : qz_G) (l0 : Int) (l1 : Int) (l2 : Int) (h : qz_H) : qz_J yd_Md_constant G bk_Md_constant_118 118 [qz_r true 12 l0, qz_i l1, qz_i l2, qz_u, qz_u] [] h 0 0 (fn_Md_constant_118 l0 l1 l2 h) := by
  unfold fn_Md_constant_118 bk_Md_constant_118; exact
    qz_iconst rfl <|
    qz_fall rfl ca_Md_constant_119 <|
    qz_fgt [1, 1, 1, 0, 0] <| jb_Md_constant_119 G l0 l1 l2 0 h
set_option maxRecDepth 20000 in
theorem jb_Md_constant_114 (G : qz_G) (l0 : Int) (l1 : Int) (l2 : Int) (h : qz_H) : qz_J yd_Md_constant G bk_Md_constant_114 114 [qz_r true 12 l0, qz_i l1, qz_i l2, qz_u, qz_u] [] h 0 0 (fn_Md_constant_114 l0 l1 l2 h) := by
  unfold fn_Md_constant_114 bk_Md_constant_114; exact
    qz_iconst rfl <|
    qz_goto rfl ca_Md_constant_119 <|
    qz_fgt [1, 1, 1, 0, 0] <| jb_Md_constant_119 G l0 l1 l2 1 h
set_option maxRecDepth 20000 in
theorem jb_Md_constant_76 (G : qz_G) (l0 : Int) (l1 : Int) (l2 : Int) (s0 : Int) (s1 : Int) (h : qz_H) : qz_J yd_Md_constant G bk_Md_constant_76 76 [qz_r true 12 l0, qz_i l1, qz_i l2, qz_u, qz_u] [qz_i s1, qz_r true 12 s0] h 0 0 (fn_Md_constant_76 l0 l1 l2 s0 s1 h) := by
  unfold fn_Md_constant_76 bk_Md_constant_76; exact
    qz_invvI [qz_i s1] rfl (cn_Md_digits s0 s1 h) mw_Md_digits vw_Md_digits ⟨_, rfl, rfl, by decide⟩ rfl rfl ln_Md_270 rfl fun r1 h2 =>
    qz_istore (by decide) fun x3 =>
    qz_iload_n rfl <|
    qz_if_eq rfl ca_Md_constant_124
      (qz_iload rfl <|
        qz_if_eq rfl ca_Md_constant_158
          (qz_fgt [1, 1, 1, 0, 0] <| jb_Md_constant_158 G l0 l1 l2 h2)
          (qz_aload_n rfl <|
            qz_getJ kg_12 fl_Md_263 rfl rfl <|
            qz_invsI [qz_j (h2 l0 47)] rfl (cn_Md_below32 (h2 l0 47) h2) mw_Md_below32 vs_Md_below32 rfl rfl ln_Md_275 rfl fun r4 h5 =>
            qz_if_eq rfl ca_Md_constant_158
              (qz_fgt [1, 1, 1, 0, 0] <| jb_Md_constant_158 G l0 l1 l2 h5)
              (qz_iload_n rfl <|
                qz_if_eq rfl ca_Md_constant_154
                  (qz_fgt [1, 1, 1, 0, 0] <| jb_Md_constant_154 G l0 l1 l2 h5)
                  (qz_aload_n rfl <|
                    qz_getJ kg_12 fl_Md_263 rfl rfl <|
                    qz_ldc2 wc_Md_279 rfl <|
                    qz_lcmp <|
                    qz_if_gt rfl ca_Md_constant_158
                      (qz_fgt [1, 1, 1, 0, 0] <| jb_Md_constant_158 G l0 l1 l2 h5)
                      (qz_fall rfl ca_Md_constant_154 <|
                        qz_fgt [1, 1, 1, 0, 0] <| jb_Md_constant_154 G l0 l1 l2 h5)))))
      (qz_iload rfl <|
        qz_if_eq rfl ca_Md_constant_118
          (qz_fgt [1, 1, 1, 0, 0] <| jb_Md_constant_118 G l0 l1 l2 h2)
          (qz_iload_n rfl <|
            qz_if_eq rfl ca_Md_constant_114
              (qz_fgt [1, 1, 1, 0, 0] <| jb_Md_constant_114 G l0 l1 l2 h2)
              (qz_aload_n rfl <|
                qz_getJ kg_12 fl_Md_263 rfl rfl <|
                qz_lconst rfl <|
                qz_lcmp <|
                qz_if_ge rfl ca_Md_constant_114
                  (qz_fgt [1, 1, 1, 0, 0] <| jb_Md_constant_114 G l0 l1 l2 h2)
                  (qz_aload_n rfl <|
                    qz_getJ kg_12 fl_Md_263 rfl rfl <|
                    qz_ldc2 wc_Md_273 rfl <|
                    qz_lcmp <|
                    qz_if_ne rfl ca_Md_constant_118
                      (qz_fgt [1, 1, 1, 0, 0] <| jb_Md_constant_118 G l0 l1 l2 h2)
                      (qz_fall rfl ca_Md_constant_114 <|
                        qz_fgt [1, 1, 1, 0, 0] <| jb_Md_constant_114 G l0 l1 l2 h2)))))
set_option maxRecDepth 20000 in
theorem jb_Md_constant_57 (G : qz_G) (l0 : Int) (l1 : Int) (l2 : Int) (s0 : Int) (h : qz_H) : qz_J yd_Md_constant G bk_Md_constant_57 57 [qz_r true 12 l0, qz_i l1, qz_i l2, qz_u, qz_u] [qz_i s0] h 0 0 (fn_Md_constant_57 l0 l1 l2 s0 h) := by
  unfold fn_Md_constant_57 bk_Md_constant_57; exact
    qz_istore_n (by decide) fun x1 =>
    qz_aload_n rfl <|
    qz_iload_n rfl <|
    qz_if_eq rfl ca_Md_constant_72
      (qz_aload_n rfl <|
        qz_getI kg_12 fl_Md_224 rfl rfl <|
        qz_fall rfl ca_Md_constant_76 <|
        qz_fgt [1, 1, 1, 0, 0] <| jb_Md_constant_76 G l0 l1 l2 l0 (h l0 34) h)
      (qz_aload_n rfl <|
        qz_getI kg_12 fl_Md_224 rfl rfl <|
        qz_iconst rfl <|
        qz_iadd <|
        qz_goto rfl ca_Md_constant_76 <|
        qz_fgt [1, 1, 1, 0, 0] <| jb_Md_constant_76 G l0 l1 l2 l0 (qz_w ((h l0 34) + 1)) h)
set_option maxRecDepth 20000 in
theorem jb_Md_constant_52 (G : qz_G) (l0 : Int) (l1 : Int) (l2 : Int) (h : qz_H) : qz_J yd_Md_constant G bk_Md_constant_52 52 [qz_r true 12 l0, qz_i l1, qz_i l2, qz_u, qz_u] [] h 0 0 (fn_Md_constant_52 l0 l1 l2 h) := by
  unfold fn_Md_constant_52 bk_Md_constant_52; exact
    qz_iconst rfl <|
    qz_goto rfl ca_Md_constant_57 <|
    qz_fgt [1, 1, 1, 0, 0] <| jb_Md_constant_57 G l0 l1 l2 1 h
set_option maxRecDepth 20000 in
theorem jb_Md_constant_33 (G : qz_G) (l0 : Int) (l1 : Int) (s0 : Int) (h : qz_H) : qz_J yd_Md_constant G bk_Md_constant_33 33 [qz_r true 12 l0, qz_i l1, qz_u, qz_u, qz_u] [qz_i s0] h 0 0 (fn_Md_constant_33 l0 l1 s0 h) := by
  unfold fn_Md_constant_33 bk_Md_constant_33; exact
    qz_istore_n (by decide) fun x1 =>
    qz_iload_n rfl <|
    qz_if_ne rfl ca_Md_constant_52
      (qz_fgt [1, 1, 1, 0, 0] <| jb_Md_constant_52 G l0 l1 x1 h)
      (qz_aload_n rfl <|
        qz_getR (k1 := 42) kg_12 fl_Md_90 rfl rfl <|
        qz_aload_n rfl <|
        qz_getI kg_12 fl_Md_224 rfl rfl <|
        qz_nnd 1 rfl <|
        qz_cald (k0 := 42) rfl rfl rfl <|
        qz_bipush rfl <|
        qz_icmp_ne rfl ca_Md_constant_56
          (qz_iconst rfl <|
            qz_fall rfl ca_Md_constant_57 <|
            qz_fgt [1, 1, 1, 0, 0] <| jb_Md_constant_57 G l0 l1 x1 0 h)
          (qz_fall rfl ca_Md_constant_52 <|
            qz_fgt [1, 1, 1, 0, 0] <| jb_Md_constant_52 G l0 l1 x1 h))
set_option maxRecDepth 20000 in
theorem cn_Md_constant (l0 : Int) (l1 : Int) (h : qz_H) : qz_C yd_Md_constant [qz_r true 12 l0, qz_i l1] h (fn_Md_constant l0 l1 h) := by
  refine qz_con (is := bk_Md_constant_0) (ls := [qz_r true 12 l0, qz_i l1, qz_u, qz_u, qz_u]) mw_Md_constant.2.2.2 ca_Md_constant_0 rfl rfl rfl fun G => ?_
  unfold fn_Md_constant bk_Md_constant_0; exact
    qz_aload_n rfl <|
    qz_getI kg_12 fl_Md_231 rfl rfl <|
    qz_iconst rfl <|
    qz_icmp_eq rfl ca_Md_constant_14
      (qz_aload_n rfl <|
        qz_getR (k1 := 42) kg_12 fl_Md_90 rfl rfl <|
        qz_aload_n rfl <|
        qz_getI kg_12 fl_Md_224 rfl rfl <|
        qz_nnd 1 rfl <|
        qz_cald (k0 := 42) rfl rfl rfl <|
        qz_bipush rfl <|
        qz_icmp_ne rfl ca_Md_constant_32
          (qz_iconst rfl <|
            qz_fall rfl ca_Md_constant_33 <|
            qz_fgt [1, 1, 0, 0, 0] <| jb_Md_constant_33 G l0 l1 0 h)
          (qz_iconst rfl <|
            qz_goto rfl ca_Md_constant_33 <|
            qz_fgt [1, 1, 0, 0, 0] <| jb_Md_constant_33 G l0 l1 1 h))
      (qz_aload_n rfl <|
        qz_iconst rfl <|
        qz_invvI [qz_i 1] rfl (cn_Md_fail l0 1 h) mw_Md_fail vw_Md_fail ⟨_, rfl, rfl, by decide⟩ rfl rfl ln_Md_253 rfl fun r1 h2 =>
        qz_zreturn ⟨rfl, rfl⟩ rfl)
def fn_Md_labelOf_63 (k9 : Int → Int → Int → qz_H → Option qz_R) (l0 : Int) (l1 : Int) (l2 : Int) (h : qz_H) : Option qz_R :=
  qz_bn (qz_w (l2 + (-1))) fun x1 =>
  k9 l0 l1 x1 h
def fn_Md_labelOf_60 (k9 : Int → Int → Int → qz_H → Option qz_R) (l0 : Int) (l1 : Int) (l2 : Int) (h : qz_H) : Option qz_R :=
  qz_bn (qz_w (l1 + 1)) fun x1 =>
  fn_Md_labelOf_63 k9 l0 x1 l2 h
def fn_Md_labelOf_9_b (k9 : Int → Int → Int → qz_H → Option qz_R) (l0 : Int) (l1 : Int) (l2 : Int) (h : qz_H) : Option qz_R :=
  if l2 < 0 then
    some ((-1), h)
  else
    qz_ck ((h l0 41 : Int) ≠ 0) <|
    qz_ck ((0 : Int) ≤ l2 ∧ l2 < h (h l0 41) (-1)) <|
    if ¬ h (h l0 41) l2 = 0 then
      fn_Md_labelOf_63 k9 l0 l1 l2 h
    else
      qz_ck ((h l0 44 : Int) ≠ 0) <|
      qz_ck ((0 : Int) ≤ l2 ∧ l2 < h (h l0 44) (-1)) <|
      if h (h l0 44) l2 ≤ 0 then
        fn_Md_labelOf_60 k9 l0 l1 l2 h
      else
        qz_ck ((h l0 43 : Int) ≠ 0) <|
        qz_ck ((0 : Int) ≤ l2 ∧ l2 < h (h l0 43) (-1)) <|
        qz_ck ((h l0 44 : Int) ≠ 0) <|
        qz_ck ((0 : Int) ≤ l2 ∧ l2 < h (h l0 44) (-1)) <|
        qz_bc (fn_Md_sameName l0 (h (h l0 43) l2) (h (h l0 44) l2) (h l0 34) (h l0 35) h) fun r1 h2 =>
        if r1 = 0 then
          fn_Md_labelOf_60 k9 l0 l1 l2 h2
        else
          some (l1, h2)
def fn_Md_labelOf_9 : Nat → Int → Int → Int → qz_H → Option qz_R
  | 0, _, _, _, _ => none
  | n + 1, l0, l1, l2, h => fn_Md_labelOf_9_b (fn_Md_labelOf_9 n) l0 l1 l2 h
set_option maxRecDepth 20000 in
def fn_Md_labelOf (l0 : Int) (h : qz_H) : Option qz_R :=
  qz_bn (0 : Int) fun x1 =>
  qz_bn (qz_w ((h l0 39) - 1) : Int) fun x2 =>
  fn_Md_labelOf_9 qz_NF l0 x1 x2 h
def bk_Md_labelOf_0 : List (Instr × Nat) := [(.iconst 0, 1), (.istore_n 1, 1), (.aload_n 0, 1), (.getfield 297, 3), (.iconst 1, 1), (.isub, 1), (.istore_n 2, 1)]
def bk_Md_labelOf_9 : List (Instr × Nat) := [(.iload_n 2, 1), (.ifCond .lt 59, 3), (.aload_n 0, 1), (.getfield 160, 3), (.iload_n 2, 1), (.baload, 1), (.ifCond .ne 44, 3), (.aload_n 0, 1), (.getfield 170, 3), (.iload_n 2, 1), (.iaload, 1), (.ifCond .le 32, 3), (.aload_n 0, 1), (.aload_n 0, 1), (.getfield 167, 3), (.iload_n 2, 1), (.iaload, 1), (.aload_n 0, 1), (.getfield 170, 3), (.iload_n 2, 1), (.iaload, 1), (.aload_n 0, 1), (.getfield 224, 3), (.aload_n 0, 1), (.getfield 247, 3), (.invokevirtual 300, 3), (.ifCond .eq 5, 3), (.iload_n 1, 1), (.ireturn, 1)]
def bk_Md_labelOf_69 : List (Instr × Nat) := [(.iconst (-1), 1), (.ireturn, 1)]
def bk_Md_labelOf_63 : List (Instr × Nat) := [(.iinc 2 (-1), 3), (.goto (-57), 3)]
def bk_Md_labelOf_60 : List (Instr × Nat) := [(.iinc 1 1, 3)]
theorem ca_Md_labelOf_0 : qz_ca yd_Md_labelOf.2.1 0 bk_Md_labelOf_0 := qz_cab_ok _ _ (by decide +kernel)
theorem ca_Md_labelOf_9 : qz_ca yd_Md_labelOf.2.1 9 bk_Md_labelOf_9 := qz_cab_ok _ _ (by decide +kernel)
theorem ca_Md_labelOf_69 : qz_ca yd_Md_labelOf.2.1 69 bk_Md_labelOf_69 := qz_cab_ok _ _ (by decide +kernel)
theorem ca_Md_labelOf_63 : qz_ca yd_Md_labelOf.2.1 63 bk_Md_labelOf_63 := qz_cab_ok _ _ (by decide +kernel)
theorem ca_Md_labelOf_60 : qz_ca yd_Md_labelOf.2.1 60 bk_Md_labelOf_60 := qz_cab_ok _ _ (by decide +kernel)
set_option maxRecDepth 20000 in
theorem jb_Md_labelOf_63 (G : qz_G) (k9 : Int → Int → Int → qz_H → Option qz_R) (jk9 : ∀ (l0 : Int) (l1 : Int) (l2 : Int) (h : qz_H), qz_J yd_Md_labelOf G bk_Md_labelOf_9 9 [qz_r true 12 l0, qz_i l1, qz_i l2] [] h 0 0 (k9 l0 l1 l2 h)) (l0 : Int) (l1 : Int) (l2 : Int) (h : qz_H) : qz_J yd_Md_labelOf G bk_Md_labelOf_63 63 [qz_r true 12 l0, qz_i l1, qz_i l2] [] h 0 0 (fn_Md_labelOf_63 k9 l0 l1 l2 h) := by
  unfold fn_Md_labelOf_63 bk_Md_labelOf_63; exact
    qz_iinc rfl (by decide) fun x1 =>
    qz_goto rfl ca_Md_labelOf_9 <|
    qz_fgt [1, 1, 1] <| jk9 l0 l1 x1 h
set_option maxRecDepth 20000 in
theorem jb_Md_labelOf_60 (G : qz_G) (k9 : Int → Int → Int → qz_H → Option qz_R) (jk9 : ∀ (l0 : Int) (l1 : Int) (l2 : Int) (h : qz_H), qz_J yd_Md_labelOf G bk_Md_labelOf_9 9 [qz_r true 12 l0, qz_i l1, qz_i l2] [] h 0 0 (k9 l0 l1 l2 h)) (l0 : Int) (l1 : Int) (l2 : Int) (h : qz_H) : qz_J yd_Md_labelOf G bk_Md_labelOf_60 60 [qz_r true 12 l0, qz_i l1, qz_i l2] [] h 0 0 (fn_Md_labelOf_60 k9 l0 l1 l2 h) := by
  unfold fn_Md_labelOf_60 bk_Md_labelOf_60; exact
    qz_iinc rfl (by decide) fun x1 =>
    qz_fall rfl ca_Md_labelOf_63 <|
    qz_fgt [1, 1, 1] <| jb_Md_labelOf_63 G k9 jk9 l0 x1 l2 h
set_option maxRecDepth 20000 in
theorem jb_Md_labelOf_9_b (G : qz_G) (k9 : Int → Int → Int → qz_H → Option qz_R) (jk9 : ∀ (l0 : Int) (l1 : Int) (l2 : Int) (h : qz_H), qz_J yd_Md_labelOf G bk_Md_labelOf_9 9 [qz_r true 12 l0, qz_i l1, qz_i l2] [] h 0 0 (k9 l0 l1 l2 h)) (l0 : Int) (l1 : Int) (l2 : Int) (h : qz_H) : qz_J yd_Md_labelOf G bk_Md_labelOf_9 9 [qz_r true 12 l0, qz_i l1, qz_i l2] [] h 0 0 (fn_Md_labelOf_9_b k9 l0 l1 l2 h) := by
  unfold fn_Md_labelOf_9_b bk_Md_labelOf_9; exact
    qz_iload_n rfl <|
    qz_if_lt rfl ca_Md_labelOf_69
      (qz_iconst rfl <|
        qz_ireturn ⟨rfl, rfl⟩ rfl)
      (qz_aload_n rfl <|
        qz_getR (k1 := 44) kg_12 fl_Md_160 rfl rfl <|
        qz_iload_n rfl <|
        qz_nnd 1 rfl <|
        qz_zald (k0 := 44) rfl rfl rfl <|
        qz_if_ne rfl ca_Md_labelOf_63
          (qz_fgt [1, 1, 1] <| jb_Md_labelOf_63 G k9 jk9 l0 l1 l2 h)
          (qz_aload_n rfl <|
            qz_getR (k1 := 40) kg_12 fl_Md_170 rfl rfl <|
            qz_iload_n rfl <|
            qz_nnd 1 rfl <|
            qz_iald (k0 := 40) rfl rfl rfl <|
            qz_if_le rfl ca_Md_labelOf_60
              (qz_fgt [1, 1, 1] <| jb_Md_labelOf_60 G k9 jk9 l0 l1 l2 h)
              (qz_aload_n rfl <|
                qz_aload_n rfl <|
                qz_getR (k1 := 40) kg_12 fl_Md_167 rfl rfl <|
                qz_iload_n rfl <|
                qz_nnd 1 rfl <|
                qz_iald (k0 := 40) rfl rfl rfl <|
                qz_aload_n rfl <|
                qz_getR (k1 := 40) kg_12 fl_Md_170 rfl rfl <|
                qz_iload_n rfl <|
                qz_nnd 1 rfl <|
                qz_iald (k0 := 40) rfl rfl rfl <|
                qz_aload_n rfl <|
                qz_getI kg_12 fl_Md_224 rfl rfl <|
                qz_aload_n rfl <|
                qz_getI kg_12 fl_Md_247 rfl rfl <|
                qz_invvI [qz_i (h (h l0 43) l2), qz_i (h (h l0 44) l2), qz_i (h l0 34), qz_i (h l0 35)] rfl (cn_Md_sameName l0 (h (h l0 43) l2) (h (h l0 44) l2) (h l0 34) (h l0 35) h) mw_Md_sameName vw_Md_sameName ⟨_, rfl, rfl, by decide⟩ rfl rfl ln_Md_300 rfl fun r1 h2 =>
                qz_if_eq rfl ca_Md_labelOf_60
                  (qz_fgt [1, 1, 1] <| jb_Md_labelOf_60 G k9 jk9 l0 l1 l2 h2)
                  (qz_iload_n rfl <|
                    qz_ireturn ⟨rfl, rfl⟩ rfl))))
theorem jb_Md_labelOf_9 (G : qz_G) : ∀ (n : Nat) (l0 l1 l2 : Int) (h : qz_H), qz_J yd_Md_labelOf G bk_Md_labelOf_9 9 [qz_r true 12 l0, qz_i l1, qz_i l2] [] h 0 0 (fn_Md_labelOf_9 n l0 l1 l2 h)
  | 0, _, _, _, _ => qz_none
  | n + 1, l0, l1, l2, h => jb_Md_labelOf_9_b G (fn_Md_labelOf_9 n) (jb_Md_labelOf_9 G n) l0 l1 l2 h
set_option maxRecDepth 20000 in
theorem cn_Md_labelOf (l0 : Int) (h : qz_H) : qz_C yd_Md_labelOf [qz_r true 12 l0] h (fn_Md_labelOf l0 h) := by
  refine qz_con (is := bk_Md_labelOf_0) (ls := [qz_r true 12 l0, qz_u, qz_u]) mw_Md_labelOf.2.2.2 ca_Md_labelOf_0 rfl rfl rfl fun G => ?_
  unfold fn_Md_labelOf bk_Md_labelOf_0; exact
    qz_iconst rfl <|
    qz_istore_n (by decide) fun x1 =>
    qz_aload_n rfl <|
    qz_getI kg_12 fl_Md_297 rfl rfl <|
    qz_iconst rfl <|
    qz_isub <|
    qz_istore_n (by decide) fun x2 =>
    qz_fall rfl ca_Md_labelOf_9 <|
    qz_fgt [1, 1, 1] <| jb_Md_labelOf_9 G qz_NF l0 x1 x2 h
def fn_Md_variableOf_50 (k2 : Int → Int → Int → qz_H → Option qz_R) (l0 : Int) (l1 : Int) (l2 : Int) (h : qz_H) : Option qz_R :=
  qz_bn (qz_w (l2 + 1)) fun x1 =>
  k2 l0 l1 x1 h
def fn_Md_variableOf_2_b (k2 : Int → Int → Int → qz_H → Option qz_R) (l0 : Int) (l1 : Int) (l2 : Int) (h : qz_H) : Option qz_R :=
  qz_ck ((h l0 17 : Int) ≠ 0) <|
  qz_ck ((0 : Int) ≤ l1 ∧ l1 < h (h l0 17) (-1)) <|
  if h (h l0 17) l1 ≤ l2 then
    some ((-1), h)
  else
    qz_ck ((h l0 27 : Int) ≠ 0) <|
    qz_ck ((0 : Int) ≤ l2 ∧ l2 < h (h l0 27) (-1)) <|
    if h (h l0 27) l2 ≤ 0 then
      fn_Md_variableOf_50 k2 l0 l1 l2 h
    else
      qz_ck ((h l0 26 : Int) ≠ 0) <|
      qz_ck ((0 : Int) ≤ l2 ∧ l2 < h (h l0 26) (-1)) <|
      qz_ck ((h l0 27 : Int) ≠ 0) <|
      qz_ck ((0 : Int) ≤ l2 ∧ l2 < h (h l0 27) (-1)) <|
      qz_bc (fn_Md_sameName l0 (h (h l0 26) l2) (h (h l0 27) l2) (h l0 34) (h l0 35) h) fun r1 h2 =>
      if r1 = 0 then
        fn_Md_variableOf_50 k2 l0 l1 l2 h2
      else
        some (l2, h2)
def fn_Md_variableOf_2 : Nat → Int → Int → Int → qz_H → Option qz_R
  | 0, _, _, _, _ => none
  | n + 1, l0, l1, l2, h => fn_Md_variableOf_2_b (fn_Md_variableOf_2 n) l0 l1 l2 h
set_option maxRecDepth 20000 in
def fn_Md_variableOf (l0 : Int) (l1 : Int) (h : qz_H) : Option qz_R :=
  qz_bn (0 : Int) fun x1 =>
  fn_Md_variableOf_2 qz_NF l0 l1 x1 h
def bk_Md_variableOf_0 : List (Instr × Nat) := [(.iconst 0, 1), (.istore_n 2, 1)]
def bk_Md_variableOf_2 : List (Instr × Nat) := [(.iload_n 2, 1), (.aload_n 0, 1), (.getfield 118, 3), (.iload_n 1, 1), (.iaload, 1), (.if_icmp .ge 47, 3), (.aload_n 0, 1), (.getfield 145, 3), (.iload_n 2, 1), (.iaload, 1), (.ifCond .le 32, 3), (.aload_n 0, 1), (.aload_n 0, 1), (.getfield 142, 3), (.iload_n 2, 1), (.iaload, 1), (.aload_n 0, 1), (.getfield 145, 3), (.iload_n 2, 1), (.iaload, 1), (.aload_n 0, 1), (.getfield 224, 3), (.aload_n 0, 1), (.getfield 247, 3), (.invokevirtual 300, 3), (.ifCond .eq 5, 3), (.iload_n 2, 1), (.ireturn, 1)]
def bk_Md_variableOf_56 : List (Instr × Nat) := [(.iconst (-1), 1), (.ireturn, 1)]
def bk_Md_variableOf_50 : List (Instr × Nat) := [(.iinc 2 1, 3), (.goto (-51), 3)]
theorem ca_Md_variableOf_0 : qz_ca yd_Md_variableOf.2.1 0 bk_Md_variableOf_0 := qz_cab_ok _ _ (by decide +kernel)
theorem ca_Md_variableOf_2 : qz_ca yd_Md_variableOf.2.1 2 bk_Md_variableOf_2 := qz_cab_ok _ _ (by decide +kernel)
theorem ca_Md_variableOf_56 : qz_ca yd_Md_variableOf.2.1 56 bk_Md_variableOf_56 := qz_cab_ok _ _ (by decide +kernel)
theorem ca_Md_variableOf_50 : qz_ca yd_Md_variableOf.2.1 50 bk_Md_variableOf_50 := qz_cab_ok _ _ (by decide +kernel)
set_option maxRecDepth 20000 in
theorem jb_Md_variableOf_50 (G : qz_G) (k2 : Int → Int → Int → qz_H → Option qz_R) (jk2 : ∀ (l0 : Int) (l1 : Int) (l2 : Int) (h : qz_H), qz_J yd_Md_variableOf G bk_Md_variableOf_2 2 [qz_r true 12 l0, qz_i l1, qz_i l2] [] h 0 0 (k2 l0 l1 l2 h)) (l0 : Int) (l1 : Int) (l2 : Int) (h : qz_H) : qz_J yd_Md_variableOf G bk_Md_variableOf_50 50 [qz_r true 12 l0, qz_i l1, qz_i l2] [] h 0 0 (fn_Md_variableOf_50 k2 l0 l1 l2 h) := by
  unfold fn_Md_variableOf_50 bk_Md_variableOf_50; exact
    qz_iinc rfl (by decide) fun x1 =>
    qz_goto rfl ca_Md_variableOf_2 <|
    qz_fgt [1, 1, 1] <| jk2 l0 l1 x1 h
set_option maxRecDepth 20000 in
theorem jb_Md_variableOf_2_b (G : qz_G) (k2 : Int → Int → Int → qz_H → Option qz_R) (jk2 : ∀ (l0 : Int) (l1 : Int) (l2 : Int) (h : qz_H), qz_J yd_Md_variableOf G bk_Md_variableOf_2 2 [qz_r true 12 l0, qz_i l1, qz_i l2] [] h 0 0 (k2 l0 l1 l2 h)) (l0 : Int) (l1 : Int) (l2 : Int) (h : qz_H) : qz_J yd_Md_variableOf G bk_Md_variableOf_2 2 [qz_r true 12 l0, qz_i l1, qz_i l2] [] h 0 0 (fn_Md_variableOf_2_b k2 l0 l1 l2 h) := by
  unfold fn_Md_variableOf_2_b bk_Md_variableOf_2; exact
    qz_iload_n rfl <|
    qz_aload_n rfl <|
    qz_getR (k1 := 40) kg_12 fl_Md_118 rfl rfl <|
    qz_iload_n rfl <|
    qz_nnd 1 rfl <|
    qz_iald (k0 := 40) rfl rfl rfl <|
    qz_icmp_ge rfl ca_Md_variableOf_56
      (qz_iconst rfl <|
        qz_ireturn ⟨rfl, rfl⟩ rfl)
      (qz_aload_n rfl <|
        qz_getR (k1 := 40) kg_12 fl_Md_145 rfl rfl <|
        qz_iload_n rfl <|
        qz_nnd 1 rfl <|
        qz_iald (k0 := 40) rfl rfl rfl <|
        qz_if_le rfl ca_Md_variableOf_50
          (qz_fgt [1, 1, 1] <| jb_Md_variableOf_50 G k2 jk2 l0 l1 l2 h)
          (qz_aload_n rfl <|
            qz_aload_n rfl <|
            qz_getR (k1 := 40) kg_12 fl_Md_142 rfl rfl <|
            qz_iload_n rfl <|
            qz_nnd 1 rfl <|
            qz_iald (k0 := 40) rfl rfl rfl <|
            qz_aload_n rfl <|
            qz_getR (k1 := 40) kg_12 fl_Md_145 rfl rfl <|
            qz_iload_n rfl <|
            qz_nnd 1 rfl <|
            qz_iald (k0 := 40) rfl rfl rfl <|
            qz_aload_n rfl <|
            qz_getI kg_12 fl_Md_224 rfl rfl <|
            qz_aload_n rfl <|
            qz_getI kg_12 fl_Md_247 rfl rfl <|
            qz_invvI [qz_i (h (h l0 26) l2), qz_i (h (h l0 27) l2), qz_i (h l0 34), qz_i (h l0 35)] rfl (cn_Md_sameName l0 (h (h l0 26) l2) (h (h l0 27) l2) (h l0 34) (h l0 35) h) mw_Md_sameName vw_Md_sameName ⟨_, rfl, rfl, by decide⟩ rfl rfl ln_Md_300 rfl fun r1 h2 =>
            qz_if_eq rfl ca_Md_variableOf_50
              (qz_fgt [1, 1, 1] <| jb_Md_variableOf_50 G k2 jk2 l0 l1 l2 h2)
              (qz_iload_n rfl <|
                qz_ireturn ⟨rfl, rfl⟩ rfl)))
theorem jb_Md_variableOf_2 (G : qz_G) : ∀ (n : Nat) (l0 l1 l2 : Int) (h : qz_H), qz_J yd_Md_variableOf G bk_Md_variableOf_2 2 [qz_r true 12 l0, qz_i l1, qz_i l2] [] h 0 0 (fn_Md_variableOf_2 n l0 l1 l2 h)
  | 0, _, _, _, _ => qz_none
  | n + 1, l0, l1, l2, h => jb_Md_variableOf_2_b G (fn_Md_variableOf_2 n) (jb_Md_variableOf_2 G n) l0 l1 l2 h
set_option maxRecDepth 20000 in
theorem cn_Md_variableOf (l0 : Int) (l1 : Int) (h : qz_H) : qz_C yd_Md_variableOf [qz_r true 12 l0, qz_i l1] h (fn_Md_variableOf l0 l1 h) := by
  refine qz_con (is := bk_Md_variableOf_0) (ls := [qz_r true 12 l0, qz_i l1, qz_u]) mw_Md_variableOf.2.2.2 ca_Md_variableOf_0 rfl rfl rfl fun G => ?_
  unfold fn_Md_variableOf bk_Md_variableOf_0; exact
    qz_iconst rfl <|
    qz_istore_n (by decide) fun x1 =>
    qz_fall rfl ca_Md_variableOf_2 <|
    qz_fgt [1, 1, 1] <| jb_Md_variableOf_2 G qz_NF l0 l1 x1 h
def fn_Md_index_162 (l0 : Int) (h : qz_H) : Option qz_R :=
  qz_bc (fn_Md_next l0 h) fun _ h2 =>
  qz_ck ((1 : Int) = 0 ∨ (1 : Int) = 1) (some (1, h2))
def fn_Md_index_145 (l0 : Int) (s0 : Int) (h : qz_H) : Option qz_R :=
  qz_bn (s0 : Int) fun x1 =>
  if 0 ≤ x1 then
    qz_ck ((0 : Int) < l0) <|
    qz_bn (qz_up h l0 47 x1) fun h2 =>
    fn_Md_index_162 l0 h2
  else
    qz_bc (fn_Md_fail l0 1 h) fun r3 h4 =>
    qz_ck ((r3 : Int) = 0 ∨ (r3 : Int) = 1) (some (r3, h4))
def fn_Md_index_47 (l0 : Int) (h : qz_H) : Option qz_R :=
  qz_bc (fn_Md_fail l0 1 h) fun r1 h2 =>
  qz_ck ((r1 : Int) = 0 ∨ (r1 : Int) = 1) (some (r1, h2))
set_option maxRecDepth 20000 in
def fn_Md_index (l0 : Int) (l1 : Int) (l2 : Int) (h : qz_H) : Option qz_R :=
  qz_ck ((0 : Int) < l0) <|
  qz_bn (qz_up h l0 48 (-1)) fun h1 =>
  if h1 l0 33 = 3 then
    qz_bc (fn_Md_isId l0 h1) fun r2 h3 =>
    if ¬ r2 = 0 then
      if ¬ l1 = 16 then
        if 16 ≤ l1 then
          qz_bc (fn_Md_variableOf l0 l2 h3) fun r4 h5 =>
          fn_Md_index_145 l0 r4 h5
        else
          qz_bc (fn_Md_labelOf l0 h3) fun r6 h7 =>
          fn_Md_index_145 l0 r6 h7
      else
        qz_ck ((h3 l0 29 : Int) ≠ 0) <|
        qz_ck (0 < h3 l0 29 ∧ (0 : Int) ≤ h3 l0 28 ∧ h3 l0 28 < h3 (h3 l0 29) (-1)) <|
        qz_bn (qz_up h3 (h3 l0 29) (h3 l0 28) (h3 l0 34)) fun h8 =>
        qz_ck ((h8 l0 30 : Int) ≠ 0) <|
        qz_ck (0 < h8 l0 30 ∧ (0 : Int) ≤ h8 l0 28 ∧ h8 l0 28 < h8 (h8 l0 30) (-1)) <|
        qz_bn (qz_up h8 (h8 l0 30) (h8 l0 28) (h8 l0 35)) fun h9 =>
        qz_ck ((h9 l0 31 : Int) ≠ 0) <|
        qz_ck (0 < h9 l0 31 ∧ (0 : Int) ≤ h9 l0 28 ∧ h9 l0 28 < h9 (h9 l0 31) (-1)) <|
        qz_bn (qz_up h9 (h9 l0 31) (h9 l0 28) (-1)) fun h10 =>
        qz_ck ((0 : Int) < l0) <|
        qz_bn (qz_up h10 l0 48 (h10 l0 28)) fun h11 =>
        qz_ck ((0 : Int) < l0) <|
        qz_bn (qz_up h11 l0 28 (qz_w ((h11 l0 28) + 1))) fun h12 =>
        qz_ck ((0 : Int) < l0) <|
        qz_bn (qz_up h12 l0 47 0) fun h13 =>
        fn_Md_index_162 l0 h13
    else
      qz_bc (fn_Md_digits l0 (h3 l0 34) h3) fun r14 h15 =>
      if r14 = 0 then
        fn_Md_index_47 l0 h15
      else
        qz_bc (fn_Md_below32 (h15 l0 47) h15) fun r16 h17 =>
        if ¬ r16 = 0 then
          qz_bc (fn_Md_next l0 h17) fun _ h19 =>
          qz_ck ((1 : Int) = 0 ∨ (1 : Int) = 1) (some (1, h19))
        else
          fn_Md_index_47 l0 h17
  else
    qz_bc (fn_Md_fail l0 1 h1) fun r20 h21 =>
    qz_ck ((r20 : Int) = 0 ∨ (r20 : Int) = 1) (some (r20, h21))
def bk_Md_index_0 : List (Instr × Nat) := [(.aload_n 0, 1), (.iconst (-1), 1), (.putfield 281, 3), (.aload_n 0, 1), (.getfield 231, 3), (.iconst 3, 1), (.if_icmp .eq 9, 3), (.aload_n 0, 1), (.iconst 1, 1), (.invokevirtual 253, 3), (.ireturn, 1)]
def bk_Md_index_19 : List (Instr × Nat) := [(.aload_n 0, 1), (.invokevirtual 284, 3), (.ifCond .ne 36, 3), (.aload_n 0, 1), (.aload_n 0, 1), (.getfield 224, 3), (.invokevirtual 270, 3), (.ifCond .eq 13, 3), (.aload_n 0, 1), (.getfield 263, 3), (.invokestatic 275, 3), (.ifCond .ne 9, 3)]
def bk_Md_index_59 : List (Instr × Nat) := [(.iload_n 1, 1), (.bipush 16, 2), (.if_icmp .ne 65, 3), (.aload_n 0, 1), (.getfield 148, 3), (.aload_n 0, 1), (.getfield 287, 3), (.aload_n 0, 1), (.getfield 224, 3), (.iastore, 1), (.aload_n 0, 1), (.getfield 151, 3), (.aload_n 0, 1), (.getfield 287, 3), (.aload_n 0, 1), (.getfield 247, 3), (.iastore, 1), (.aload_n 0, 1), (.getfield 154, 3), (.aload_n 0, 1), (.getfield 287, 3), (.iconst (-1), 1), (.iastore, 1), (.aload_n 0, 1), (.aload_n 0, 1), (.getfield 287, 3), (.putfield 281, 3), (.aload_n 0, 1), (.dup, 1), (.getfield 287, 3), (.iconst 1, 1), (.iadd, 1), (.putfield 287, 3), (.aload_n 0, 1), (.lconst 0, 1), (.putfield 263, 3), (.goto 38, 3)]
def bk_Md_index_127 : List (Instr × Nat) := [(.iload_n 1, 1), (.bipush 16, 2), (.if_icmp .ge 10, 3), (.aload_n 0, 1), (.invokevirtual 290, 3), (.goto 8, 3)]
def bk_Md_index_140 : List (Instr × Nat) := [(.aload_n 0, 1), (.iload_n 2, 1), (.invokevirtual 294, 3)]
def bk_Md_index_145 : List (Instr × Nat) := [(.istore_n 3, 1), (.iload_n 3, 1), (.ifCond .ge 9, 3), (.aload_n 0, 1), (.iconst 1, 1), (.invokevirtual 253, 3), (.ireturn, 1)]
def bk_Md_index_162 : List (Instr × Nat) := [(.aload_n 0, 1), (.invokevirtual 256, 3), (.iconst 1, 1), (.ireturn, 1)]
def bk_Md_index_47 : List (Instr × Nat) := [(.aload_n 0, 1), (.iconst 1, 1), (.invokevirtual 253, 3), (.ireturn, 1)]
def bk_Md_index_53 : List (Instr × Nat) := [(.aload_n 0, 1), (.invokevirtual 256, 3), (.iconst 1, 1), (.ireturn, 1)]
def bk_Md_index_156 : List (Instr × Nat) := [(.aload_n 0, 1), (.iload_n 3, 1), (.i2l, 1), (.putfield 263, 3)]
theorem ca_Md_index_0 : qz_ca yd_Md_index.2.1 0 bk_Md_index_0 := qz_cab_ok _ _ (by decide +kernel)
theorem ca_Md_index_19 : qz_ca yd_Md_index.2.1 19 bk_Md_index_19 := qz_cab_ok _ _ (by decide +kernel)
theorem ca_Md_index_59 : qz_ca yd_Md_index.2.1 59 bk_Md_index_59 := qz_cab_ok _ _ (by decide +kernel)
theorem ca_Md_index_127 : qz_ca yd_Md_index.2.1 127 bk_Md_index_127 := qz_cab_ok _ _ (by decide +kernel)
theorem ca_Md_index_140 : qz_ca yd_Md_index.2.1 140 bk_Md_index_140 := qz_cab_ok _ _ (by decide +kernel)
theorem ca_Md_index_145 : qz_ca yd_Md_index.2.1 145 bk_Md_index_145 := qz_cab_ok _ _ (by decide +kernel)
theorem ca_Md_index_162 : qz_ca yd_Md_index.2.1 162 bk_Md_index_162 := qz_cab_ok _ _ (by decide +kernel)
theorem ca_Md_index_47 : qz_ca yd_Md_index.2.1 47 bk_Md_index_47 := qz_cab_ok _ _ (by decide +kernel)
theorem ca_Md_index_53 : qz_ca yd_Md_index.2.1 53 bk_Md_index_53 := qz_cab_ok _ _ (by decide +kernel)
theorem ca_Md_index_156 : qz_ca yd_Md_index.2.1 156 bk_Md_index_156 := qz_cab_ok _ _ (by decide +kernel)
set_option maxRecDepth 20000 in
theorem jb_Md_index_162 (G : qz_G) (l0 : Int) (h : qz_H) : qz_J yd_Md_index G bk_Md_index_162 162 [qz_r true 12 l0, qz_u, qz_u, qz_u] [] h 0 0 (fn_Md_index_162 l0 h) := by
  unfold fn_Md_index_162 bk_Md_index_162; exact
    qz_aload_n rfl <|
    qz_invvV [] rfl (cn_Md_next l0 h) mw_Md_next vw_Md_next ⟨_, rfl, rfl, by decide⟩ rfl rfl ln_Md_256 rfl fun _ h2 =>
    qz_iconst rfl <|
    qz_zreturn ⟨rfl, rfl⟩ rfl
set_option maxRecDepth 20000 in
theorem jb_Md_index_145 (G : qz_G) (l0 : Int) (s0 : Int) (h : qz_H) : qz_J yd_Md_index G bk_Md_index_145 145 [qz_r true 12 l0, qz_u, qz_u, qz_u] [qz_i s0] h 0 0 (fn_Md_index_145 l0 s0 h) := by
  unfold fn_Md_index_145 bk_Md_index_145; exact
    qz_istore_n (by decide) fun x1 =>
    qz_iload_n rfl <|
    qz_if_ge rfl ca_Md_index_156
      (qz_aload_n rfl <|
        qz_iload_n rfl <|
        qz_i2l <|
        qz_putJ kw_12 fp_Md_263_Md_index rfl rfl fun h2 =>
        qz_fall rfl ca_Md_index_162 <|
        qz_fgt [1, 0, 0, 0] <| jb_Md_index_162 G l0 h2)
      (qz_aload_n rfl <|
        qz_iconst rfl <|
        qz_invvI [qz_i 1] rfl (cn_Md_fail l0 1 h) mw_Md_fail vw_Md_fail ⟨_, rfl, rfl, by decide⟩ rfl rfl ln_Md_253 rfl fun r3 h4 =>
        qz_zreturn ⟨rfl, rfl⟩ rfl)
set_option maxRecDepth 20000 in
theorem jb_Md_index_47 (G : qz_G) (l0 : Int) (h : qz_H) : qz_J yd_Md_index G bk_Md_index_47 47 [qz_r true 12 l0, qz_u, qz_u, qz_u] [] h 0 0 (fn_Md_index_47 l0 h) := by
  unfold fn_Md_index_47 bk_Md_index_47; exact
    qz_aload_n rfl <|
    qz_iconst rfl <|
    qz_invvI [qz_i 1] rfl (cn_Md_fail l0 1 h) mw_Md_fail vw_Md_fail ⟨_, rfl, rfl, by decide⟩ rfl rfl ln_Md_253 rfl fun r1 h2 =>
    qz_zreturn ⟨rfl, rfl⟩ rfl
set_option maxRecDepth 20000 in
theorem cn_Md_index (l0 : Int) (l1 : Int) (l2 : Int) (h : qz_H) : qz_C yd_Md_index [qz_r true 12 l0, qz_i l1, qz_i l2] h (fn_Md_index l0 l1 l2 h) := by
  refine qz_con (is := bk_Md_index_0) (ls := [qz_r true 12 l0, qz_i l1, qz_i l2, qz_u]) mw_Md_index.2.2.2 ca_Md_index_0 rfl rfl rfl fun G => ?_
  unfold fn_Md_index bk_Md_index_0; exact
    qz_aload_n rfl <|
    qz_iconst rfl <|
    qz_putI kw_12 fp_Md_281_Md_index rfl rfl fun h1 =>
    qz_aload_n rfl <|
    qz_getI kg_12 fl_Md_231 rfl rfl <|
    qz_iconst rfl <|
    qz_icmp_eq rfl ca_Md_index_19
      (qz_aload_n rfl <|
        qz_invvI [] rfl (cn_Md_isId l0 h1) mw_Md_isId vw_Md_isId ⟨_, rfl, rfl, by decide⟩ rfl rfl ln_Md_284 rfl fun r2 h3 =>
        qz_if_ne rfl ca_Md_index_59
          (qz_iload_n rfl <|
            qz_bipush rfl <|
            qz_icmp_ne rfl ca_Md_index_127
              (qz_iload_n rfl <|
                qz_bipush rfl <|
                qz_icmp_ge rfl ca_Md_index_140
                  (qz_aload_n rfl <|
                    qz_iload_n rfl <|
                    qz_invvI [qz_i l2] rfl (cn_Md_variableOf l0 l2 h3) mw_Md_variableOf vw_Md_variableOf ⟨_, rfl, rfl, by decide⟩ rfl rfl ln_Md_294 rfl fun r4 h5 =>
                    qz_fall rfl ca_Md_index_145 <|
                    qz_fgt [1, 0, 0, 0] <| jb_Md_index_145 G l0 r4 h5)
                  (qz_aload_n rfl <|
                    qz_invvI [] rfl (cn_Md_labelOf l0 h3) mw_Md_labelOf vw_Md_labelOf ⟨_, rfl, rfl, by decide⟩ rfl rfl ln_Md_290 rfl fun r6 h7 =>
                    qz_goto rfl ca_Md_index_145 <|
                    qz_fgt [1, 0, 0, 0] <| jb_Md_index_145 G l0 r6 h7))
              (qz_aload_n rfl <|
                qz_getR (k1 := 40) kg_12 fl_Md_148 rfl rfl <|
                qz_aload_n rfl <|
                qz_getI kg_12 fl_Md_287 rfl rfl <|
                qz_aload_n rfl <|
                qz_getI kg_12 fl_Md_224 rfl rfl <|
                qz_nnd 2 rfl <|
                qz_iast rfl rfl rfl fun h8 =>
                qz_aload_n rfl <|
                qz_getR (k1 := 40) kg_12 fl_Md_151 rfl rfl <|
                qz_aload_n rfl <|
                qz_getI kg_12 fl_Md_287 rfl rfl <|
                qz_aload_n rfl <|
                qz_getI kg_12 fl_Md_247 rfl rfl <|
                qz_nnd 2 rfl <|
                qz_iast rfl rfl rfl fun h9 =>
                qz_aload_n rfl <|
                qz_getR (k1 := 40) kg_12 fl_Md_154 rfl rfl <|
                qz_aload_n rfl <|
                qz_getI kg_12 fl_Md_287 rfl rfl <|
                qz_iconst rfl <|
                qz_nnd 2 rfl <|
                qz_iast rfl rfl rfl fun h10 =>
                qz_aload_n rfl <|
                qz_aload_n rfl <|
                qz_getI kg_12 fl_Md_287 rfl rfl <|
                qz_putI kw_12 fp_Md_281_Md_index rfl rfl fun h11 =>
                qz_aload_n rfl <|
                qz_dup rfl <|
                qz_getI kg_12 fl_Md_287 rfl rfl <|
                qz_iconst rfl <|
                qz_iadd <|
                qz_putI kw_12 fp_Md_287_Md_index rfl rfl fun h12 =>
                qz_aload_n rfl <|
                qz_lconst rfl <|
                qz_putJ kw_12 fp_Md_263_Md_index rfl rfl fun h13 =>
                qz_goto rfl ca_Md_index_162 <|
                qz_fgt [1, 0, 0, 0] <| jb_Md_index_162 G l0 h13))
          (qz_aload_n rfl <|
            qz_aload_n rfl <|
            qz_getI kg_12 fl_Md_224 rfl rfl <|
            qz_invvI [qz_i (h3 l0 34)] rfl (cn_Md_digits l0 (h3 l0 34) h3) mw_Md_digits vw_Md_digits ⟨_, rfl, rfl, by decide⟩ rfl rfl ln_Md_270 rfl fun r14 h15 =>
            qz_if_eq rfl ca_Md_index_47
              (qz_fgt [1, 0, 0, 0] <| jb_Md_index_47 G l0 h15)
              (qz_aload_n rfl <|
                qz_getJ kg_12 fl_Md_263 rfl rfl <|
                qz_invsI [qz_j (h15 l0 47)] rfl (cn_Md_below32 (h15 l0 47) h15) mw_Md_below32 vs_Md_below32 rfl rfl ln_Md_275 rfl fun r16 h17 =>
                qz_if_ne rfl ca_Md_index_53
                  (qz_aload_n rfl <|
                    qz_invvV [] rfl (cn_Md_next l0 h17) mw_Md_next vw_Md_next ⟨_, rfl, rfl, by decide⟩ rfl rfl ln_Md_256 rfl fun _ h19 =>
                    qz_iconst rfl <|
                    qz_zreturn ⟨rfl, rfl⟩ rfl)
                  (qz_fall rfl ca_Md_index_47 <|
                    qz_fgt [1, 0, 0, 0] <| jb_Md_index_47 G l0 h17))))
      (qz_aload_n rfl <|
        qz_iconst rfl <|
        qz_invvI [qz_i 1] rfl (cn_Md_fail l0 1 h1) mw_Md_fail vw_Md_fail ⟨_, rfl, rfl, by decide⟩ rfl rfl ln_Md_253 rfl fun r20 h21 =>
        qz_zreturn ⟨rfl, rfl⟩ rfl)
def fn_Md_instructionWord_60 (k4 : Int → Int → Int → qz_H → Option qz_R) (l0 : Int) (l2 : Int) (s0 : Int) (h : qz_H) : Option qz_R :=
  qz_bn (s0 : Int) fun x1 =>
  qz_bn (qz_w (l2 + 1)) fun x2 =>
  k4 l0 x1 x2 h
def fn_Md_instructionWord_59 (k4 : Int → Int → Int → qz_H → Option qz_R) (l0 : Int) (l1 : Int) (l2 : Int) (h : qz_H) : Option qz_R :=
  fn_Md_instructionWord_60 k4 l0 l2 l1 h
def fn_Md_instructionWord_4_b (k4 : Int → Int → Int → qz_H → Option qz_R) (l0 : Int) (l1 : Int) (l2 : Int) (h : qz_H) : Option qz_R :=
  if 30 ≤ l2 then
    some (l1, h)
  else
    if ¬ h l0 33 = 3 then
      fn_Md_instructionWord_59 k4 l0 l1 l2 h
    else
      if 16 < h l0 35 then
        fn_Md_instructionWord_59 k4 l0 l1 l2 h
      else
        qz_ck ((h l0 0 : Int) ≠ 0) <|
        qz_ck ((0 : Int) ≤ l2 ∧ l2 < h (h l0 0) (-1)) <|
        if ¬ qz_cmp (h l0 36) (h (h l0 0) l2) = 0 then
          fn_Md_instructionWord_59 k4 l0 l1 l2 h
        else
          qz_ck ((h l0 1 : Int) ≠ 0) <|
          qz_ck ((0 : Int) ≤ l2 ∧ l2 < h (h l0 1) (-1)) <|
          if ¬ qz_cmp (h l0 37) (h (h l0 1) l2) = 0 then
            fn_Md_instructionWord_59 k4 l0 l1 l2 h
          else
            fn_Md_instructionWord_60 k4 l0 l2 l2 h
def fn_Md_instructionWord_4 : Nat → Int → Int → Int → qz_H → Option qz_R
  | 0, _, _, _, _ => none
  | n + 1, l0, l1, l2, h => fn_Md_instructionWord_4_b (fn_Md_instructionWord_4 n) l0 l1 l2 h
set_option maxRecDepth 20000 in
def fn_Md_instructionWord (l0 : Int) (h : qz_H) : Option qz_R :=
  qz_bn ((-1) : Int) fun x1 =>
  qz_bn (0 : Int) fun x2 =>
  fn_Md_instructionWord_4 qz_NF l0 x1 x2 h
def bk_Md_instructionWord_0 : List (Instr × Nat) := [(.iconst (-1), 1), (.istore_n 1, 1), (.iconst 0, 1), (.istore_n 2, 1)]
def bk_Md_instructionWord_4 : List (Instr × Nat) := [(.iload_n 2, 1), (.bipush 30, 2), (.if_icmp .ge 60, 3), (.aload_n 0, 1), (.getfield 231, 3), (.iconst 3, 1), (.if_icmp .ne 44, 3), (.aload_n 0, 1), (.getfield 247, 3), (.bipush 16, 2), (.if_icmp .gt 35, 3), (.aload_n 0, 1), (.getfield 240, 3), (.aload_n 0, 1), (.getfield 67, 3), (.iload_n 2, 1), (.laload, 1), (.lcmp, 1), (.ifCond .ne 21, 3), (.aload_n 0, 1), (.getfield 244, 3), (.aload_n 0, 1), (.getfield 83, 3), (.iload_n 2, 1), (.laload, 1), (.lcmp, 1), (.ifCond .ne 7, 3), (.iload_n 2, 1), (.goto 4, 3)]
def bk_Md_instructionWord_67 : List (Instr × Nat) := [(.iload_n 1, 1), (.ireturn, 1)]
def bk_Md_instructionWord_59 : List (Instr × Nat) := [(.iload_n 1, 1)]
def bk_Md_instructionWord_60 : List (Instr × Nat) := [(.istore_n 1, 1), (.iinc 2 1, 3), (.goto (-60), 3)]
theorem ca_Md_instructionWord_0 : qz_ca yd_Md_instructionWord.2.1 0 bk_Md_instructionWord_0 := qz_cab_ok _ _ (by decide +kernel)
theorem ca_Md_instructionWord_4 : qz_ca yd_Md_instructionWord.2.1 4 bk_Md_instructionWord_4 := qz_cab_ok _ _ (by decide +kernel)
theorem ca_Md_instructionWord_67 : qz_ca yd_Md_instructionWord.2.1 67 bk_Md_instructionWord_67 := qz_cab_ok _ _ (by decide +kernel)
theorem ca_Md_instructionWord_59 : qz_ca yd_Md_instructionWord.2.1 59 bk_Md_instructionWord_59 := qz_cab_ok _ _ (by decide +kernel)
theorem ca_Md_instructionWord_60 : qz_ca yd_Md_instructionWord.2.1 60 bk_Md_instructionWord_60 := qz_cab_ok _ _ (by decide +kernel)
set_option maxRecDepth 20000 in
theorem jb_Md_instructionWord_60 (G : qz_G) (k4 : Int → Int → Int → qz_H → Option qz_R) (jk4 : ∀ (l0 : Int) (l1 : Int) (l2 : Int) (h : qz_H), qz_J yd_Md_instructionWord G bk_Md_instructionWord_4 4 [qz_r true 12 l0, qz_i l1, qz_i l2] [] h 0 0 (k4 l0 l1 l2 h)) (l0 : Int) (l2 : Int) (s0 : Int) (h : qz_H) : qz_J yd_Md_instructionWord G bk_Md_instructionWord_60 60 [qz_r true 12 l0, qz_u, qz_i l2] [qz_i s0] h 0 0 (fn_Md_instructionWord_60 k4 l0 l2 s0 h) := by
  unfold fn_Md_instructionWord_60 bk_Md_instructionWord_60; exact
    qz_istore_n (by decide) fun x1 =>
    qz_iinc rfl (by decide) fun x2 =>
    qz_goto rfl ca_Md_instructionWord_4 <|
    qz_fgt [1, 1, 1] <| jk4 l0 x1 x2 h
set_option maxRecDepth 20000 in
theorem jb_Md_instructionWord_59 (G : qz_G) (k4 : Int → Int → Int → qz_H → Option qz_R) (jk4 : ∀ (l0 : Int) (l1 : Int) (l2 : Int) (h : qz_H), qz_J yd_Md_instructionWord G bk_Md_instructionWord_4 4 [qz_r true 12 l0, qz_i l1, qz_i l2] [] h 0 0 (k4 l0 l1 l2 h)) (l0 : Int) (l1 : Int) (l2 : Int) (h : qz_H) : qz_J yd_Md_instructionWord G bk_Md_instructionWord_59 59 [qz_r true 12 l0, qz_i l1, qz_i l2] [] h 0 0 (fn_Md_instructionWord_59 k4 l0 l1 l2 h) := by
  unfold fn_Md_instructionWord_59 bk_Md_instructionWord_59; exact
    qz_iload_n rfl <|
    qz_fall rfl ca_Md_instructionWord_60 <|
    qz_fgt [1, 0, 1] <| jb_Md_instructionWord_60 G k4 jk4 l0 l2 l1 h
set_option maxRecDepth 20000 in
theorem jb_Md_instructionWord_4_b (G : qz_G) (k4 : Int → Int → Int → qz_H → Option qz_R) (jk4 : ∀ (l0 : Int) (l1 : Int) (l2 : Int) (h : qz_H), qz_J yd_Md_instructionWord G bk_Md_instructionWord_4 4 [qz_r true 12 l0, qz_i l1, qz_i l2] [] h 0 0 (k4 l0 l1 l2 h)) (l0 : Int) (l1 : Int) (l2 : Int) (h : qz_H) : qz_J yd_Md_instructionWord G bk_Md_instructionWord_4 4 [qz_r true 12 l0, qz_i l1, qz_i l2] [] h 0 0 (fn_Md_instructionWord_4_b k4 l0 l1 l2 h) := by
  unfold fn_Md_instructionWord_4_b bk_Md_instructionWord_4; exact
    qz_iload_n rfl <|
    qz_bipush rfl <|
    qz_icmp_ge rfl ca_Md_instructionWord_67
      (qz_iload_n rfl <|
        qz_ireturn ⟨rfl, rfl⟩ rfl)
      (qz_aload_n rfl <|
        qz_getI kg_12 fl_Md_231 rfl rfl <|
        qz_iconst rfl <|
        qz_icmp_ne rfl ca_Md_instructionWord_59
          (qz_fgt [1, 1, 1] <| jb_Md_instructionWord_59 G k4 jk4 l0 l1 l2 h)
          (qz_aload_n rfl <|
            qz_getI kg_12 fl_Md_247 rfl rfl <|
            qz_bipush rfl <|
            qz_icmp_gt rfl ca_Md_instructionWord_59
              (qz_fgt [1, 1, 1] <| jb_Md_instructionWord_59 G k4 jk4 l0 l1 l2 h)
              (qz_aload_n rfl <|
                qz_getJ kg_12 fl_Md_240 rfl rfl <|
                qz_aload_n rfl <|
                qz_getR (k1 := 41) kg_12 fl_Md_67 rfl rfl <|
                qz_iload_n rfl <|
                qz_nnd 1 rfl <|
                qz_lald (k0 := 41) rfl rfl rfl <|
                qz_lcmp <|
                qz_if_ne rfl ca_Md_instructionWord_59
                  (qz_fgt [1, 1, 1] <| jb_Md_instructionWord_59 G k4 jk4 l0 l1 l2 h)
                  (qz_aload_n rfl <|
                    qz_getJ kg_12 fl_Md_244 rfl rfl <|
                    qz_aload_n rfl <|
                    qz_getR (k1 := 41) kg_12 fl_Md_83 rfl rfl <|
                    qz_iload_n rfl <|
                    qz_nnd 1 rfl <|
                    qz_lald (k0 := 41) rfl rfl rfl <|
                    qz_lcmp <|
                    qz_if_ne rfl ca_Md_instructionWord_59
                      (qz_fgt [1, 1, 1] <| jb_Md_instructionWord_59 G k4 jk4 l0 l1 l2 h)
                      (qz_iload_n rfl <|
                        qz_goto rfl ca_Md_instructionWord_60 <|
                        qz_fgt [1, 0, 1] <| jb_Md_instructionWord_60 G k4 jk4 l0 l2 l2 h)))))
theorem jb_Md_instructionWord_4 (G : qz_G) : ∀ (n : Nat) (l0 l1 l2 : Int) (h : qz_H), qz_J yd_Md_instructionWord G bk_Md_instructionWord_4 4 [qz_r true 12 l0, qz_i l1, qz_i l2] [] h 0 0 (fn_Md_instructionWord_4 n l0 l1 l2 h)
  | 0, _, _, _, _ => qz_none
  | n + 1, l0, l1, l2, h => jb_Md_instructionWord_4_b G (fn_Md_instructionWord_4 n) (jb_Md_instructionWord_4 G n) l0 l1 l2 h
set_option maxRecDepth 20000 in
theorem cn_Md_instructionWord (l0 : Int) (h : qz_H) : qz_C yd_Md_instructionWord [qz_r true 12 l0] h (fn_Md_instructionWord l0 h) := by
  refine qz_con (is := bk_Md_instructionWord_0) (ls := [qz_r true 12 l0, qz_u, qz_u]) mw_Md_instructionWord.2.2.2 ca_Md_instructionWord_0 rfl rfl rfl fun G => ?_
  unfold fn_Md_instructionWord bk_Md_instructionWord_0; exact
    qz_iconst rfl <|
    qz_istore_n (by decide) fun x1 =>
    qz_iconst rfl <|
    qz_istore_n (by decide) fun x2 =>
    qz_fall rfl ca_Md_instructionWord_4 <|
    qz_fgt [1, 1, 1] <| jb_Md_instructionWord_4 G qz_NF l0 x1 x2 h
def fn_Md_isPlain_21 (s0 : Int) (h : qz_H) : Option qz_R :=
  qz_ck ((s0 : Int) = 0 ∨ (s0 : Int) = 1) (some (s0, h))
def fn_Md_isPlain_16 (h : qz_H) : Option qz_R :=
  fn_Md_isPlain_21 1 h
def fn_Md_isPlain_20 (h : qz_H) : Option qz_R :=
  fn_Md_isPlain_21 0 h
set_option maxRecDepth 20000 in
def fn_Md_isPlain (l0 : Int) (h : qz_H) : Option qz_R :=
  if l0 < 2 then
    fn_Md_isPlain_16 h
  else
    if l0 ≤ 5 then
      fn_Md_isPlain_20 h
    else
      if l0 = 11 then
        fn_Md_isPlain_20 h
      else
        fn_Md_isPlain_16 h
def bk_Md_isPlain_0 : List (Instr × Nat) := [(.iload_n 0, 1), (.iconst 2, 1), (.if_icmp .lt 14, 3), (.iload_n 0, 1), (.iconst 5, 1), (.if_icmp .le 13, 3), (.iload_n 0, 1), (.bipush 11, 2), (.if_icmp .eq 7, 3)]
def bk_Md_isPlain_16 : List (Instr × Nat) := [(.iconst 1, 1), (.goto 4, 3)]
def bk_Md_isPlain_20 : List (Instr × Nat) := [(.iconst 0, 1)]
def bk_Md_isPlain_21 : List (Instr × Nat) := [(.ireturn, 1)]
theorem ca_Md_isPlain_0 : qz_ca yd_Md_isPlain.2.1 0 bk_Md_isPlain_0 := qz_cab_ok _ _ (by decide +kernel)
theorem ca_Md_isPlain_16 : qz_ca yd_Md_isPlain.2.1 16 bk_Md_isPlain_16 := qz_cab_ok _ _ (by decide +kernel)
theorem ca_Md_isPlain_20 : qz_ca yd_Md_isPlain.2.1 20 bk_Md_isPlain_20 := qz_cab_ok _ _ (by decide +kernel)
theorem ca_Md_isPlain_21 : qz_ca yd_Md_isPlain.2.1 21 bk_Md_isPlain_21 := qz_cab_ok _ _ (by decide +kernel)
set_option maxRecDepth 20000 in
theorem jb_Md_isPlain_21 (G : qz_G) (s0 : Int) (h : qz_H) : qz_J yd_Md_isPlain G bk_Md_isPlain_21 21 [qz_u] [qz_i s0] h 0 0 (fn_Md_isPlain_21 s0 h) := by
  unfold fn_Md_isPlain_21 bk_Md_isPlain_21; exact
    qz_zreturn ⟨rfl, rfl⟩ rfl
set_option maxRecDepth 20000 in
theorem jb_Md_isPlain_16 (G : qz_G) (h : qz_H) : qz_J yd_Md_isPlain G bk_Md_isPlain_16 16 [qz_u] [] h 0 0 (fn_Md_isPlain_16 h) := by
  unfold fn_Md_isPlain_16 bk_Md_isPlain_16; exact
    qz_iconst rfl <|
    qz_goto rfl ca_Md_isPlain_21 <|
    qz_fgt [0] <| jb_Md_isPlain_21 G 1 h
set_option maxRecDepth 20000 in
theorem jb_Md_isPlain_20 (G : qz_G) (h : qz_H) : qz_J yd_Md_isPlain G bk_Md_isPlain_20 20 [qz_u] [] h 0 0 (fn_Md_isPlain_20 h) := by
  unfold fn_Md_isPlain_20 bk_Md_isPlain_20; exact
    qz_iconst rfl <|
    qz_fall rfl ca_Md_isPlain_21 <|
    qz_fgt [0] <| jb_Md_isPlain_21 G 0 h
set_option maxRecDepth 20000 in
theorem cn_Md_isPlain (l0 : Int) (h : qz_H) : qz_C yd_Md_isPlain [qz_i l0] h (fn_Md_isPlain l0 h) := by
  refine qz_con (is := bk_Md_isPlain_0) (ls := [qz_i l0]) mw_Md_isPlain.2.2.2 ca_Md_isPlain_0 rfl rfl rfl fun G => ?_
  unfold fn_Md_isPlain bk_Md_isPlain_0; exact
    qz_iload_n rfl <|
    qz_iconst rfl <|
    qz_icmp_lt rfl ca_Md_isPlain_16
      (qz_fgt [0] <| jb_Md_isPlain_16 G h)
      (qz_iload_n rfl <|
        qz_iconst rfl <|
        qz_icmp_le rfl ca_Md_isPlain_20
          (qz_fgt [0] <| jb_Md_isPlain_20 G h)
          (qz_iload_n rfl <|
            qz_bipush rfl <|
            qz_icmp_eq rfl ca_Md_isPlain_20
              (qz_fgt [0] <| jb_Md_isPlain_20 G h)
              (qz_fall rfl ca_Md_isPlain_16 <|
                qz_fgt [0] <| jb_Md_isPlain_16 G h)))
def fn_Md_variable_58 (l0 : Int) (h : qz_H) : Option qz_R :=
  qz_bc (fn_Md_fail l0 2 h) fun r1 h2 =>
  qz_ck ((r1 : Int) = 0 ∨ (r1 : Int) = 1) (some (r1, h2))
def fn_Md_variable_129 (l0 : Int) (s0 : Int) (s1 : Int) (s2 : Int) (s3 : Int) (h : qz_H) : Option qz_R :=
  qz_ck ((s0 : Int) ≠ 0) <|
  qz_ck (0 < s0 ∧ (0 : Int) ≤ s1 ∧ s1 < h s0 (-1)) <|
  qz_bn (qz_up h s0 s1 (qz_w (s2 + s3))) fun h1 =>
  qz_bc (fn_Md_next l0 h1) fun _ h3 =>
  qz_ck ((1 : Int) = 0 ∨ (1 : Int) = 1) (some (1, h3))
def fn_Md_variable_85 (l0 : Int) (l1 : Int) (l2 : Int) (l3 : Int) (l4 : Int) (l6 : Int) (s0 : Int) (s1 : Int) (s2 : Int) (h : qz_H) : Option qz_R :=
  qz_ck ((s0 : Int) ≠ 0) <|
  qz_ck (0 < s0 ∧ (0 : Int) ≤ s1 ∧ s1 < h s0 (-1)) <|
  qz_bn (qz_up h s0 s1 s2) fun h1 =>
  qz_ck ((h1 l0 26 : Int) ≠ 0) <|
  qz_ck (0 < h1 l0 26 ∧ (0 : Int) ≤ l6 ∧ l6 < h1 (h1 l0 26) (-1)) <|
  qz_bn (qz_up h1 (h1 l0 26) l6 l3) fun h2 =>
  qz_ck ((h2 l0 27 : Int) ≠ 0) <|
  qz_ck (0 < h2 l0 27 ∧ (0 : Int) ≤ l6 ∧ l6 < h2 (h2 l0 27) (-1)) <|
  qz_bn (qz_up h2 (h2 l0 27) l6 l4) fun h3 =>
  qz_ck ((h3 l0 17 : Int) ≠ 0) <|
  qz_ck ((0 : Int) ≤ l1 ∧ l1 < h3 (h3 l0 17) (-1)) <|
  qz_ck ((h3 l0 17 : Int) ≠ 0) <|
  qz_ck (0 < h3 l0 17 ∧ (0 : Int) ≤ l1 ∧ l1 < h3 (h3 l0 17) (-1)) <|
  qz_bn (qz_up h3 (h3 l0 17) l1 (qz_w ((h3 (h3 l0 17) l1) + 1))) fun h4 =>
  qz_ck ((h4 l0 16 : Int) ≠ 0) <|
  qz_ck ((0 : Int) ≤ l1 ∧ l1 < h4 (h4 l0 16) (-1)) <|
  if l2 = 0 then
    fn_Md_variable_129 l0 (h4 l0 16) l1 (h4 (h4 l0 16) l1) 0 h4
  else
    fn_Md_variable_129 l0 (h4 l0 16) l1 (h4 (h4 l0 16) l1) 1 h4
def fn_Md_variable_64 (l0 : Int) (l1 : Int) (l2 : Int) (l3 : Int) (l4 : Int) (l5 : Int) (l6 : Int) (h : qz_H) : Option qz_R :=
  if l5 = 0 then
    fn_Md_variable_85 l0 l1 l2 l3 l4 l6 (h l0 19) (qz_w ((qz_w (8 * l1)) + l6)) 2 h
  else
    fn_Md_variable_85 l0 l1 l2 l3 l4 l6 (h l0 19) (qz_w ((qz_w (8 * l1)) + l6)) 1 h
def fn_Md_variable_32 (l0 : Int) (l1 : Int) (l2 : Int) (l3 : Int) (l4 : Int) (l5 : Int) (h : qz_H) : Option qz_R :=
  qz_ck ((h l0 17 : Int) ≠ 0) <|
  qz_ck ((0 : Int) ≤ l1 ∧ l1 < h (h l0 17) (-1)) <|
  qz_bn (h (h l0 17) l1 : Int) fun x1 =>
  if x1 = 8 then
    fn_Md_variable_58 l0 h
  else
    if l2 = 0 then
      fn_Md_variable_64 l0 l1 l2 l3 l4 l5 x1 h
    else
      if ¬ x1 = 6 then
        fn_Md_variable_64 l0 l1 l2 l3 l4 l5 x1 h
      else
        fn_Md_variable_58 l0 h
set_option maxRecDepth 20000 in
def fn_Md_variable (l0 : Int) (l1 : Int) (l2 : Int) (l3 : Int) (l4 : Int) (h : qz_H) : Option qz_R :=
  qz_bc (fn_Md_is l0 6894386 3 h) fun r1 h2 =>
  qz_bn (r1 : Int) fun x3 =>
  if ¬ x3 = 0 then
    fn_Md_variable_32 l0 l1 l2 l3 l4 x3 h2
  else
    qz_bc (fn_Md_is l0 6895156 3 h2) fun r4 h5 =>
    if ¬ r4 = 0 then
      fn_Md_variable_32 l0 l1 l2 l3 l4 x3 h5
    else
      qz_bc (fn_Md_fail l0 1 h5) fun r6 h7 =>
      qz_ck ((r6 : Int) = 0 ∨ (r6 : Int) = 1) (some (r6, h7))
def bk_Md_variable_0 : List (Instr × Nat) := [(.aload_n 0, 1), (.ldc2_w 338, 3), (.iconst 3, 1), (.invokevirtual 259, 3), (.istore 5, 2), (.iload 5, 2), (.ifCond .ne 20, 3), (.aload_n 0, 1), (.ldc2_w 340, 3), (.iconst 3, 1), (.invokevirtual 259, 3), (.ifCond .ne 9, 3), (.aload_n 0, 1), (.iconst 1, 1), (.invokevirtual 253, 3), (.ireturn, 1)]
def bk_Md_variable_32 : List (Instr × Nat) := [(.aload_n 0, 1), (.getfield 118, 3), (.iload_n 1, 1), (.iaload, 1), (.istore 6, 2), (.iload 6, 2), (.bipush 8, 2), (.if_icmp .eq 14, 3), (.iload_n 2, 1), (.ifCond .eq 16, 3), (.iload 6, 2), (.bipush 6, 2), (.if_icmp .ne 9, 3)]
def bk_Md_variable_58 : List (Instr × Nat) := [(.aload_n 0, 1), (.iconst 2, 1), (.invokevirtual 253, 3), (.ireturn, 1)]
def bk_Md_variable_64 : List (Instr × Nat) := [(.aload_n 0, 1), (.getfield 124, 3), (.bipush 8, 2), (.iload_n 1, 1), (.imul, 1), (.iload 6, 2), (.iadd, 1), (.iload 5, 2), (.ifCond .eq 7, 3), (.iconst 1, 1), (.goto 4, 3)]
def bk_Md_variable_84 : List (Instr × Nat) := [(.iconst 2, 1)]
def bk_Md_variable_85 : List (Instr × Nat) := [(.iastore, 1), (.aload_n 0, 1), (.getfield 142, 3), (.iload 6, 2), (.iload_n 3, 1), (.iastore, 1), (.aload_n 0, 1), (.getfield 145, 3), (.iload 6, 2), (.iload 4, 2), (.iastore, 1), (.aload_n 0, 1), (.getfield 118, 3), (.iload_n 1, 1), (.dup2, 1), (.iaload, 1), (.iconst 1, 1), (.iadd, 1), (.iastore, 1), (.aload_n 0, 1), (.getfield 115, 3), (.iload_n 1, 1), (.dup2, 1), (.iaload, 1), (.iload_n 2, 1), (.ifCond .eq 7, 3), (.iconst 1, 1), (.goto 4, 3)]
def bk_Md_variable_128 : List (Instr × Nat) := [(.iconst 0, 1)]
def bk_Md_variable_129 : List (Instr × Nat) := [(.iadd, 1), (.iastore, 1), (.aload_n 0, 1), (.invokevirtual 256, 3), (.iconst 1, 1), (.ireturn, 1)]
theorem ca_Md_variable_0 : qz_ca yd_Md_variable.2.1 0 bk_Md_variable_0 := qz_cab_ok _ _ (by decide +kernel)
theorem ca_Md_variable_32 : qz_ca yd_Md_variable.2.1 32 bk_Md_variable_32 := qz_cab_ok _ _ (by decide +kernel)
theorem ca_Md_variable_58 : qz_ca yd_Md_variable.2.1 58 bk_Md_variable_58 := qz_cab_ok _ _ (by decide +kernel)
theorem ca_Md_variable_64 : qz_ca yd_Md_variable.2.1 64 bk_Md_variable_64 := qz_cab_ok _ _ (by decide +kernel)
theorem ca_Md_variable_84 : qz_ca yd_Md_variable.2.1 84 bk_Md_variable_84 := qz_cab_ok _ _ (by decide +kernel)
theorem ca_Md_variable_85 : qz_ca yd_Md_variable.2.1 85 bk_Md_variable_85 := qz_cab_ok _ _ (by decide +kernel)
theorem ca_Md_variable_128 : qz_ca yd_Md_variable.2.1 128 bk_Md_variable_128 := qz_cab_ok _ _ (by decide +kernel)
theorem ca_Md_variable_129 : qz_ca yd_Md_variable.2.1 129 bk_Md_variable_129 := qz_cab_ok _ _ (by decide +kernel)
set_option maxRecDepth 20000 in
theorem jb_Md_variable_58 (G : qz_G) (l0 : Int) (h : qz_H) : qz_J yd_Md_variable G bk_Md_variable_58 58 [qz_r true 12 l0, qz_u, qz_u, qz_u, qz_u, qz_u, qz_u] [] h 0 0 (fn_Md_variable_58 l0 h) := by
  unfold fn_Md_variable_58 bk_Md_variable_58; exact
    qz_aload_n rfl <|
    qz_iconst rfl <|
    qz_invvI [qz_i 2] rfl (cn_Md_fail l0 2 h) mw_Md_fail vw_Md_fail ⟨_, rfl, rfl, by decide⟩ rfl rfl ln_Md_253 rfl fun r1 h2 =>
    qz_zreturn ⟨rfl, rfl⟩ rfl
set_option maxRecDepth 20000 in
theorem jb_Md_variable_129 (G : qz_G) (l0 : Int) (s0 : Int) (s1 : Int) (s2 : Int) (s3 : Int) (h : qz_H) : qz_J yd_Md_variable G bk_Md_variable_129 129 [qz_r true 12 l0, qz_u, qz_u, qz_u, qz_u, qz_u, qz_u] [qz_i s3, qz_i s2, qz_i s1, qz_r false 40 s0] h 0 0 (fn_Md_variable_129 l0 s0 s1 s2 s3 h) := by
  unfold fn_Md_variable_129 bk_Md_variable_129; exact
    qz_iadd <|
    qz_nnd 2 rfl <|
    qz_iast rfl rfl rfl fun h1 =>
    qz_aload_n rfl <|
    qz_invvV [] rfl (cn_Md_next l0 h1) mw_Md_next vw_Md_next ⟨_, rfl, rfl, by decide⟩ rfl rfl ln_Md_256 rfl fun _ h3 =>
    qz_iconst rfl <|
    qz_zreturn ⟨rfl, rfl⟩ rfl
set_option maxRecDepth 20000 in
theorem jb_Md_variable_85 (G : qz_G) (l0 : Int) (l1 : Int) (l2 : Int) (l3 : Int) (l4 : Int) (l6 : Int) (s0 : Int) (s1 : Int) (s2 : Int) (h : qz_H) : qz_J yd_Md_variable G bk_Md_variable_85 85 [qz_r true 12 l0, qz_i l1, qz_i l2, qz_i l3, qz_i l4, qz_u, qz_i l6] [qz_i s2, qz_i s1, qz_r false 40 s0] h 0 0 (fn_Md_variable_85 l0 l1 l2 l3 l4 l6 s0 s1 s2 h) := by
  unfold fn_Md_variable_85 bk_Md_variable_85; exact
    qz_nnd 2 rfl <|
    qz_iast rfl rfl rfl fun h1 =>
    qz_aload_n rfl <|
    qz_getR (k1 := 40) kg_12 fl_Md_142 rfl rfl <|
    qz_iload rfl <|
    qz_iload_n rfl <|
    qz_nnd 2 rfl <|
    qz_iast rfl rfl rfl fun h2 =>
    qz_aload_n rfl <|
    qz_getR (k1 := 40) kg_12 fl_Md_145 rfl rfl <|
    qz_iload rfl <|
    qz_iload rfl <|
    qz_nnd 2 rfl <|
    qz_iast rfl rfl rfl fun h3 =>
    qz_aload_n rfl <|
    qz_getR (k1 := 40) kg_12 fl_Md_118 rfl rfl <|
    qz_iload_n rfl <|
    qz_dup2 rfl rfl <|
    qz_nnd 1 rfl <|
    qz_iald (k0 := 40) rfl rfl rfl <|
    qz_iconst rfl <|
    qz_iadd <|
    qz_nnd 2 rfl <|
    qz_iast rfl rfl rfl fun h4 =>
    qz_aload_n rfl <|
    qz_getR (k1 := 40) kg_12 fl_Md_115 rfl rfl <|
    qz_iload_n rfl <|
    qz_dup2 rfl rfl <|
    qz_nnd 1 rfl <|
    qz_iald (k0 := 40) rfl rfl rfl <|
    qz_iload_n rfl <|
    qz_if_eq rfl ca_Md_variable_128
      (qz_iconst rfl <|
        qz_fall rfl ca_Md_variable_129 <|
        qz_fgt [1, 0, 0, 0, 0, 0, 0] <| jb_Md_variable_129 G l0 (h4 l0 16) l1 (h4 (h4 l0 16) l1) 0 h4)
      (qz_iconst rfl <|
        qz_goto rfl ca_Md_variable_129 <|
        qz_fgt [1, 0, 0, 0, 0, 0, 0] <| jb_Md_variable_129 G l0 (h4 l0 16) l1 (h4 (h4 l0 16) l1) 1 h4)
set_option maxRecDepth 20000 in
theorem jb_Md_variable_64 (G : qz_G) (l0 : Int) (l1 : Int) (l2 : Int) (l3 : Int) (l4 : Int) (l5 : Int) (l6 : Int) (h : qz_H) : qz_J yd_Md_variable G bk_Md_variable_64 64 [qz_r true 12 l0, qz_i l1, qz_i l2, qz_i l3, qz_i l4, qz_i l5, qz_i l6] [] h 0 0 (fn_Md_variable_64 l0 l1 l2 l3 l4 l5 l6 h) := by
  unfold fn_Md_variable_64 bk_Md_variable_64; exact
    qz_aload_n rfl <|
    qz_getR (k1 := 40) kg_12 fl_Md_124 rfl rfl <|
    qz_bipush rfl <|
    qz_iload_n rfl <|
    qz_imul <|
    qz_iload rfl <|
    qz_iadd <|
    qz_iload rfl <|
    qz_if_eq rfl ca_Md_variable_84
      (qz_iconst rfl <|
        qz_fall rfl ca_Md_variable_85 <|
        qz_fgt [1, 1, 1, 1, 1, 0, 1] <| jb_Md_variable_85 G l0 l1 l2 l3 l4 l6 (h l0 19) (qz_w ((qz_w (8 * l1)) + l6)) 2 h)
      (qz_iconst rfl <|
        qz_goto rfl ca_Md_variable_85 <|
        qz_fgt [1, 1, 1, 1, 1, 0, 1] <| jb_Md_variable_85 G l0 l1 l2 l3 l4 l6 (h l0 19) (qz_w ((qz_w (8 * l1)) + l6)) 1 h)
set_option maxRecDepth 20000 in
theorem jb_Md_variable_32 (G : qz_G) (l0 : Int) (l1 : Int) (l2 : Int) (l3 : Int) (l4 : Int) (l5 : Int) (h : qz_H) : qz_J yd_Md_variable G bk_Md_variable_32 32 [qz_r true 12 l0, qz_i l1, qz_i l2, qz_i l3, qz_i l4, qz_i l5, qz_u] [] h 0 0 (fn_Md_variable_32 l0 l1 l2 l3 l4 l5 h) := by
  unfold fn_Md_variable_32 bk_Md_variable_32; exact
    qz_aload_n rfl <|
    qz_getR (k1 := 40) kg_12 fl_Md_118 rfl rfl <|
    qz_iload_n rfl <|
    qz_nnd 1 rfl <|
    qz_iald (k0 := 40) rfl rfl rfl <|
    qz_istore (by decide) fun x1 =>
    qz_iload rfl <|
    qz_bipush rfl <|
    qz_icmp_eq rfl ca_Md_variable_58
      (qz_fgt [1, 0, 0, 0, 0, 0, 0] <| jb_Md_variable_58 G l0 h)
      (qz_iload_n rfl <|
        qz_if_eq rfl ca_Md_variable_64
          (qz_fgt [1, 1, 1, 1, 1, 1, 1] <| jb_Md_variable_64 G l0 l1 l2 l3 l4 l5 x1 h)
          (qz_iload rfl <|
            qz_bipush rfl <|
            qz_icmp_ne rfl ca_Md_variable_64
              (qz_fgt [1, 1, 1, 1, 1, 1, 1] <| jb_Md_variable_64 G l0 l1 l2 l3 l4 l5 x1 h)
              (qz_fall rfl ca_Md_variable_58 <|
                qz_fgt [1, 0, 0, 0, 0, 0, 0] <| jb_Md_variable_58 G l0 h)))
set_option maxRecDepth 20000 in
theorem cn_Md_variable (l0 : Int) (l1 : Int) (l2 : Int) (l3 : Int) (l4 : Int) (h : qz_H) : qz_C yd_Md_variable [qz_r true 12 l0, qz_i l1, qz_i l2, qz_i l3, qz_i l4] h (fn_Md_variable l0 l1 l2 l3 l4 h) := by
  refine qz_con (is := bk_Md_variable_0) (ls := [qz_r true 12 l0, qz_i l1, qz_i l2, qz_i l3, qz_i l4, qz_u, qz_u]) mw_Md_variable.2.2.2 ca_Md_variable_0 rfl rfl rfl fun G => ?_
  unfold fn_Md_variable bk_Md_variable_0; exact
    qz_aload_n rfl <|
    qz_ldc2 wc_Md_338 rfl <|
    qz_iconst rfl <|
    qz_invvI [qz_j 6894386, qz_i 3] rfl (cn_Md_is l0 6894386 3 h) mw_Md_is vw_Md_is ⟨_, rfl, rfl, by decide⟩ rfl rfl ln_Md_259 rfl fun r1 h2 =>
    qz_istore (by decide) fun x3 =>
    qz_iload rfl <|
    qz_if_ne rfl ca_Md_variable_32
      (qz_fgt [1, 1, 1, 1, 1, 1, 0] <| jb_Md_variable_32 G l0 l1 l2 l3 l4 x3 h2)
      (qz_aload_n rfl <|
        qz_ldc2 wc_Md_340 rfl <|
        qz_iconst rfl <|
        qz_invvI [qz_j 6895156, qz_i 3] rfl (cn_Md_is l0 6895156 3 h2) mw_Md_is vw_Md_is ⟨_, rfl, rfl, by decide⟩ rfl rfl ln_Md_259 rfl fun r4 h5 =>
        qz_if_ne rfl ca_Md_variable_32
          (qz_fgt [1, 1, 1, 1, 1, 1, 0] <| jb_Md_variable_32 G l0 l1 l2 l3 l4 x3 h5)
          (qz_aload_n rfl <|
            qz_iconst rfl <|
            qz_invvI [qz_i 1] rfl (cn_Md_fail l0 1 h5) mw_Md_fail vw_Md_fail ⟨_, rfl, rfl, by decide⟩ rfl rfl ln_Md_253 rfl fun r6 h7 =>
            qz_zreturn ⟨rfl, rfl⟩ rfl))
def fn_Md_variables_62_b (k62 : Int → Int → Int → qz_H → Option qz_R) (l0 : Int) (l1 : Int) (l2 : Int) (h : qz_H) : Option qz_R :=
  if h l0 33 = 2 then
    qz_bc (fn_Md_next l0 h) fun _ h2 =>
    qz_ck ((1 : Int) = 0 ∨ (1 : Int) = 1) (some (1, h2))
  else
    qz_bc (fn_Md_variable l0 l1 l2 0 0 h) fun r3 h4 =>
    if ¬ r3 = 0 then
      k62 l0 l1 l2 h4
    else
      qz_ck ((0 : Int) = 0 ∨ (0 : Int) = 1) (some (0, h4))
def fn_Md_variables_62 : Nat → Int → Int → Int → qz_H → Option qz_R
  | 0, _, _, _, _ => none
  | n + 1, l0, l1, l2, h => fn_Md_variables_62_b (fn_Md_variables_62 n) l0 l1 l2 h
def fn_Md_variables_61 (s0 : Int) (h : qz_H) : Option qz_R :=
  qz_ck ((s0 : Int) = 0 ∨ (s0 : Int) = 1) (some (s0, h))
def fn_Md_variables_60 (h : qz_H) : Option qz_R :=
  fn_Md_variables_61 0 h
set_option maxRecDepth 20000 in
def fn_Md_variables (l0 : Int) (l1 : Int) (l2 : Int) (h : qz_H) : Option qz_R :=
  qz_bc (fn_Md_isId l0 h) fun r1 h2 =>
  if r1 = 0 then
    fn_Md_variables_62 qz_NF l0 l1 l2 h2
  else
    qz_bc (fn_Md_variableOf l0 l1 h2) fun r3 h4 =>
    if r3 < 0 then
      qz_bn (h4 l0 34 : Int) fun x5 =>
      qz_bn (h4 l0 35 : Int) fun x6 =>
      qz_bc (fn_Md_next l0 h4) fun _ h8 =>
      qz_bc (fn_Md_variable l0 l1 l2 x5 x6 h8) fun r9 h10 =>
      if r9 = 0 then
        fn_Md_variables_60 h10
      else
        qz_bc (fn_Md_pass l0 2 h10) fun r11 h12 =>
        if r11 = 0 then
          fn_Md_variables_60 h12
        else
          fn_Md_variables_61 1 h12
    else
      qz_bc (fn_Md_fail l0 1 h4) fun r13 h14 =>
      qz_ck ((r13 : Int) = 0 ∨ (r13 : Int) = 1) (some (r13, h14))
def bk_Md_variables_0 : List (Instr × Nat) := [(.aload_n 0, 1), (.invokevirtual 284, 3), (.ifCond .eq 58, 3), (.aload_n 0, 1), (.iload_n 1, 1), (.invokevirtual 294, 3), (.ifCond .lt 9, 3), (.aload_n 0, 1), (.iconst 1, 1), (.invokevirtual 253, 3), (.ireturn, 1)]
def bk_Md_variables_62 : List (Instr × Nat) := [(.aload_n 0, 1), (.getfield 231, 3), (.iconst 2, 1), (.if_icmp .eq 16, 3), (.aload_n 0, 1), (.iload_n 1, 1), (.iload_n 2, 1), (.iconst 0, 1), (.iconst 0, 1), (.invokevirtual 342, 3), (.ifCond .ne (-16), 3), (.iconst 0, 1), (.ireturn, 1)]
def bk_Md_variables_21 : List (Instr × Nat) := [(.aload_n 0, 1), (.getfield 224, 3), (.istore_n 3, 1), (.aload_n 0, 1), (.getfield 247, 3), (.istore 4, 2), (.aload_n 0, 1), (.invokevirtual 256, 3), (.aload_n 0, 1), (.iload_n 1, 1), (.iload_n 2, 1), (.iload_n 3, 1), (.iload 4, 2), (.invokevirtual 342, 3), (.ifCond .eq 15, 3), (.aload_n 0, 1), (.iconst 2, 1), (.invokevirtual 310, 3), (.ifCond .eq 7, 3), (.iconst 1, 1), (.goto 4, 3)]
def bk_Md_variables_60 : List (Instr × Nat) := [(.iconst 0, 1)]
def bk_Md_variables_61 : List (Instr × Nat) := [(.ireturn, 1)]
def bk_Md_variables_83 : List (Instr × Nat) := [(.aload_n 0, 1), (.invokevirtual 256, 3), (.iconst 1, 1), (.ireturn, 1)]
theorem ca_Md_variables_0 : qz_ca yd_Md_variables.2.1 0 bk_Md_variables_0 := qz_cab_ok _ _ (by decide +kernel)
theorem ca_Md_variables_62 : qz_ca yd_Md_variables.2.1 62 bk_Md_variables_62 := qz_cab_ok _ _ (by decide +kernel)
theorem ca_Md_variables_21 : qz_ca yd_Md_variables.2.1 21 bk_Md_variables_21 := qz_cab_ok _ _ (by decide +kernel)
theorem ca_Md_variables_60 : qz_ca yd_Md_variables.2.1 60 bk_Md_variables_60 := qz_cab_ok _ _ (by decide +kernel)
theorem ca_Md_variables_61 : qz_ca yd_Md_variables.2.1 61 bk_Md_variables_61 := qz_cab_ok _ _ (by decide +kernel)
theorem ca_Md_variables_83 : qz_ca yd_Md_variables.2.1 83 bk_Md_variables_83 := qz_cab_ok _ _ (by decide +kernel)
set_option maxRecDepth 20000 in
theorem jb_Md_variables_62_b (G : qz_G) (k62 : Int → Int → Int → qz_H → Option qz_R) (jk62 : ∀ (l0 : Int) (l1 : Int) (l2 : Int) (h : qz_H), qz_J yd_Md_variables G bk_Md_variables_62 62 [qz_r true 12 l0, qz_i l1, qz_i l2, qz_u, qz_u] [] h 0 0 (k62 l0 l1 l2 h)) (l0 : Int) (l1 : Int) (l2 : Int) (h : qz_H) : qz_J yd_Md_variables G bk_Md_variables_62 62 [qz_r true 12 l0, qz_i l1, qz_i l2, qz_u, qz_u] [] h 0 0 (fn_Md_variables_62_b k62 l0 l1 l2 h) := by
  unfold fn_Md_variables_62_b bk_Md_variables_62; exact
    qz_aload_n rfl <|
    qz_getI kg_12 fl_Md_231 rfl rfl <|
    qz_iconst rfl <|
    qz_icmp_eq rfl ca_Md_variables_83
      (qz_aload_n rfl <|
        qz_invvV [] rfl (cn_Md_next l0 h) mw_Md_next vw_Md_next ⟨_, rfl, rfl, by decide⟩ rfl rfl ln_Md_256 rfl fun _ h2 =>
        qz_iconst rfl <|
        qz_zreturn ⟨rfl, rfl⟩ rfl)
      (qz_aload_n rfl <|
        qz_iload_n rfl <|
        qz_iload_n rfl <|
        qz_iconst rfl <|
        qz_iconst rfl <|
        qz_invvI [qz_i l1, qz_i l2, qz_i 0, qz_i 0] rfl (cn_Md_variable l0 l1 l2 0 0 h) mw_Md_variable vw_Md_variable ⟨_, rfl, rfl, by decide⟩ rfl rfl ln_Md_342 rfl fun r3 h4 =>
        qz_if_ne rfl ca_Md_variables_62
          (qz_fgt [1, 1, 1, 0, 0] <| jk62 l0 l1 l2 h4)
          (qz_iconst rfl <|
            qz_zreturn ⟨rfl, rfl⟩ rfl))
theorem jb_Md_variables_62 (G : qz_G) : ∀ (n : Nat) (l0 l1 l2 : Int) (h : qz_H), qz_J yd_Md_variables G bk_Md_variables_62 62 [qz_r true 12 l0, qz_i l1, qz_i l2, qz_u, qz_u] [] h 0 0 (fn_Md_variables_62 n l0 l1 l2 h)
  | 0, _, _, _, _ => qz_none
  | n + 1, l0, l1, l2, h => jb_Md_variables_62_b G (fn_Md_variables_62 n) (jb_Md_variables_62 G n) l0 l1 l2 h
set_option maxRecDepth 20000 in
theorem jb_Md_variables_61 (G : qz_G) (s0 : Int) (h : qz_H) : qz_J yd_Md_variables G bk_Md_variables_61 61 [qz_u, qz_u, qz_u, qz_u, qz_u] [qz_i s0] h 0 0 (fn_Md_variables_61 s0 h) := by
  unfold fn_Md_variables_61 bk_Md_variables_61; exact
    qz_zreturn ⟨rfl, rfl⟩ rfl
set_option maxRecDepth 20000 in
theorem jb_Md_variables_60 (G : qz_G) (h : qz_H) : qz_J yd_Md_variables G bk_Md_variables_60 60 [qz_u, qz_u, qz_u, qz_u, qz_u] [] h 0 0 (fn_Md_variables_60 h) := by
  unfold fn_Md_variables_60 bk_Md_variables_60; exact
    qz_iconst rfl <|
    qz_fall rfl ca_Md_variables_61 <|
    qz_fgt [0, 0, 0, 0, 0] <| jb_Md_variables_61 G 0 h
set_option maxRecDepth 20000 in
theorem cn_Md_variables (l0 : Int) (l1 : Int) (l2 : Int) (h : qz_H) : qz_C yd_Md_variables [qz_r true 12 l0, qz_i l1, qz_i l2] h (fn_Md_variables l0 l1 l2 h) := by
  refine qz_con (is := bk_Md_variables_0) (ls := [qz_r true 12 l0, qz_i l1, qz_i l2, qz_u, qz_u]) mw_Md_variables.2.2.2 ca_Md_variables_0 rfl rfl rfl fun G => ?_
  unfold fn_Md_variables bk_Md_variables_0; exact
    qz_aload_n rfl <|
    qz_invvI [] rfl (cn_Md_isId l0 h) mw_Md_isId vw_Md_isId ⟨_, rfl, rfl, by decide⟩ rfl rfl ln_Md_284 rfl fun r1 h2 =>
    qz_if_eq rfl ca_Md_variables_62
      (qz_fgt [1, 1, 1, 0, 0] <| jb_Md_variables_62 G qz_NF l0 l1 l2 h2)
      (qz_aload_n rfl <|
        qz_iload_n rfl <|
        qz_invvI [qz_i l1] rfl (cn_Md_variableOf l0 l1 h2) mw_Md_variableOf vw_Md_variableOf ⟨_, rfl, rfl, by decide⟩ rfl rfl ln_Md_294 rfl fun r3 h4 =>
        qz_if_lt rfl ca_Md_variables_21
          (qz_aload_n rfl <|
            qz_getI kg_12 fl_Md_224 rfl rfl <|
            qz_istore_n (by decide) fun x5 =>
            qz_aload_n rfl <|
            qz_getI kg_12 fl_Md_247 rfl rfl <|
            qz_istore (by decide) fun x6 =>
            qz_aload_n rfl <|
            qz_invvV [] rfl (cn_Md_next l0 h4) mw_Md_next vw_Md_next ⟨_, rfl, rfl, by decide⟩ rfl rfl ln_Md_256 rfl fun _ h8 =>
            qz_aload_n rfl <|
            qz_iload_n rfl <|
            qz_iload_n rfl <|
            qz_iload_n rfl <|
            qz_iload rfl <|
            qz_invvI [qz_i l1, qz_i l2, qz_i x5, qz_i x6] rfl (cn_Md_variable l0 l1 l2 x5 x6 h8) mw_Md_variable vw_Md_variable ⟨_, rfl, rfl, by decide⟩ rfl rfl ln_Md_342 rfl fun r9 h10 =>
            qz_if_eq rfl ca_Md_variables_60
              (qz_fgt [0, 0, 0, 0, 0] <| jb_Md_variables_60 G h10)
              (qz_aload_n rfl <|
                qz_iconst rfl <|
                qz_invvI [qz_i 2] rfl (cn_Md_pass l0 2 h10) mw_Md_pass vw_Md_pass ⟨_, rfl, rfl, by decide⟩ rfl rfl ln_Md_310 rfl fun r11 h12 =>
                qz_if_eq rfl ca_Md_variables_60
                  (qz_fgt [0, 0, 0, 0, 0] <| jb_Md_variables_60 G h12)
                  (qz_iconst rfl <|
                    qz_goto rfl ca_Md_variables_61 <|
                    qz_fgt [0, 0, 0, 0, 0] <| jb_Md_variables_61 G 1 h12)))
          (qz_aload_n rfl <|
            qz_iconst rfl <|
            qz_invvI [qz_i 1] rfl (cn_Md_fail l0 1 h4) mw_Md_fail vw_Md_fail ⟨_, rfl, rfl, by decide⟩ rfl rfl ln_Md_253 rfl fun r13 h14 =>
            qz_zreturn ⟨rfl, rfl⟩ rfl))
